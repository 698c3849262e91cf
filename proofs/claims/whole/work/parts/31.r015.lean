/-! the machine does what the functions say -/
set_option maxRecDepth 16000
theorem e_X9_bestHire (I : Nat → Int32) (L : Nat → Int64) (A : Nat → Nat → Int32) (J : Nat → Nat → Int64) (rt : Nat) (sc : Nat) : ∀ r : (Int32 × (Nat → Int32) × (Nat → Nat → Int32) × Nat), g_X9_bestHire I A sc = some r → tw_ME 142 (0, [some (.ref 0)], [], (I, L, tw_P 2 14 rt sc, A, J, 57)) (some (.int r.1), ((r.2.1), L, tw_P 2 14 rt (r.2.2.2), (r.2.2.1), J, 57)) := by
  intro r h
  unfold g_X9_bestHire at h
  refine tw_blk (cd := tw_c142) rfl 1 (c1 := (1, [some (.ref 0)], [.ref 0], (I, L, tw_P 2 14 rt sc, A, J, 57))) rfl ?_
  refine tw_callE (cd := tw_c142) rfl rfl rfl rfl rfl (e_X9_hasTown I L A J rt sc _ rfl) (by exact Or.inl rfl) ?_
  by_cases hc1 : (g_X9_hasTown A) = true
  · rw [if_pos hc1] at h
    refine tw_br (cd := tw_c142) rfl rfl rfl (by exact if_neg (tw_b_t hc1)) ?_
    refine tw_blk (cd := tw_c142) rfl 1 (c1 := (8, [some (.ref 0)], [.ref 0], (I, L, tw_P 2 14 rt sc, A, J, 57))) rfl ?_
    obtain ⟨⟨I2, A3⟩, hx4, h⟩ := tw_bindE h
    dsimp only at h
    refine tw_callE (cd := tw_c142) rfl rfl rfl rfl rfl (e_X9_showNow I L A J rt sc _ hx4) (by exact Or.inl rfl) ?_
    refine tw_blk (cd := tw_c142) rfl 3 (c1 := (12, [some (.ref 0)], [.ref 41, .ref 0], (I2, L, tw_P 2 14 rt 2, A3, J, 57))) rfl ?_
    obtain ⟨⟨x5, I6, A7⟩, hx8, h⟩ := tw_bindE h
    dsimp only at h
    refine tw_callE (cd := tw_c142) rfl rfl rfl rfl rfl (e_X3_bestSending I2 L A3 J 2 14 rt _ hx8) (by exact Or.inl rfl) ?_
    obtain ⟨⟨x9, I10⟩, hx11, h⟩ := tw_letE h
    dsimp only at h
    refine tw_callE (cd := tw_c142) rfl rfl rfl rfl rfl (e_X9_grant I6 L A7 J 2 14 rt 2 x5 _ hx11) (by exact Or.inl rfl) ?_
    have h := Option.some.inj h
    subst h
    exact tw_retE (cd := tw_c142) rfl rfl rfl rfl
  · rw [if_neg hc1] at h
    refine tw_br (cd := tw_c142) rfl rfl rfl (by exact if_pos (tw_b_f hc1)) ?_
    refine tw_blk (cd := tw_c142) rfl 2 (c1 := (5, [some (.ref 0)], [.int 1, .ref 0], (I, L, tw_P 2 14 rt sc, A, J, 57))) rfl ?_
    obtain ⟨⟨x12, I13⟩, hx14, h⟩ := tw_letE h
    dsimp only at h
    refine tw_callE (cd := tw_c142) rfl rfl rfl rfl rfl (e_X9_refuse I L A J 2 14 rt sc (1 : Int32) _ hx14) (by exact Or.inl rfl) ?_
    have h := Option.some.inj h
    subst h
    exact tw_retE (cd := tw_c142) rfl rfl rfl rfl
theorem g_X10_bestHire_L2_ok (I : Nat → Int32) (L : Nat → Int64) (A : Nat → Nat → Int32) (J : Nat → Nat → Int64) (tw : Nat) (dr : Nat) (rt : Nat) (sc : Nat) (I1 : Nat → Int32) (A7 : Nat → Nat → Int32) (x9 : Int32) (I10 : Nat → Int32) (x12 : Int32) (v1_1 : Int32) (v1_2 : Int32) (v1_3 : Int32) (I_1 : Nat → Int32) (A_1 : Nat → Nat → Int32) (x18 : Int32) (out : Option Value × tw_S) : ∀ (n : Nat) (v2_1 : Int32) (v2_2 : Int32) (v2_4 : Int32) (I_2 : Nat → Int32) (A_2 : Nat → Nat → Int32) (ex : (Int32 × Int32 × (Nat → Int32) × (Nat → Nat → Int32))), g_X10_bestHire_L2 v1_3 n v2_1 v2_2 v2_4 I_2 A_2 = some ex → tw_ME 283 (57, [some (.ref 44), some (.int (ex.1)), some (.int (ex.2.1)), some (.int v1_3), none, none], [], ((ex.2.2.1), L, tw_P tw dr rt sc, (ex.2.2.2), J, 57)) out → tw_ME 283 (27, [some (.ref 44), some (.int v2_1), some (.int v2_2), some (.int v1_3), some (.int v2_4), none], [], (I_2, L, tw_P tw dr rt sc, A_2, J, 57)) out := by
  intro n
  induction n with
  | zero =>
    intro v2_1 v2_2 v2_4 I_2 A_2 ex h _
    cases h
  | succ n ih =>
    intro v2_1 v2_2 v2_4 I_2 A_2 ex h K
    rw [g_X10_bestHire_L2] at h
    refine tw_blk (cd := tw_c283) rfl 1 (c1 := (28, [some (.ref 44), some (.int v2_1), some (.int v2_2), some (.int v1_3), some (.int v2_4), none], [.int v2_4], (I_2, L, tw_P tw dr rt sc, A_2, J, 57))) rfl ?_
    refine tw_blk (cd := tw_c283) rfl 3 (c1 := (31, [some (.ref 44), some (.int v2_1), some (.int v2_2), some (.int v1_3), some (.int v2_4), none], [.int 1, .ref 47, .int v2_4], (I_2, L, tw_P tw dr rt sc, A_2, J, 57))) rfl ?_
    obtain ⟨x25, hx24, h⟩ := tw_bindE h
    refine tw_iald (cd := tw_c283) (N := 241) rfl rfl rfl rfl hx24 ?_
    by_cases hc26 : x25 ≤ v2_4
    · rw [if_pos hc26] at h
      refine tw_br (cd := tw_c283) rfl rfl rfl (by exact if_pos hc26) ?_
      refine tw_forget (ls2 := [some (.ref 44), some (.int v2_1), some (.int v2_2), some (.int v1_3), none, none]) ⟨rfl, rfl, rfl, rfl, trivial⟩ ?_
      have h := Option.some.inj h
      subst h
      exact K
    · rw [if_neg hc26] at h
      refine tw_br (cd := tw_c283) rfl rfl rfl (by exact if_neg hc26) ?_
      refine tw_blk (cd := tw_c283) rfl 2 (c1 := (35, [some (.ref 44), some (.int v2_1), some (.int v2_2), some (.int v1_3), some (.int v2_4), none], [.int v1_3, .ref 44], (I_2, L, tw_P tw dr rt sc, A_2, J, 57))) rfl ?_
      obtain ⟨c27, hx28, h⟩ := tw_bindE h
      refine tw_callE (cd := tw_c283) rfl rfl rfl rfl rfl (e_X10_canHire I_2 L A_2 J tw dr rt sc v1_3 _ hx28) (by exact Or.inl rfl) ?_
      by_cases hc29 : c27 = true
      · rw [if_pos hc29] at h
        refine tw_br (cd := tw_c283) rfl rfl rfl (by exact if_neg (tw_b_t hc29)) ?_
        refine tw_blk (cd := tw_c283) rfl 3 (c1 := (40, [some (.ref 44), some (.int v2_1), some (.int v2_2), some (.int v1_3), some (.int v2_4), none], [.int v2_4, .int v1_3, .ref 44], (I_2, L, tw_P tw dr rt sc, A_2, J, 57))) rfl ?_
        obtain ⟨⟨x30, I31, A32⟩, hx33, h⟩ := tw_bindE h
        dsimp only at h
        refine tw_callE (cd := tw_c283) rfl rfl rfl rfl rfl (e_X10_stoppedWith I_2 L A_2 J tw dr rt sc v1_3 v2_4 _ hx33) (by exact Or.inl rfl) ?_
        obtain ⟨x34, hx35, h⟩ := tw_bindE h
        refine tw_callE (cd := tw_c283) rfl rfl rfl rfl rfl (e_X10_ones I31 L A32 J tw dr rt sc x30 _ hx35) (by exact Or.inl rfl) ?_
        refine tw_blk (cd := tw_c283) rfl 3 (c1 := (45, [some (.ref 44), some (.int v2_1), some (.int v2_2), some (.int v1_3), some (.int v2_4), some (.int x34)], [.int v2_1, .int x34], (I31, L, tw_P tw dr rt sc, A32, J, 57))) rfl ?_
        obtain ⟨⟨x37, x38⟩, hj39, h⟩ := tw_bindE h
        dsimp only at h
        have K : tw_ME 283 (55, [some (.ref 44), some (.int x37), some (.int x38), some (.int v1_3), some (.int v2_4), none], [], (I31, L, tw_P tw dr rt sc, A32, J, 57)) out := by
          refine tw_blk (cd := tw_c283) rfl 2 (c1 := (27, [some (.ref 44), some (.int x37), some (.int x38), some (.int v1_3), some (.int (v2_4 + (1 : Int32))), none], [], (I31, L, tw_P tw dr rt sc, A32, J, 57))) rfl ?_
          exact ih x37 x38 (v2_4 + (1 : Int32)) I31 A32 _ h K
        by_cases hc36 : v2_1 < x34
        · rw [if_pos hc36] at hj39
          refine tw_br (cd := tw_c283) rfl rfl rfl (by exact if_pos hc36) ?_
          refine tw_blk (cd := tw_c283) rfl 8 (c1 := (55, [some (.ref 44), some (.int x34), some (.int (((10 : Int32) * v1_3) + v2_4)), some (.int v1_3), some (.int v2_4), some (.int x34)], [], (I31, L, tw_P tw dr rt sc, A32, J, 57))) rfl ?_
          refine tw_forget (ls2 := [some (.ref 44), some (.int x34), some (.int (((10 : Int32) * v1_3) + v2_4)), some (.int v1_3), some (.int v2_4), none]) ⟨rfl, rfl, rfl, rfl, rfl, trivial⟩ ?_
          have hj39s := Option.some.inj hj39
          obtain ⟨hj39_0, hj39r0⟩ := Prod.mk.inj hj39s
          subst hj39_0
          subst hj39r0
          exact K
        · rw [if_neg hc36] at hj39
          refine tw_br (cd := tw_c283) rfl rfl rfl (by exact if_neg hc36) ?_
          refine tw_blk (cd := tw_c283) rfl 1 (c1 := (55, [some (.ref 44), some (.int v2_1), some (.int v2_2), some (.int v1_3), some (.int v2_4), some (.int x34)], [], (I31, L, tw_P tw dr rt sc, A32, J, 57))) rfl ?_
          refine tw_forget (ls2 := [some (.ref 44), some (.int v2_1), some (.int v2_2), some (.int v1_3), some (.int v2_4), none]) ⟨rfl, rfl, rfl, rfl, rfl, trivial⟩ ?_
          have hj39s := Option.some.inj hj39
          obtain ⟨hj39_0, hj39r0⟩ := Prod.mk.inj hj39s
          subst hj39_0
          subst hj39r0
          exact K
      · rw [if_neg hc29] at h
        refine tw_br (cd := tw_c283) rfl rfl rfl (by exact if_pos (tw_b_f hc29)) ?_
        refine tw_forget (ls2 := [some (.ref 44), some (.int v2_1), some (.int v2_2), some (.int v1_3), none, none]) ⟨rfl, rfl, rfl, rfl, trivial⟩ ?_
        have h := Option.some.inj h
        subst h
        exact K
theorem g_X10_bestHire_L1_ok (I : Nat → Int32) (L : Nat → Int64) (A : Nat → Nat → Int32) (J : Nat → Nat → Int64) (tw : Nat) (dr : Nat) (rt : Nat) (sc : Nat) (I1 : Nat → Int32) (A7 : Nat → Nat → Int32) (x9 : Int32) (I10 : Nat → Int32) (x12 : Int32) (out : Option Value × tw_S) : ∀ (n : Nat) (v1_1 : Int32) (v1_2 : Int32) (v1_3 : Int32) (I_1 : Nat → Int32) (A_1 : Nat → Nat → Int32) (ex : (Int32 × (Nat → Int32) × (Nat → Nat → Int32))), g_X10_bestHire_L1 n v1_1 v1_2 v1_3 I_1 A_1 = some ex → tw_ME 283 (59, [none, none, some (.int (ex.1)), none, none, none], [], ((ex.2.1), L, tw_P tw dr rt sc, (ex.2.2), J, 57)) out → tw_ME 283 (19, [some (.ref 44), some (.int v1_1), some (.int v1_2), some (.int v1_3), none, none], [], (I_1, L, tw_P tw dr rt sc, A_1, J, 57)) out := by
  intro n
  induction n with
  | zero =>
    intro v1_1 v1_2 v1_3 I_1 A_1 ex h _
    cases h
  | succ n ih =>
    intro v1_1 v1_2 v1_3 I_1 A_1 ex h K
    rw [g_X10_bestHire_L1] at h
    refine tw_blk (cd := tw_c283) rfl 1 (c1 := (20, [some (.ref 44), some (.int v1_1), some (.int v1_2), some (.int v1_3), none, none], [.int v1_3], (I_1, L, tw_P tw dr rt sc, A_1, J, 57))) rfl ?_
    refine tw_blk (cd := tw_c283) rfl 3 (c1 := (23, [some (.ref 44), some (.int v1_1), some (.int v1_2), some (.int v1_3), none, none], [.int 3, .ref 47, .int v1_3], (I_1, L, tw_P tw dr rt sc, A_1, J, 57))) rfl ?_
    obtain ⟨x18, hx17, h⟩ := tw_bindE h
    refine tw_iald (cd := tw_c283) (N := 241) rfl rfl rfl rfl hx17 ?_
    by_cases hc19 : x18 ≤ v1_3
    · rw [if_pos hc19] at h
      refine tw_br (cd := tw_c283) rfl rfl rfl (by exact if_pos hc19) ?_
      refine tw_forget (ls2 := [none, none, some (.int v1_2), none, none, none]) ⟨rfl, trivial⟩ ?_
      have h := Option.some.inj h
      subst h
      exact K
    · rw [if_neg hc19] at h
      refine tw_br (cd := tw_c283) rfl rfl rfl (by exact if_neg hc19) ?_
      refine tw_blk (cd := tw_c283) rfl 2 (c1 := (27, [some (.ref 44), some (.int v1_1), some (.int v1_2), some (.int v1_3), some (.int 0), none], [], (I_1, L, tw_P tw dr rt sc, A_1, J, 57))) rfl ?_
      obtain ⟨⟨x20, x21, I22, A23⟩, hx40, h⟩ := tw_bindE h
      dsimp only at h
      refine g_X10_bestHire_L2_ok I L A J tw dr rt sc I1 A7 x9 I10 x12 v1_1 v1_2 v1_3 I_1 A_1 x18 _ 4096 v1_1 v1_2 (0 : Int32) I_1 A_1 _ hx40 ?_
      refine tw_blk (cd := tw_c283) rfl 2 (c1 := (19, [some (.ref 44), some (.int x20), some (.int x21), some (.int (v1_3 + (1 : Int32))), none, none], [], (I22, L, tw_P tw dr rt sc, A23, J, 57))) rfl ?_
      exact ih x20 x21 (v1_3 + (1 : Int32)) I22 A23 _ h K
theorem e_X10_bestHire (I : Nat → Int32) (L : Nat → Int64) (A : Nat → Nat → Int32) (J : Nat → Nat → Int64) (tw dr : Nat) (rt : Nat) (sc : Nat) : ∀ r : (Int32 × (Nat → Int32) × (Nat → Nat → Int32)), g_X10_bestHire I A = some r → tw_ME 283 (0, [some (.ref 44), none, none, none, none, none], [], (I, L, tw_P tw dr rt sc, A, J, 57)) (some (.int r.1), ((r.2.1), L, tw_P tw dr rt sc, (r.2.2), J, 57)) := by
  intro r h
  unfold g_X10_bestHire at h
  refine tw_blk (cd := tw_c283) rfl 1 (c1 := (1, [some (.ref 44), none, none, none, none, none], [.ref 44], (I, L, tw_P tw dr rt sc, A, J, 57))) rfl ?_
  obtain ⟨I1, hx2, h⟩ := tw_letE h
  refine tw_callE (cd := tw_c283) rfl rfl rfl rfl rfl (e_X10_good I L A J tw dr rt sc _ hx2) (by exact Or.inl rfl) ?_
  refine tw_blk (cd := tw_c283) rfl 2 (c1 := (4, [some (.ref 44), none, none, none, none, none], [.int (I1 4414)], (I1, L, tw_P tw dr rt sc, A, J, 57))) rfl ?_
  by_cases hc3 : (I1 4414) = 0
  · rw [if_pos hc3] at h
    refine tw_br (cd := tw_c283) rfl rfl rfl (by exact if_pos hc3) ?_
    refine tw_blk (cd := tw_c283) rfl 2 (c1 := (7, [some (.ref 44), none, none, none, none, none], [.int 1, .ref 44], (I1, L, tw_P tw dr rt sc, A, J, 57))) rfl ?_
    obtain ⟨⟨x4, I5⟩, hx6, h⟩ := tw_letE h
    dsimp only at h
    refine tw_callE (cd := tw_c283) rfl rfl rfl rfl rfl (e_X10_no I1 L A J tw dr rt sc (1 : Int32) _ hx6) (by exact Or.inl rfl) ?_
    have h := Option.some.inj h
    subst h
    exact tw_retE (cd := tw_c283) rfl rfl rfl rfl
  · rw [if_neg hc3] at h
    refine tw_br (cd := tw_c283) rfl rfl rfl (by exact if_neg hc3) ?_
    refine tw_blk (cd := tw_c283) rfl 1 (c1 := (10, [some (.ref 44), none, none, none, none, none], [.ref 44], (I1, L, tw_P tw dr rt sc, A, J, 57))) rfl ?_
    obtain ⟨A7, hx8, h⟩ := tw_bindE h
    refine tw_callE (cd := tw_c283) rfl rfl rfl rfl rfl (e_X10_asNow I1 L A J tw dr rt sc _ hx8) (by exact Or.inl rfl) ?_
    refine tw_blk (cd := tw_c283) rfl 1 (c1 := (12, [some (.ref 44), none, none, none, none, none], [.ref 44], (I1, L, tw_P tw dr rt sc, A7, J, 57))) rfl ?_
    obtain ⟨⟨x9, I10⟩, hx11, h⟩ := tw_bindE h
    dsimp only at h
    refine tw_callE (cd := tw_c283) rfl rfl rfl rfl rfl (e_X10_stopped I1 L A7 J tw dr rt sc _ hx11) (by exact Or.inl rfl) ?_
    obtain ⟨x12, hx13, h⟩ := tw_bindE h
    refine tw_callE (cd := tw_c283) rfl rfl rfl rfl rfl (e_X10_ones I10 L A7 J tw dr rt sc x9 _ hx13) (by exact Or.inl rfl) ?_
    refine tw_blk (cd := tw_c283) rfl 5 (c1 := (19, [some (.ref 44), some (.int x12), some (.int (-2)), some (.int 0), none, none], [], (I10, L, tw_P tw dr rt sc, A7, J, 57))) rfl ?_
    obtain ⟨⟨x14, I15, A16⟩, hx41, h⟩ := tw_bindE h
    dsimp only at h
    refine g_X10_bestHire_L1_ok I L A J tw dr rt sc I1 A7 x9 I10 x12 _ 4096 x12 (-2 : Int32) (0 : Int32) I10 A7 _ hx41 ?_
    refine tw_blk (cd := tw_c283) rfl 1 (c1 := (60, [none, none, some (.int x14), none, none, none], [.int x14], (I15, L, tw_P tw dr rt sc, A16, J, 57))) rfl ?_
    have h := Option.some.inj h
    subst h
    exact tw_retE (cd := tw_c283) rfl rfl rfl rfl
theorem e_X9_showTold (I : Nat → Int32) (L : Nat → Int64) (A : Nat → Nat → Int32) (J : Nat → Nat → Int64) (rt : Nat) (sc : Nat) : ∀ r : ((Nat → Int32) × (Nat → Nat → Int32)), g_X9_showTold I A = some r → tw_ME 184 (0, [some (.ref 0)], [], (I, L, tw_P 2 14 rt sc, A, J, 57)) (none, ((r.1), L, tw_P 2 14 rt 2, (r.2), J, 57)) := by
  intro r h
  unfold g_X9_showTold at h
  refine tw_blk (cd := tw_c184) rfl 6 (c1 := (6, [some (.ref 0)], [.int 0, .int 0, .ref 2, .ref 36], (I, L, tw_P 2 14 rt sc, A, J, 57))) rfl ?_
  obtain ⟨⟨I1, A2⟩, hx3, h⟩ := tw_bindE h
  dsimp only at h
  refine tw_callE (cd := tw_c184) rfl rfl rfl rfl rfl (e_X6_show I L A J 2 14 rt sc (0 : Int32) (0 : Int32) _ hx3) (by exact Or.inl rfl) ?_
  have h := Option.some.inj h
  subst h
  exact tw_retE (cd := tw_c184) rfl rfl rfl rfl
theorem e_X6_takeForWit (I : Nat → Int32) (L : Nat → Int64) (A : Nat → Nat → Int32) (J : Nat → Nat → Int64) (tw dr : Nat) (rt : Nat) (a1 : Int32) (a2 : Int32) : ∀ r : Nat → Nat → Int32, g_X6_takeForWit A a1 a2 = r → tw_ME 79 (0, [some (.ref 36), some (.int a1), some (.int a2)], [], (I, L, tw_P tw dr rt 2, A, J, 57)) (none, (I, L, tw_P tw dr rt 2, r, J, 57)) := by
  intro r h
  unfold g_X6_takeForWit at h
  refine tw_blk (cd := tw_c79) rfl 4 (c1 := (4, [some (.ref 36), some (.int a1), some (.int a2)], [.int a2, .int a1, .ref 37], (I, L, tw_P tw dr rt 2, A, J, 57))) rfl ?_
  obtain ⟨w1, hw2, h⟩ := tw_letE h
  refine tw_callE (cd := tw_c79) rfl rfl rfl rfl rfl (tw_e_put I L (tw_P tw dr rt 2) A J (q := 37) (N := 6) rfl rfl (by decide) a1 a2 w1 hw2) (by exact Or.inl rfl) ?_
  subst h
  exact tw_retE (cd := tw_c79) rfl rfl rfl rfl
theorem g_X2_takeForOther_L1_ok (I : Nat → Int32) (L : Nat → Int64) (A : Nat → Nat → Int32) (J : Nat → Nat → Int64) (tw : Nat) (dr : Nat) (rt : Nat) (a1 : Int32) (out : Option Value × tw_S) : ∀ (n : Nat) (v1_2 : Int32) (A_1 : Nat → Nat → Int32) (ex : Nat → Nat → Int32), g_X2_takeForOther_L1 a1 n v1_2 A_1 = some ex → tw_ME 24 (47, [none, none, none, none, none], [], (I, L, tw_P tw dr rt 2, ex, J, 57)) out → tw_ME 24 (2, [some (.ref 42), some (.int a1), some (.int v1_2), none, none], [], (I, L, tw_P tw dr rt 2, A_1, J, 57)) out := by
  intro n
  induction n with
  | zero =>
    intro v1_2 A_1 ex h _
    cases h
  | succ n ih =>
    intro v1_2 A_1 ex h K
    rw [g_X2_takeForOther_L1] at h
    refine tw_blk (cd := tw_c24) rfl 1 (c1 := (3, [some (.ref 42), some (.int a1), some (.int v1_2), none, none], [.int v1_2], (I, L, tw_P tw dr rt 2, A_1, J, 57))) rfl ?_
    refine tw_blk (cd := tw_c24) rfl 4 (c1 := (7, [some (.ref 42), some (.int a1), some (.int v1_2), none, none], [.int 7, .ref 2, .int v1_2], (I, L, tw_P tw dr rt 2, A_1, J, 57))) rfl ?_
    refine tw_callE (cd := tw_c24) rfl rfl rfl rfl rfl (e_X8_count_2 I L A_1 J tw dr rt 2 (7 : Int32) _ rfl) (by exact Or.inl rfl) ?_
    by_cases hc2 : (g_X8_count_2 A_1 (7 : Int32)) ≤ v1_2
    · rw [if_pos hc2] at h
      refine tw_br (cd := tw_c24) rfl rfl rfl (by exact if_pos hc2) ?_
      refine tw_forget (ls2 := [none, none, none, none, none]) trivial ?_
      have h := Option.some.inj h
      subst h
      exact K
    · rw [if_neg hc2] at h
      refine tw_br (cd := tw_c24) rfl rfl rfl (by exact if_neg hc2) ?_
      refine tw_blk (cd := tw_c24) rfl 5 (c1 := (14, [some (.ref 42), some (.int a1), some (.int v1_2), none, none], [.int v1_2, .ref 12], (I, L, tw_P tw dr rt 2, A_1, J, 57))) rfl ?_
      refine tw_callE (cd := tw_c24) rfl rfl rfl rfl rfl (tw_e_get I L (tw_P tw dr rt 2) A_1 J (q := 12) (N := 4) rfl rfl (by decide) v1_2) (by exact Or.inl rfl) ?_
      refine tw_blk (cd := tw_c24) rfl 6 (c1 := (21, [some (.ref 42), some (.int a1), some (.int v1_2), some (.int (tw_get0 4 (A_1 12) v1_2)), none], [.int ((a1 >>> (v1_2 &&& 31)) &&& (1 : Int32))], (I, L, tw_P tw dr rt 2, A_1, J, 57))) rfl ?_
      obtain ⟨x4, hj5, h⟩ := tw_bindE h
      have K : tw_ME 24 (25, [some (.ref 42), some (.int a1), some (.int v1_2), some (.int (tw_get0 4 (A_1 12) v1_2)), none], [.int x4], (I, L, tw_P tw dr rt 2, A_1, J, 57)) out := by
        refine tw_blk (cd := tw_c24) rfl 5 (c1 := (30, [some (.ref 42), some (.int a1), some (.int v1_2), some (.int (tw_get0 4 (A_1 12) v1_2)), some (.int x4)], [.int x4, .int (tw_get0 4 (A_1 12) v1_2), .ref 36], (I, L, tw_P tw dr rt 2, A_1, J, 57))) rfl ?_
        obtain ⟨x7, hj8, h⟩ := tw_bindE h
        have K : tw_ME 24 (44, [some (.ref 42), some (.int a1), some (.int v1_2), none, none], [.int x7, .int (tw_get0 4 (A_1 12) v1_2), .ref 36], (I, L, tw_P tw dr rt 2, A_1, J, 57)) out := by
          obtain ⟨A9, hx10, h⟩ := tw_letE h
          refine tw_callE (cd := tw_c24) rfl rfl rfl rfl rfl (e_X6_takeForWit I L A_1 J tw dr rt (tw_get0 4 (A_1 12) v1_2) x7 _ hx10) (by exact Or.inl rfl) ?_
          refine tw_blk (cd := tw_c24) rfl 2 (c1 := (2, [some (.ref 42), some (.int a1), some (.int (v1_2 + (1 : Int32))), none, none], [], (I, L, tw_P tw dr rt 2, A9, J, 57))) rfl ?_
          exact ih (v1_2 + (1 : Int32)) A9 _ h K
        by_cases hc6 : x4 = 0
        · rw [if_pos hc6] at hj8
          refine tw_br (cd := tw_c24) rfl rfl rfl (by exact if_pos hc6) ?_
          refine tw_blk (cd := tw_c24) rfl 5 (c1 := (43, [some (.ref 42), some (.int a1), some (.int v1_2), some (.int (tw_get0 4 (A_1 12) v1_2)), some (.int x4)], [.int (tw_get0 4 (A_1 12) v1_2), .ref 7, .int (tw_get0 4 (A_1 12) v1_2), .ref 36], (I, L, tw_P tw dr rt 2, A_1, J, 57))) rfl ?_
          refine tw_callE (cd := tw_c24) rfl rfl rfl rfl rfl (tw_e_get I L (tw_P tw dr rt 2) A_1 J (q := 7) (N := 6) rfl rfl (by decide) (tw_get0 4 (A_1 12) v1_2)) (by exact Or.inl rfl) ?_
          refine tw_forget (ls2 := [some (.ref 42), some (.int a1), some (.int v1_2), none, none]) ⟨rfl, rfl, rfl, trivial⟩ ?_
          have hj8s := Option.some.inj hj8
          subst hj8s
          exact K
        · rw [if_neg hc6] at hj8
          refine tw_br (cd := tw_c24) rfl rfl rfl (by exact if_neg hc6) ?_
          refine tw_blk (cd := tw_c24) rfl 5 (c1 := (36, [some (.ref 42), some (.int a1), some (.int v1_2), some (.int (tw_get0 4 (A_1 12) v1_2)), some (.int x4)], [.int v1_2, .ref 13, .int (tw_get0 4 (A_1 12) v1_2), .ref 36], (I, L, tw_P tw dr rt 2, A_1, J, 57))) rfl ?_
          refine tw_callE (cd := tw_c24) rfl rfl rfl rfl rfl (tw_e_get I L (tw_P tw dr rt 2) A_1 J (q := 13) (N := 4) rfl rfl (by decide) v1_2) (by exact Or.inl rfl) ?_
          refine tw_blk (cd := tw_c24) rfl 1 (c1 := (44, [some (.ref 42), some (.int a1), some (.int v1_2), some (.int (tw_get0 4 (A_1 12) v1_2)), some (.int x4)], [.int (tw_get0 4 (A_1 13) v1_2), .int (tw_get0 4 (A_1 12) v1_2), .ref 36], (I, L, tw_P tw dr rt 2, A_1, J, 57))) rfl ?_
          refine tw_forget (ls2 := [some (.ref 42), some (.int a1), some (.int v1_2), none, none]) ⟨rfl, rfl, rfl, trivial⟩ ?_
          have hj8s := Option.some.inj hj8
          subst hj8s
          exact K
      by_cases hc3 : ((a1 >>> (v1_2 &&& 31)) &&& (1 : Int32)) = 0
      · rw [if_pos hc3] at hj5
        refine tw_br (cd := tw_c24) rfl rfl rfl (by exact if_pos hc3) ?_
        refine tw_blk (cd := tw_c24) rfl 1 (c1 := (25, [some (.ref 42), some (.int a1), some (.int v1_2), some (.int (tw_get0 4 (A_1 12) v1_2)), none], [.int 0], (I, L, tw_P tw dr rt 2, A_1, J, 57))) rfl ?_
        have hj5s := Option.some.inj hj5
        subst hj5s
        exact K
      · rw [if_neg hc3] at hj5
        refine tw_br (cd := tw_c24) rfl rfl rfl (by exact if_neg hc3) ?_
        refine tw_blk (cd := tw_c24) rfl 2 (c1 := (25, [some (.ref 42), some (.int a1), some (.int v1_2), some (.int (tw_get0 4 (A_1 12) v1_2)), none], [.int 1], (I, L, tw_P tw dr rt 2, A_1, J, 57))) rfl ?_
        have hj5s := Option.some.inj hj5
        subst hj5s
        exact K
theorem e_X2_takeForOther (I : Nat → Int32) (L : Nat → Int64) (A : Nat → Nat → Int32) (J : Nat → Nat → Int64) (tw dr : Nat) (rt : Nat) (a1 : Int32) : ∀ r : Nat → Nat → Int32, g_X2_takeForOther A a1 = some r → tw_ME 24 (0, [some (.ref 42), some (.int a1), none, none, none], [], (I, L, tw_P tw dr rt 2, A, J, 57)) (none, (I, L, tw_P tw dr rt 2, r, J, 57)) := by
  intro r h
  unfold g_X2_takeForOther at h
  refine tw_blk (cd := tw_c24) rfl 2 (c1 := (2, [some (.ref 42), some (.int a1), some (.int 0), none, none], [], (I, L, tw_P tw dr rt 2, A, J, 57))) rfl ?_
  obtain ⟨A1, hx11, h⟩ := tw_bindE h
  refine g_X2_takeForOther_L1_ok I L A J tw dr rt a1 _ 4096 (0 : Int32) A _ hx11 ?_
  have h := Option.some.inj h
  subst h
  exact tw_retE (cd := tw_c24) rfl rfl rfl rfl
theorem g_X2_firstOtherwise_L1_ok (I : Nat → Int32) (L : Nat → Int64) (A : Nat → Nat → Int32) (J : Nat → Nat → Int64) (tw : Nat) (dr : Nat) (rt : Nat) (kont : ((Nat → Int32) × (Nat → Nat → Int32)) → Option (Int32 × (Nat → Int32) × (Nat → Nat → Int32))) (r : (Int32 × (Nat → Int32) × (Nat → Nat → Int32))) : ∀ (n : Nat) (v1_1 : Int32) (I_1 : Nat → Int32) (A_1 : Nat → Nat → Int32), g_X2_firstOtherwise_L1 kont n v1_1 I_1 A_1 = some r → (∀ ex : ((Nat → Int32) × (Nat → Nat → Int32)), kont ex = some r → tw_ME 25 (48, [none, none, none], [], ((ex.1), L, tw_P tw dr rt 2, (ex.2), J, 57)) (some (.int r.1), ((r.2.1), L, tw_P tw dr rt 2, (r.2.2), J, 57))) → tw_ME 25 (2, [some (.ref 42), some (.int v1_1), none], [], (I_1, L, tw_P tw dr rt 2, A_1, J, 57)) (some (.int r.1), ((r.2.1), L, tw_P tw dr rt 2, (r.2.2), J, 57)) := by
  intro n
  induction n with
  | zero =>
    intro v1_1 I_1 A_1 h _
    cases h
  | succ n ih =>
    intro v1_1 I_1 A_1 h K
    rw [g_X2_firstOtherwise_L1] at h
    refine tw_blk (cd := tw_c25) rfl 1 (c1 := (3, [some (.ref 42), some (.int v1_1), none], [.int v1_1], (I_1, L, tw_P tw dr rt 2, A_1, J, 57))) rfl ?_
    refine tw_blk (cd := tw_c25) rfl 4 (c1 := (7, [some (.ref 42), some (.int v1_1), none], [.int 5, .ref 2, .int v1_1], (I_1, L, tw_P tw dr rt 2, A_1, J, 57))) rfl ?_
    refine tw_callE (cd := tw_c25) rfl rfl rfl rfl rfl (e_X8_count_2 I_1 L A_1 J tw dr rt 2 (5 : Int32) _ rfl) (by exact Or.inl rfl) ?_
    by_cases hc3 : (g_X8_count_2 A_1 (5 : Int32)) ≤ v1_1
    · rw [if_pos hc3] at h
      refine tw_br (cd := tw_c25) rfl rfl rfl (by exact if_pos hc3) ?_
      refine tw_forget (ls2 := [none, none, none]) trivial ?_
      exact K _ h
    · rw [if_neg hc3] at h
      refine tw_br (cd := tw_c25) rfl rfl rfl (by exact if_neg hc3) ?_
      refine tw_blk (cd := tw_c25) rfl 5 (c1 := (14, [some (.ref 42), some (.int v1_1), none], [.int v1_1, .ref 11], (I_1, L, tw_P tw dr rt 2, A_1, J, 57))) rfl ?_
      refine tw_callE (cd := tw_c25) rfl rfl rfl rfl rfl (tw_e_get I_1 L (tw_P tw dr rt 2) A_1 J (q := 11) (N := 3) rfl rfl (by decide) v1_1) (by exact Or.inl rfl) ?_
      refine tw_blk (cd := tw_c25) rfl 3 (c1 := (18, [some (.ref 42), some (.int v1_1), some (.int (tw_get0 3 (A_1 11) v1_1))], [.int (-2), .int (tw_get0 3 (A_1 11) v1_1)], (I_1, L, tw_P tw dr rt 2, A_1, J, 57))) rfl ?_
      by_cases hc4 : (tw_get0 3 (A_1 11) v1_1) = (-2 : Int32)
      · rw [if_pos hc4] at h
        refine tw_br (cd := tw_c25) rfl rfl rfl (by exact if_pos hc4) ?_
        refine tw_blk (cd := tw_c25) rfl 2 (c1 := (2, [some (.ref 42), some (.int (v1_1 + (1 : Int32))), some (.int (tw_get0 3 (A_1 11) v1_1))], [], (I_1, L, tw_P tw dr rt 2, A_1, J, 57))) rfl ?_
        refine tw_forget (ls2 := [some (.ref 42), some (.int (v1_1 + (1 : Int32))), none]) ⟨rfl, rfl, trivial⟩ ?_
        exact ih (v1_1 + (1 : Int32)) I_1 A_1 h K
      · rw [if_neg hc4] at h
        refine tw_br (cd := tw_c25) rfl rfl rfl (by exact if_neg hc4) ?_
        refine tw_blk (cd := tw_c25) rfl 7 (c1 := (26, [some (.ref 42), some (.int v1_1), some (.int (tw_get0 3 (A_1 11) v1_1))], [.int 2, .int v1_1, .ref 2, .ref 39], (I_1, L, tw_P tw dr rt 2, A_1, J, 57))) rfl ?_
        refine tw_callE (cd := tw_c25) rfl rfl rfl rfl rfl (e_X8_fact_2 I_1 L A_1 J tw dr rt 2 v1_1 (2 : Int32) _ rfl) (by exact Or.inl rfl) ?_
        obtain ⟨A5, hx6, h⟩ := tw_bindE h
        refine tw_callE (cd := tw_c25) rfl rfl rfl rfl rfl (e_X1_watch I_1 L A_1 J tw dr rt (g_X8_fact_2 A_1 v1_1 (2 : Int32)) _ hx6) (by exact Or.inl rfl) ?_
        refine tw_blk (cd := tw_c25) rfl 8 (c1 := (36, [some (.ref 42), some (.int v1_1), some (.int (tw_get0 3 (A_1 11) v1_1))], [.int 3, .int v1_1, .ref 2, .int v1_1, .ref 39], (I_1, L, tw_P tw dr rt 2, A5, J, 57))) rfl ?_
        refine tw_callE (cd := tw_c25) rfl rfl rfl rfl rfl (e_X8_fact_2 I_1 L A5 J tw dr rt 2 v1_1 (3 : Int32) _ rfl) (by exact Or.inl rfl) ?_
        refine tw_blk (cd := tw_c25) rfl 1 (c1 := (38, [some (.ref 42), some (.int v1_1), some (.int (tw_get0 3 (A_1 11) v1_1))], [.int 0, .int (g_X8_fact_2 A5 v1_1 (3 : Int32)), .int v1_1, .ref 39], (I_1, L, tw_P tw dr rt 2, A5, J, 57))) rfl ?_
        obtain ⟨I7, hx8, h⟩ := tw_bindE h
        refine tw_callE (cd := tw_c25) rfl rfl rfl rfl rfl (e_X1_go I_1 L A5 J tw dr rt v1_1 (g_X8_fact_2 A5 v1_1 (3 : Int32)) (0 : Int32) _ hx8) (by exact Or.inl rfl) ?_
        refine tw_blk (cd := tw_c25) rfl 4 (c1 := (43, [some (.ref 42), some (.int v1_1), some (.int (tw_get0 3 (A_1 11) v1_1))], [.int (tw_get0 3 (A_1 11) v1_1), .int (I7 3903)], (I7, L, tw_P tw dr rt 2, A5, J, 57))) rfl ?_
        by_cases hc9 : (I7 3903) = (tw_get0 3 (A_1 11) v1_1)
        · rw [if_pos hc9] at h
          refine tw_br (cd := tw_c25) rfl rfl rfl (by exact if_pos hc9) ?_
          refine tw_blk (cd := tw_c25) rfl 2 (c1 := (2, [some (.ref 42), some (.int (v1_1 + (1 : Int32))), some (.int (tw_get0 3 (A_1 11) v1_1))], [], (I7, L, tw_P tw dr rt 2, A5, J, 57))) rfl ?_
          refine tw_forget (ls2 := [some (.ref 42), some (.int (v1_1 + (1 : Int32))), none]) ⟨rfl, rfl, trivial⟩ ?_
          exact ih (v1_1 + (1 : Int32)) I7 A5 h K
        · rw [if_neg hc9] at h
          refine tw_br (cd := tw_c25) rfl rfl rfl (by exact if_neg hc9) ?_
          refine tw_blk (cd := tw_c25) rfl 1 (c1 := (45, [some (.ref 42), some (.int v1_1), some (.int (tw_get0 3 (A_1 11) v1_1))], [.int v1_1], (I7, L, tw_P tw dr rt 2, A5, J, 57))) rfl ?_
          have h := Option.some.inj h
          subst h
          exact tw_retE (cd := tw_c25) rfl rfl rfl rfl
theorem e_X2_firstOtherwise (I : Nat → Int32) (L : Nat → Int64) (A : Nat → Nat → Int32) (J : Nat → Nat → Int64) (tw dr : Nat) (rt : Nat) : ∀ r : (Int32 × (Nat → Int32) × (Nat → Nat → Int32)), g_X2_firstOtherwise I A = some r → tw_ME 25 (0, [some (.ref 42), none, none], [], (I, L, tw_P tw dr rt 2, A, J, 57)) (some (.int r.1), ((r.2.1), L, tw_P tw dr rt 2, (r.2.2), J, 57)) := by
  intro r h
  unfold g_X2_firstOtherwise at h
  refine tw_blk (cd := tw_c25) rfl 2 (c1 := (2, [some (.ref 42), some (.int 0), none], [], (I, L, tw_P tw dr rt 2, A, J, 57))) rfl ?_
  refine g_X2_firstOtherwise_L1_ok I L A J tw dr rt _ r 4096 (0 : Int32) I A h (fun ex h => ?_)
  obtain ⟨I1, A2⟩ := ex
  dsimp only at h
  refine tw_blk (cd := tw_c25) rfl 1 (c1 := (49, [none, none, none], [.int (-2)], (I1, L, tw_P tw dr rt 2, A2, J, 57))) rfl ?_
  have h := Option.some.inj h
  subst h
  exact tw_retE (cd := tw_c25) rfl rfl rfl rfl
theorem g_X2_findFits_L1_ok (I : Nat → Int32) (L : Nat → Int64) (A : Nat → Nat → Int32) (J : Nat → Nat → Int64) (tw : Nat) (dr : Nat) (rt : Nat) (out : Option Value × tw_S) : ∀ (n : Nat) (v1_1 : Int32) (I_1 : Nat → Int32) (A_1 : Nat → Nat → Int32) (ex : ((Nat → Int32) × (Nat → Nat → Int32))), g_X2_findFits_L1 n v1_1 I_1 A_1 = some ex → tw_ME 23 (35, [none, none], [], ((ex.1), L, tw_P tw dr rt 2, (ex.2), J, 57)) out → tw_ME 23 (5, [some (.ref 42), some (.int v1_1)], [], (I_1, L, tw_P tw dr rt 2, A_1, J, 57)) out := by
  intro n
  induction n with
  | zero =>
    intro v1_1 I_1 A_1 ex h _
    cases h
  | succ n ih =>
    intro v1_1 I_1 A_1 ex h K
    rw [g_X2_findFits_L1] at h
    refine tw_blk (cd := tw_c23) rfl 1 (c1 := (6, [some (.ref 42), some (.int v1_1)], [.int v1_1], (I_1, L, tw_P tw dr rt 2, A_1, J, 57))) rfl ?_
    refine tw_blk (cd := tw_c23) rfl 5 (c1 := (11, [some (.ref 42), some (.int v1_1)], [.int 7, .ref 2, .int 1, .int v1_1], (I_1, L, tw_P tw dr rt 2, A_1, J, 57))) rfl ?_
    refine tw_callE (cd := tw_c23) rfl rfl rfl rfl rfl (e_X8_count_2 I_1 L A_1 J tw dr rt 2 (7 : Int32) _ rfl) (by exact Or.inl rfl) ?_
    refine tw_blk (cd := tw_c23) rfl 1 (c1 := (13, [some (.ref 42), some (.int v1_1)], [.int ((1 : Int32) <<< ((g_X8_count_2 A_1 (7 : Int32)) &&& 31)), .int v1_1], (I_1, L, tw_P tw dr rt 2, A_1, J, 57))) rfl ?_
    by_cases hc3 : ((1 : Int32) <<< ((g_X8_count_2 A_1 (7 : Int32)) &&& 31)) ≤ v1_1
    · rw [if_pos hc3] at h
      refine tw_br (cd := tw_c23) rfl rfl rfl (by exact if_pos hc3) ?_
      refine tw_forget (ls2 := [none, none]) trivial ?_
      have h := Option.some.inj h
      subst h
      exact K
    · rw [if_neg hc3] at h
      refine tw_br (cd := tw_c23) rfl rfl rfl (by exact if_neg hc3) ?_
      refine tw_blk (cd := tw_c23) rfl 2 (c1 := (16, [some (.ref 42), some (.int v1_1)], [.int v1_1, .ref 42], (I_1, L, tw_P tw dr rt 2, A_1, J, 57))) rfl ?_
      obtain ⟨A4, hx5, h⟩ := tw_bindE h
      refine tw_callE (cd := tw_c23) rfl rfl rfl rfl rfl (e_X2_takeForOther I_1 L A_1 J tw dr rt v1_1 _ hx5) (by exact Or.inl rfl) ?_
      refine tw_blk (cd := tw_c23) rfl 1 (c1 := (18, [some (.ref 42), some (.int v1_1)], [.ref 42], (I_1, L, tw_P tw dr rt 2, A4, J, 57))) rfl ?_
      obtain ⟨⟨x6, I7, A8⟩, hx9, h⟩ := tw_bindE h
      dsimp only at h
      refine tw_callE (cd := tw_c23) rfl rfl rfl rfl rfl (e_X2_firstOtherwise I_1 L A4 J tw dr rt _ hx9) (by exact Or.inl rfl) ?_
      refine tw_blk (cd := tw_c23) rfl 1 (c1 := (20, [some (.ref 42), some (.int v1_1)], [.int (-2), .int x6], (I7, L, tw_P tw dr rt 2, A8, J, 57))) rfl ?_
      obtain ⟨⟨I11, A12⟩, hj13, h⟩ := tw_bindE h
      dsimp only at h
      have K : tw_ME 23 (33, [some (.ref 42), some (.int v1_1)], [], (I11, L, tw_P tw dr rt 2, A12, J, 57)) out := by
        refine tw_blk (cd := tw_c23) rfl 2 (c1 := (5, [some (.ref 42), some (.int (v1_1 + (1 : Int32)))], [], (I11, L, tw_P tw dr rt 2, A12, J, 57))) rfl ?_
        exact ih (v1_1 + (1 : Int32)) I11 A12 _ h K
      by_cases hc10 : x6 = (-2 : Int32)
      · rw [if_pos hc10] at hj13
        refine tw_br (cd := tw_c23) rfl rfl rfl (by exact if_pos hc10) ?_
        refine tw_blk (cd := tw_c23) rfl 5 (c1 := (26, [some (.ref 42), some (.int v1_1)], [.int v1_1, .int (I7 4203), .ref 43], (I7, L, tw_P tw dr rt 2, A8, J, 57))) rfl ?_
        obtain ⟨w14, hw15, hj13⟩ := tw_letE hj13
        refine tw_callE (cd := tw_c23) rfl rfl rfl rfl rfl (tw_e_put I7 L (tw_P tw dr rt 2) A8 J (q := 43) (N := 16) rfl rfl (by decide) (I7 4203) v1_1 w14 hw15) (by exact Or.inl rfl) ?_
        refine tw_blk (cd := tw_c23) rfl 6 (c1 := (33, [some (.ref 42), some (.int v1_1)], [], ((upd I7 4203 ((I7 4203) + (1 : Int32))), L, tw_P tw dr rt 2, (va_up A8 43 w14), J, 57))) rfl ?_
        have hj13s := Option.some.inj hj13
        obtain ⟨hj13_0, hj13r0⟩ := Prod.mk.inj hj13s
        subst hj13_0
        subst hj13r0
        exact K
      · rw [if_neg hc10] at hj13
        refine tw_br (cd := tw_c23) rfl rfl rfl (by exact if_neg hc10) ?_
        have hj13s := Option.some.inj hj13
        obtain ⟨hj13_0, hj13r0⟩ := Prod.mk.inj hj13s
        subst hj13_0
        subst hj13r0
        exact K
theorem e_X2_findFits (I : Nat → Int32) (L : Nat → Int64) (A : Nat → Nat → Int32) (J : Nat → Nat → Int64) (tw dr : Nat) (rt : Nat) : ∀ r : ((Nat → Int32) × (Nat → Nat → Int32)), g_X2_findFits I A = some r → tw_ME 23 (0, [some (.ref 42), none], [], (I, L, tw_P tw dr rt 2, A, J, 57)) (none, ((r.1), L, tw_P tw dr rt 2, (r.2), J, 57)) := by
  intro r h
  unfold g_X2_findFits at h
  refine tw_blk (cd := tw_c23) rfl 5 (c1 := (5, [some (.ref 42), some (.int 0)], [], ((upd I 4203 (0 : Int32)), L, tw_P tw dr rt 2, A, J, 57))) rfl ?_
  obtain ⟨⟨I1, A2⟩, hx16, h⟩ := tw_bindE h
  dsimp only at h
  refine g_X2_findFits_L1_ok I L A J tw dr rt _ 4096 (0 : Int32) (upd I 4203 (0 : Int32)) A _ hx16 ?_
  have h := Option.some.inj h
  subst h
  exact tw_retE (cd := tw_c23) rfl rfl rfl rfl
theorem e_X9_doubtsNow (I : Nat → Int32) (L : Nat → Int64) (A : Nat → Nat → Int32) (J : Nat → Nat → Int64) (rt : Nat) (sc : Nat) : ∀ r : (Bool × (Nat → Int32) × (Nat → Nat → Int32)), g_X9_doubtsNow I A = some r → tw_ME 188 (0, [some (.ref 0)], [], (I, L, tw_P 2 14 rt sc, A, J, 57)) (some (.int (tw_b r.1)), ((r.2.1), L, tw_P 2 14 rt (bif r.1 then 2 else sc), (r.2.2), J, 57)) := by
  intro r h
  unfold g_X9_doubtsNow at h
  refine tw_blk (cd := tw_c188) rfl 1 (c1 := (1, [some (.ref 0)], [.ref 0], (I, L, tw_P 2 14 rt sc, A, J, 57))) rfl ?_
  refine tw_callE (cd := tw_c188) rfl rfl rfl rfl rfl (e_X9_hasTown I L A J rt sc _ rfl) (by exact Or.inl rfl) ?_
  by_cases hc1 : (g_X9_hasTown A) = true
  · rw [if_pos hc1] at h
    refine tw_br (cd := tw_c188) rfl rfl rfl (by exact if_neg (tw_b_t hc1)) ?_
    refine tw_blk (cd := tw_c188) rfl 1 (c1 := (8, [some (.ref 0)], [.ref 0], (I, L, tw_P 2 14 rt sc, A, J, 57))) rfl ?_
    obtain ⟨⟨I2, A3⟩, hx4, h⟩ := tw_bindE h
    dsimp only at h
    refine tw_callE (cd := tw_c188) rfl rfl rfl rfl rfl (e_X9_showTold I L A J rt sc _ hx4) (by exact Or.inl rfl) ?_
    refine tw_blk (cd := tw_c188) rfl 2 (c1 := (11, [some (.ref 0)], [.ref 42], (I2, L, tw_P 2 14 rt 2, A3, J, 57))) rfl ?_
    obtain ⟨⟨I5, A6⟩, hx7, h⟩ := tw_bindE h
    dsimp only at h
    refine tw_callE (cd := tw_c188) rfl rfl rfl rfl rfl (e_X2_findFits I2 L A3 J 2 14 rt _ hx7) (by exact Or.inl rfl) ?_
    refine tw_blk (cd := tw_c188) rfl 1 (c1 := (13, [some (.ref 0)], [.int 1], (I5, L, tw_P 2 14 rt 2, A6, J, 57))) rfl ?_
    have h := Option.some.inj h
    subst h
    exact tw_retZ (cd := tw_c188) (b := true) rfl rfl rfl rfl
  · rw [if_neg hc1] at h
    refine tw_br (cd := tw_c188) rfl rfl rfl (by exact if_pos (tw_b_f hc1)) ?_
    refine tw_blk (cd := tw_c188) rfl 2 (c1 := (5, [some (.ref 0)], [.int 1, .ref 0], (I, L, tw_P 2 14 rt sc, A, J, 57))) rfl ?_
    obtain ⟨⟨c8, I9⟩, hx10, h⟩ := tw_letE h
    dsimp only at h
    refine tw_callE (cd := tw_c188) rfl rfl rfl rfl rfl (e_X9_deny I L A J 2 14 rt sc (1 : Int32) _ hx10) (by exact Or.inl rfl) ?_
    have h := Option.some.inj h
    subst h
    have hz : c8 = false := (congrArg Prod.fst hx10).symm
    subst hz
    exact tw_retZ (cd := tw_c188) (b := false) rfl rfl rfl rfl
theorem e_X9_fits (I : Nat → Int32) (L : Nat → Int64) (A : Nat → Nat → Int32) (J : Nat → Nat → Int64) (rt : Nat) (sc : Nat) : ∀ r : (Int32 × (Nat → Int32) × (Nat → Nat → Int32) × Nat), g_X9_fits I A sc = some r → tw_ME 143 (0, [some (.ref 0)], [], (I, L, tw_P 2 14 rt sc, A, J, 57)) (some (.int r.1), ((r.2.1), L, tw_P 2 14 rt (r.2.2.2), (r.2.2.1), J, 57)) := by
  intro r h
  unfold g_X9_fits at h
  refine tw_blk (cd := tw_c143) rfl 1 (c1 := (1, [some (.ref 0)], [.ref 0], (I, L, tw_P 2 14 rt sc, A, J, 57))) rfl ?_
  obtain ⟨⟨c1, I2, A3⟩, hx4, h⟩ := tw_bindE h
  dsimp only at h
  refine tw_callE (cd := tw_c143) rfl rfl rfl rfl rfl (e_X9_doubtsNow I L A J rt sc _ hx4) (by exact Or.inl rfl) ?_
  by_cases hc5 : c1 = true
  · subst hc5
    rw [if_pos rfl] at h
    refine tw_br (cd := tw_c143) rfl rfl rfl (by exact rfl) ?_
    refine tw_blk (cd := tw_c143) rfl 4 (c1 := (7, [some (.ref 0)], [.int (I2 4203), .ref 0], (I2, L, tw_P 2 14 rt 2, A3, J, 57))) rfl ?_
    obtain ⟨⟨x6, I7⟩, hx8, h⟩ := tw_letE h
    dsimp only at h
    refine tw_callE (cd := tw_c143) rfl rfl rfl rfl rfl (e_X9_grant I2 L A3 J 2 14 rt 2 (I2 4203) _ hx8) (by exact Or.inl rfl) ?_
    refine tw_blk (cd := tw_c143) rfl 1 (c1 := (10, [some (.ref 0)], [.int x6], (I7, L, tw_P 2 14 rt 2, A3, J, 57))) rfl ?_
    have h := Option.some.inj h
    subst h
    exact tw_retE (cd := tw_c143) rfl rfl rfl rfl
  · have hc5 := Bool.eq_false_iff.mpr hc5
    subst hc5
    rw [if_neg (by decide)] at h
    refine tw_br (cd := tw_c143) rfl rfl rfl (by exact rfl) ?_
    refine tw_blk (cd := tw_c143) rfl 1 (c1 := (10, [some (.ref 0)], [.int (-1)], (I2, L, tw_P 2 14 rt sc, A3, J, 57))) rfl ?_
    have h := Option.some.inj h
    subst h
    exact tw_retE (cd := tw_c143) rfl rfl rfl rfl
theorem g_X10_wrongBy_L1_ok (I : Nat → Int32) (L : Nat → Int64) (A : Nat → Nat → Int32) (J : Nat → Nat → Int64) (tw : Nat) (dr : Nat) (rt : Nat) (sc : Nat) (a1 : Int32) (A1 : Nat → Nat → Int32) (out : Option Value × tw_S) : ∀ (n : Nat) (v1_2 : Int32) (A_1 : Nat → Nat → Int32) (ex : Nat → Nat → Int32), g_X10_wrongBy_L1 n v1_2 A_1 = some ex → tw_ME 284 (14, [some (.ref 44), some (.int a1), none], [], (I, L, tw_P tw dr rt sc, ex, J, 57)) out → tw_ME 284 (4, [some (.ref 44), some (.int a1), some (.int v1_2)], [], (I, L, tw_P tw dr rt sc, A_1, J, 57)) out := by
  intro n
  induction n with
  | zero =>
    intro v1_2 A_1 ex h _
    cases h
  | succ n ih =>
    intro v1_2 A_1 ex h K
    rw [g_X10_wrongBy_L1] at h
    refine tw_blk (cd := tw_c284) rfl 1 (c1 := (5, [some (.ref 44), some (.int a1), some (.int v1_2)], [.int v1_2], (I, L, tw_P tw dr rt sc, A_1, J, 57))) rfl ?_
    refine tw_blk (cd := tw_c284) rfl 1 (c1 := (6, [some (.ref 44), some (.int a1), some (.int v1_2)], [.int 8, .int v1_2], (I, L, tw_P tw dr rt sc, A_1, J, 57))) rfl ?_
    by_cases hc4 : (8 : Int32) ≤ v1_2
    · rw [if_pos hc4] at h
      refine tw_br (cd := tw_c284) rfl rfl rfl (by exact if_pos hc4) ?_
      refine tw_forget (ls2 := [some (.ref 44), some (.int a1), none]) ⟨rfl, rfl, trivial⟩ ?_
      have h := Option.some.inj h
      subst h
      exact K
    · rw [if_neg hc4] at h
      refine tw_br (cd := tw_c284) rfl rfl rfl (by exact if_neg hc4) ?_
      refine tw_blk (cd := tw_c284) rfl 4 (c1 := (11, [some (.ref 44), some (.int a1), some (.int v1_2)], [.int 0, .int v1_2, .ref 52], (I, L, tw_P tw dr rt sc, A_1, J, 57))) rfl ?_
      obtain ⟨w6, hx5, h⟩ := tw_bindE h
      refine tw_iast (cd := tw_c284) (N := 8) rfl rfl rfl rfl hx5 ?_
      refine tw_blk (cd := tw_c284) rfl 2 (c1 := (4, [some (.ref 44), some (.int a1), some (.int (v1_2 + (1 : Int32)))], [], (I, L, tw_P tw dr rt sc, (va_up A_1 52 w6), J, 57))) rfl ?_
      exact ih (v1_2 + (1 : Int32)) (va_up A_1 52 w6) _ h K
theorem g_X10_wrongBy_L2_ok (I : Nat → Int32) (L : Nat → Int64) (A : Nat → Nat → Int32) (J : Nat → Nat → Int64) (tw : Nat) (dr : Nat) (rt : Nat) (sc : Nat) (a1 : Int32) (A1 : Nat → Nat → Int32) (A3 : Nat → Nat → Int32) (out : Option Value × tw_S) : ∀ (n : Nat) (v2_2 : Int32) (A_2 : Nat → Nat → Int32) (ex : Nat → Nat → Int32), g_X10_wrongBy_L2 a1 n v2_2 A_2 = some ex → tw_ME 284 (49, [some (.ref 44), none, none], [], (I, L, tw_P tw dr rt sc, ex, J, 57)) out → tw_ME 284 (16, [some (.ref 44), some (.int a1), some (.int v2_2)], [], (I, L, tw_P tw dr rt sc, A_2, J, 57)) out := by
  intro n
  induction n with
  | zero =>
    intro v2_2 A_2 ex h _
    cases h
  | succ n ih =>
    intro v2_2 A_2 ex h K
    rw [g_X10_wrongBy_L2] at h
    refine tw_blk (cd := tw_c284) rfl 1 (c1 := (17, [some (.ref 44), some (.int a1), some (.int v2_2)], [.int v2_2], (I, L, tw_P tw dr rt sc, A_2, J, 57))) rfl ?_
    refine tw_blk (cd := tw_c284) rfl 3 (c1 := (20, [some (.ref 44), some (.int a1), some (.int v2_2)], [.int 7, .ref 47, .int v2_2], (I, L, tw_P tw dr rt sc, A_2, J, 57))) rfl ?_
    obtain ⟨x9, hx8, h⟩ := tw_bindE h
    refine tw_iald (cd := tw_c284) (N := 241) rfl rfl rfl rfl hx8 ?_
    by_cases hc10 : x9 ≤ v2_2
    · rw [if_pos hc10] at h
      refine tw_br (cd := tw_c284) rfl rfl rfl (by exact if_pos hc10) ?_
      refine tw_forget (ls2 := [some (.ref 44), none, none]) ⟨rfl, trivial⟩ ?_
      have h := Option.some.inj h
      subst h
      exact K
    · rw [if_neg hc10] at h
      refine tw_br (cd := tw_c284) rfl rfl rfl (by exact if_neg hc10) ?_
      refine tw_blk (cd := tw_c284) rfl 2 (c1 := (24, [some (.ref 44), some (.int a1), some (.int v2_2)], [.int v2_2, .int a1], (I, L, tw_P tw dr rt sc, A_2, J, 57))) rfl ?_
      refine tw_callE (cd := tw_c284) rfl rfl rfl rfl rfl (e_X10_hasBit I L A_2 J tw dr rt sc a1 v2_2 _ rfl) (by exact Or.inl rfl) ?_
      obtain ⟨A12, hj13, h⟩ := tw_bindE h
      have K : tw_ME 284 (47, [some (.ref 44), some (.int a1), some (.int v2_2)], [], (I, L, tw_P tw dr rt sc, A12, J, 57)) out := by
        refine tw_blk (cd := tw_c284) rfl 2 (c1 := (16, [some (.ref 44), some (.int a1), some (.int (v2_2 + (1 : Int32)))], [], (I, L, tw_P tw dr rt sc, A12, J, 57))) rfl ?_
        exact ih (v2_2 + (1 : Int32)) A12 _ h K
      by_cases hc11 : (g_X10_hasBit a1 v2_2) = true
      · rw [if_pos hc11] at hj13
        refine tw_br (cd := tw_c284) rfl rfl rfl (by exact if_neg (tw_b_t hc11)) ?_
        refine tw_blk (cd := tw_c284) rfl 9 (c1 := (35, [some (.ref 44), some (.int a1), some (.int v2_2)], [.int ((95 : Int32) + ((2 : Int32) * v2_2)), .ref 47, .ref 53], (I, L, tw_P tw dr rt sc, A_2, J, 57))) rfl ?_
        obtain ⟨x15, hx14, hj13⟩ := tw_bindE hj13
        refine tw_iald (cd := tw_c284) (N := 241) rfl rfl rfl rfl hx14 ?_
        refine tw_blk (cd := tw_c284) rfl 9 (c1 := (45, [some (.ref 44), some (.int a1), some (.int v2_2)], [.int (((95 : Int32) + ((2 : Int32) * v2_2)) + (1 : Int32)), .ref 47, .int x15, .ref 53], (I, L, tw_P tw dr rt sc, A_2, J, 57))) rfl ?_
        obtain ⟨x17, hx16, hj13⟩ := tw_bindE hj13
        refine tw_iald (cd := tw_c284) (N := 241) rfl rfl rfl rfl hx16 ?_
        obtain ⟨w19, hx18, hj13⟩ := tw_bindE hj13
        refine tw_iast (cd := tw_c284) (N := 6) rfl rfl rfl rfl hx18 ?_
        have hj13s := Option.some.inj hj13
        subst hj13s
        exact K
      · rw [if_neg hc11] at hj13
        refine tw_br (cd := tw_c284) rfl rfl rfl (by exact if_pos (tw_b_f hc11)) ?_
        have hj13s := Option.some.inj hj13
        subst hj13s
        exact K
theorem g_X10_wrongBy_L3_ok (I : Nat → Int32) (L : Nat → Int64) (A : Nat → Nat → Int32) (J : Nat → Nat → Int64) (tw : Nat) (dr : Nat) (rt : Nat) (sc : Nat) (a1 : Int32) (A1 : Nat → Nat → Int32) (A3 : Nat → Nat → Int32) (A7 : Nat → Nat → Int32) (kont : (Nat → Int32) → Option (Int32 × (Nat → Int32) × (Nat → Nat → Int32))) (r : (Int32 × (Nat → Int32) × (Nat → Nat → Int32))) : ∀ (n : Nat) (v3_2 : Int32) (I_3 : Nat → Int32), g_X10_wrongBy_L3 A7 kont n v3_2 I_3 = some r → (∀ ex : Nat → Int32, kont ex = some r → tw_ME 284 (83, [none, none, none], [], (ex, L, tw_P tw dr rt sc, A7, J, 57)) (some (.int r.1), ((r.2.1), L, tw_P tw dr rt sc, (r.2.2), J, 57))) → tw_ME 284 (51, [some (.ref 44), none, some (.int v3_2)], [], (I_3, L, tw_P tw dr rt sc, A7, J, 57)) (some (.int r.1), ((r.2.1), L, tw_P tw dr rt sc, (r.2.2), J, 57)) := by
  intro n
  induction n with
  | zero =>
    intro v3_2 I_3 h _
    cases h
  | succ n ih =>
    intro v3_2 I_3 h K
    rw [g_X10_wrongBy_L3] at h
    refine tw_blk (cd := tw_c284) rfl 1 (c1 := (52, [some (.ref 44), none, some (.int v3_2)], [.int v3_2], (I_3, L, tw_P tw dr rt sc, A7, J, 57))) rfl ?_
    refine tw_blk (cd := tw_c284) rfl 3 (c1 := (55, [some (.ref 44), none, some (.int v3_2)], [.int 5, .ref 47, .int v3_2], (I_3, L, tw_P tw dr rt sc, A7, J, 57))) rfl ?_
    obtain ⟨x22, hx21, h⟩ := tw_bindE h
    refine tw_iald (cd := tw_c284) (N := 241) rfl rfl rfl rfl hx21 ?_
    by_cases hc23 : x22 ≤ v3_2
    · rw [if_pos hc23] at h
      refine tw_br (cd := tw_c284) rfl rfl rfl (by exact if_pos hc23) ?_
      refine tw_forget (ls2 := [none, none, none]) trivial ?_
      exact K _ h
    · rw [if_neg hc23] at h
      refine tw_br (cd := tw_c284) rfl rfl rfl (by exact if_neg hc23) ?_
      refine tw_blk (cd := tw_c284) rfl 5 (c1 := (62, [some (.ref 44), none, some (.int v3_2)], [.int ((103 : Int32) + v3_2), .ref 47], (I_3, L, tw_P tw dr rt sc, A7, J, 57))) rfl ?_
      obtain ⟨x25, hx24, h⟩ := tw_bindE h
      refine tw_iald (cd := tw_c284) (N := 241) rfl rfl rfl rfl hx24 ?_
      by_cases hc26 : x25 = 0
      · rw [if_pos hc26] at h
        refine tw_br (cd := tw_c284) rfl rfl rfl (by exact if_pos hc26) ?_
        refine tw_blk (cd := tw_c284) rfl 1 (c1 := (81, [some (.ref 44), none, some (.int v3_2)], [], (I_3, L, tw_P tw dr rt sc, A7, J, 57))) rfl ?_
        refine tw_blk (cd := tw_c284) rfl 2 (c1 := (51, [some (.ref 44), none, some (.int (v3_2 + (1 : Int32)))], [], (I_3, L, tw_P tw dr rt sc, A7, J, 57))) rfl ?_
        exact ih (v3_2 + (1 : Int32)) I_3 h K
      · rw [if_neg hc26] at h
        refine tw_br (cd := tw_c284) rfl rfl rfl (by exact if_neg hc26) ?_
        refine tw_blk (cd := tw_c284) rfl 2 (c1 := (67, [some (.ref 44), none, some (.int v3_2)], [.int v3_2, .ref 44], (I_3, L, tw_P tw dr rt sc, A7, J, 57))) rfl ?_
        obtain ⟨I27, hx28, h⟩ := tw_bindE h
        refine tw_callE (cd := tw_c284) rfl rfl rfl rfl rfl (e_X10_runTold I_3 L A7 J tw dr rt sc v3_2 _ hx28) (by exact Or.inl rfl) ?_
        refine tw_blk (cd := tw_c284) rfl 7 (c1 := (75, [some (.ref 44), none, some (.int v3_2)], [.int ((103 : Int32) + v3_2), .ref 47, .int (I27 4426)], (I27, L, tw_P tw dr rt sc, A7, J, 57))) rfl ?_
        obtain ⟨x30, hx29, h⟩ := tw_bindE h
        refine tw_iald (cd := tw_c284) (N := 241) rfl rfl rfl rfl hx29 ?_
        refine tw_blk (cd := tw_c284) rfl 2 (c1 := (78, [some (.ref 44), none, some (.int v3_2)], [.int (x30 - (1 : Int32)), .int (I27 4426)], (I27, L, tw_P tw dr rt sc, A7, J, 57))) rfl ?_
        by_cases hc31 : (I27 4426) = (x30 - (1 : Int32))
        · rw [if_pos hc31] at h
          refine tw_br (cd := tw_c284) rfl rfl rfl (by exact if_pos hc31) ?_
          refine tw_blk (cd := tw_c284) rfl 2 (c1 := (51, [some (.ref 44), none, some (.int (v3_2 + (1 : Int32)))], [], (I27, L, tw_P tw dr rt sc, A7, J, 57))) rfl ?_
          exact ih (v3_2 + (1 : Int32)) I27 h K
        · rw [if_neg hc31] at h
          refine tw_br (cd := tw_c284) rfl rfl rfl (by exact if_neg hc31) ?_
          refine tw_blk (cd := tw_c284) rfl 1 (c1 := (80, [some (.ref 44), none, some (.int v3_2)], [.int v3_2], (I27, L, tw_P tw dr rt sc, A7, J, 57))) rfl ?_
          have h := Option.some.inj h
          subst h
          exact tw_retE (cd := tw_c284) rfl rfl rfl rfl
theorem e_X10_wrongBy (I : Nat → Int32) (L : Nat → Int64) (A : Nat → Nat → Int32) (J : Nat → Nat → Int64) (tw dr : Nat) (rt : Nat) (sc : Nat) (a1 : Int32) : ∀ r : (Int32 × (Nat → Int32) × (Nat → Nat → Int32)), g_X10_wrongBy I A a1 = some r → tw_ME 284 (0, [some (.ref 44), some (.int a1), none], [], (I, L, tw_P tw dr rt sc, A, J, 57)) (some (.int r.1), ((r.2.1), L, tw_P tw dr rt sc, (r.2.2), J, 57)) := by
  intro r h
  unfold g_X10_wrongBy at h
  refine tw_blk (cd := tw_c284) rfl 1 (c1 := (1, [some (.ref 44), some (.int a1), none], [.ref 44], (I, L, tw_P tw dr rt sc, A, J, 57))) rfl ?_
  obtain ⟨A1, hx2, h⟩ := tw_bindE h
  refine tw_callE (cd := tw_c284) rfl rfl rfl rfl rfl (e_X10_asNow I L A J tw dr rt sc _ hx2) (by exact Or.inl rfl) ?_
  refine tw_blk (cd := tw_c284) rfl 2 (c1 := (4, [some (.ref 44), some (.int a1), some (.int 0)], [], (I, L, tw_P tw dr rt sc, A1, J, 57))) rfl ?_
  obtain ⟨A3, hx33, h⟩ := tw_bindE h
  refine g_X10_wrongBy_L1_ok I L A J tw dr rt sc a1 A1 _ 4096 (0 : Int32) A1 _ hx33 ?_
  refine tw_blk (cd := tw_c284) rfl 2 (c1 := (16, [some (.ref 44), some (.int a1), some (.int 0)], [], (I, L, tw_P tw dr rt sc, A3, J, 57))) rfl ?_
  obtain ⟨A7, hx32, h⟩ := tw_bindE h
  refine g_X10_wrongBy_L2_ok I L A J tw dr rt sc a1 A1 A3 _ 4096 (0 : Int32) A3 _ hx32 ?_
  refine tw_blk (cd := tw_c284) rfl 2 (c1 := (51, [some (.ref 44), none, some (.int 0)], [], (I, L, tw_P tw dr rt sc, A7, J, 57))) rfl ?_
  refine g_X10_wrongBy_L3_ok I L A J tw dr rt sc a1 A1 A3 A7 _ r 4096 (0 : Int32) I h (fun ex h => ?_)
  obtain ⟨I20, rfl⟩ : ∃ z, z = ex := ⟨ex, rfl⟩
  refine tw_blk (cd := tw_c284) rfl 1 (c1 := (84, [none, none, none], [.int (-2)], (I20, L, tw_P tw dr rt sc, A7, J, 57))) rfl ?_
  have h := Option.some.inj h
  subst h
  exact tw_retE (cd := tw_c284) rfl rfl rfl rfl
theorem g_X10_seekSets_L1_ok (I : Nat → Int32) (L : Nat → Int64) (A : Nat → Nat → Int32) (J : Nat → Nat → Int64) (tw : Nat) (dr : Nat) (rt : Nat) (sc : Nat) (a1 : Int32) (x2 : Int32) (out : Option Value × tw_S) : ∀ (n : Nat) (v1_3 : Int32) (A_1 : Nat → Nat → Int32) (ex : Nat → Nat → Int32), g_X10_seekSets_L1 n v1_3 A_1 = some ex → tw_ME 285 (30, [some (.ref 44), some (.int a1), some (.int (-1)), none, none], [], ((upd (upd (upd I 4433 (0 : Int32)) 4434 (0 : Int32)) 4435 (((1 : Int32) <<< (x2 &&& 31)) - (1 : Int32))), L, tw_P tw dr rt sc, ex, J, 57)) out → tw_ME 285 (20, [some (.ref 44), some (.int a1), some (.int (-1)), some (.int v1_3), none], [], ((upd (upd (upd I 4433 (0 : Int32)) 4434 (0 : Int32)) 4435 (((1 : Int32) <<< (x2 &&& 31)) - (1 : Int32))), L, tw_P tw dr rt sc, A_1, J, 57)) out := by
  intro n
  induction n with
  | zero =>
    intro v1_3 A_1 ex h _
    cases h
  | succ n ih =>
    intro v1_3 A_1 ex h K
    rw [g_X10_seekSets_L1] at h
    refine tw_blk (cd := tw_c285) rfl 1 (c1 := (21, [some (.ref 44), some (.int a1), some (.int (-1)), some (.int v1_3), none], [.int v1_3], ((upd (upd (upd I 4433 (0 : Int32)) 4434 (0 : Int32)) 4435 (((1 : Int32) <<< (x2 &&& 31)) - (1 : Int32))), L, tw_P tw dr rt sc, A_1, J, 57))) rfl ?_
    refine tw_blk (cd := tw_c285) rfl 1 (c1 := (22, [some (.ref 44), some (.int a1), some (.int (-1)), some (.int v1_3), none], [.int 4, .int v1_3], ((upd (upd (upd I 4433 (0 : Int32)) 4434 (0 : Int32)) 4435 (((1 : Int32) <<< (x2 &&& 31)) - (1 : Int32))), L, tw_P tw dr rt sc, A_1, J, 57))) rfl ?_
    by_cases hc4 : (4 : Int32) ≤ v1_3
    · rw [if_pos hc4] at h
      refine tw_br (cd := tw_c285) rfl rfl rfl (by exact if_pos hc4) ?_
      refine tw_forget (ls2 := [some (.ref 44), some (.int a1), some (.int (-1)), none, none]) ⟨rfl, rfl, rfl, trivial⟩ ?_
      have h := Option.some.inj h
      subst h
      exact K
    · rw [if_neg hc4] at h
      refine tw_br (cd := tw_c285) rfl rfl rfl (by exact if_neg hc4) ?_
      refine tw_blk (cd := tw_c285) rfl 4 (c1 := (27, [some (.ref 44), some (.int a1), some (.int (-1)), some (.int v1_3), none], [.int 0, .int v1_3, .ref 55], ((upd (upd (upd I 4433 (0 : Int32)) 4434 (0 : Int32)) 4435 (((1 : Int32) <<< (x2 &&& 31)) - (1 : Int32))), L, tw_P tw dr rt sc, A_1, J, 57))) rfl ?_
      obtain ⟨w6, hx5, h⟩ := tw_bindE h
      refine tw_iast (cd := tw_c285) (N := 4) rfl rfl rfl rfl hx5 ?_
      refine tw_blk (cd := tw_c285) rfl 2 (c1 := (20, [some (.ref 44), some (.int a1), some (.int (-1)), some (.int (v1_3 + (1 : Int32))), none], [], ((upd (upd (upd I 4433 (0 : Int32)) 4434 (0 : Int32)) 4435 (((1 : Int32) <<< (x2 &&& 31)) - (1 : Int32))), L, tw_P tw dr rt sc, (va_up A_1 55 w6), J, 57))) rfl ?_
      exact ih (v1_3 + (1 : Int32)) (va_up A_1 55 w6) _ h K
theorem g_X10_seekSets_L3_ok (I : Nat → Int32) (L : Nat → Int64) (A : Nat → Nat → Int32) (J : Nat → Nat → Int64) (tw : Nat) (dr : Nat) (rt : Nat) (sc : Nat) (a1 : Int32) (x2 : Int32) (A3 : Nat → Nat → Int32) (v2_2 : Int32) (v2_3 : Int32) (I_2 : Nat → Int32) (A_2 : Nat → Nat → Int32) (x11 : Int32) (x13 : Int32) (I14 : Nat → Int32) (A15 : Nat → Nat → Int32) (x23 : Int32) (out : Option Value × tw_S) : ∀ (n : Nat) (v3_4 : Int32) (A_3 : Nat → Nat → Int32) (ex : Nat → Nat → Int32), g_X10_seekSets_L3 v2_3 n v3_4 A_3 = some ex → tw_ME 285 (92, [some (.ref 44), some (.int a1), some (.int x23), some (.int v2_3), none], [], ((upd (upd (upd I14 4433 ((I14 4433) + (1 : Int32))) 4434 ((I14 4434) ||| v2_3)) 4435 ((I14 4435) &&& v2_3)), L, tw_P tw dr rt sc, ex, J, 57)) out → tw_ME 285 (72, [some (.ref 44), some (.int a1), some (.int x23), some (.int v2_3), some (.int v3_4)], [], ((upd (upd (upd I14 4433 ((I14 4433) + (1 : Int32))) 4434 ((I14 4434) ||| v2_3)) 4435 ((I14 4435) &&& v2_3)), L, tw_P tw dr rt sc, A_3, J, 57)) out := by
  intro n
  induction n with
  | zero =>
    intro v3_4 A_3 ex h _
    cases h
  | succ n ih =>
    intro v3_4 A_3 ex h K
    rw [g_X10_seekSets_L3] at h
    refine tw_blk (cd := tw_c285) rfl 1 (c1 := (73, [some (.ref 44), some (.int a1), some (.int x23), some (.int v2_3), some (.int v3_4)], [.int v3_4], ((upd (upd (upd I14 4433 ((I14 4433) + (1 : Int32))) 4434 ((I14 4434) ||| v2_3)) 4435 ((I14 4435) &&& v2_3)), L, tw_P tw dr rt sc, A_3, J, 57))) rfl ?_
    refine tw_blk (cd := tw_c285) rfl 3 (c1 := (76, [some (.ref 44), some (.int a1), some (.int x23), some (.int v2_3), some (.int v3_4)], [.int 7, .ref 47, .int v3_4], ((upd (upd (upd I14 4433 ((I14 4433) + (1 : Int32))) 4434 ((I14 4434) ||| v2_3)) 4435 ((I14 4435) &&& v2_3)), L, tw_P tw dr rt sc, A_3, J, 57))) rfl ?_
    obtain ⟨x27, hx26, h⟩ := tw_bindE h
    refine tw_iald (cd := tw_c285) (N := 241) rfl rfl rfl rfl hx26 ?_
    by_cases hc28 : x27 ≤ v3_4
    · rw [if_pos hc28] at h
      refine tw_br (cd := tw_c285) rfl rfl rfl (by exact if_pos hc28) ?_
      refine tw_forget (ls2 := [some (.ref 44), some (.int a1), some (.int x23), some (.int v2_3), none]) ⟨rfl, rfl, rfl, rfl, trivial⟩ ?_
      have h := Option.some.inj h
      subst h
      exact K
    · rw [if_neg hc28] at h
      refine tw_br (cd := tw_c285) rfl rfl rfl (by exact if_neg hc28) ?_
      refine tw_blk (cd := tw_c285) rfl 4 (c1 := (82, [some (.ref 44), some (.int a1), some (.int x23), some (.int v2_3), some (.int v3_4)], [.int v3_4, .ref 55, .int v3_4, .ref 55], ((upd (upd (upd I14 4433 ((I14 4433) + (1 : Int32))) 4434 ((I14 4434) ||| v2_3)) 4435 ((I14 4435) &&& v2_3)), L, tw_P tw dr rt sc, A_3, J, 57))) rfl ?_
      obtain ⟨x30, hx29, h⟩ := tw_bindE h
      refine tw_iald (cd := tw_c285) (N := 4) rfl rfl rfl rfl hx29 ?_
      refine tw_blk (cd := tw_c285) rfl 6 (c1 := (89, [some (.ref 44), some (.int a1), some (.int x23), some (.int v2_3), some (.int v3_4)], [.int (x30 + ((v2_3 >>> (v3_4 &&& 31)) &&& (1 : Int32))), .int v3_4, .ref 55], ((upd (upd (upd I14 4433 ((I14 4433) + (1 : Int32))) 4434 ((I14 4434) ||| v2_3)) 4435 ((I14 4435) &&& v2_3)), L, tw_P tw dr rt sc, A_3, J, 57))) rfl ?_
      obtain ⟨w32, hx31, h⟩ := tw_bindE h
      refine tw_iast (cd := tw_c285) (N := 4) rfl rfl rfl rfl hx31 ?_
      refine tw_blk (cd := tw_c285) rfl 2 (c1 := (72, [some (.ref 44), some (.int a1), some (.int x23), some (.int v2_3), some (.int (v3_4 + (1 : Int32)))], [], ((upd (upd (upd I14 4433 ((I14 4433) + (1 : Int32))) 4434 ((I14 4434) ||| v2_3)) 4435 ((I14 4435) &&& v2_3)), L, tw_P tw dr rt sc, (va_up A_3 55 w32), J, 57))) rfl ?_
      exact ih (v3_4 + (1 : Int32)) (va_up A_3 55 w32) _ h K
theorem g_X10_seekSets_L2_ok (I : Nat → Int32) (L : Nat → Int64) (A : Nat → Nat → Int32) (J : Nat → Nat → Int64) (tw : Nat) (dr : Nat) (rt : Nat) (sc : Nat) (a1 : Int32) (x2 : Int32) (A3 : Nat → Nat → Int32) (out : Option Value × tw_S) : ∀ (n : Nat) (v2_2 : Int32) (v2_3 : Int32) (I_2 : Nat → Int32) (A_2 : Nat → Nat → Int32) (ex : (Int32 × (Nat → Int32) × (Nat → Nat → Int32))), g_X10_seekSets_L2 a1 n v2_2 v2_3 I_2 A_2 = some ex → tw_ME 285 (94, [some (.ref 44), none, some (.int (ex.1)), none, none], [], ((ex.2.1), L, tw_P tw dr rt sc, (ex.2.2), J, 57)) out → tw_ME 285 (32, [some (.ref 44), some (.int a1), some (.int v2_2), some (.int v2_3), none], [], (I_2, L, tw_P tw dr rt sc, A_2, J, 57)) out := by
  intro n
  induction n with
  | zero =>
    intro v2_2 v2_3 I_2 A_2 ex h _
    cases h
  | succ n ih =>
    intro v2_2 v2_3 I_2 A_2 ex h K
    rw [g_X10_seekSets_L2] at h
    refine tw_blk (cd := tw_c285) rfl 1 (c1 := (33, [some (.ref 44), some (.int a1), some (.int v2_2), some (.int v2_3), none], [.int v2_3], (I_2, L, tw_P tw dr rt sc, A_2, J, 57))) rfl ?_
    refine tw_blk (cd := tw_c285) rfl 4 (c1 := (37, [some (.ref 44), some (.int a1), some (.int v2_2), some (.int v2_3), none], [.int 7, .ref 47, .int 1, .int v2_3], (I_2, L, tw_P tw dr rt sc, A_2, J, 57))) rfl ?_
    obtain ⟨x11, hx10, h⟩ := tw_bindE h
    refine tw_iald (cd := tw_c285) (N := 241) rfl rfl rfl rfl hx10 ?_
    refine tw_blk (cd := tw_c285) rfl 1 (c1 := (39, [some (.ref 44), some (.int a1), some (.int v2_2), some (.int v2_3), none], [.int ((1 : Int32) <<< (x11 &&& 31)), .int v2_3], (I_2, L, tw_P tw dr rt sc, A_2, J, 57))) rfl ?_
    by_cases hc12 : ((1 : Int32) <<< (x11 &&& 31)) ≤ v2_3
    · rw [if_pos hc12] at h
      refine tw_br (cd := tw_c285) rfl rfl rfl (by exact if_pos hc12) ?_
      refine tw_forget (ls2 := [some (.ref 44), none, some (.int v2_2), none, none]) ⟨rfl, rfl, trivial⟩ ?_
      have h := Option.some.inj h
      subst h
      exact K
    · rw [if_neg hc12] at h
      refine tw_br (cd := tw_c285) rfl rfl rfl (by exact if_neg hc12) ?_
      refine tw_blk (cd := tw_c285) rfl 2 (c1 := (42, [some (.ref 44), some (.int a1), some (.int v2_2), some (.int v2_3), none], [.int v2_3, .ref 44], (I_2, L, tw_P tw dr rt sc, A_2, J, 57))) rfl ?_
      obtain ⟨⟨x13, I14, A15⟩, hx16, h⟩ := tw_bindE h
      dsimp only at h
      refine tw_callE (cd := tw_c285) rfl rfl rfl rfl rfl (e_X10_wrongBy I_2 L A_2 J tw dr rt sc v2_3 _ hx16) (by exact Or.inl rfl) ?_
      refine tw_blk (cd := tw_c285) rfl 1 (c1 := (44, [some (.ref 44), some (.int a1), some (.int v2_2), some (.int v2_3), none], [.int (-2), .int x13], (I14, L, tw_P tw dr rt sc, A15, J, 57))) rfl ?_
      obtain ⟨⟨x18, I19, A20⟩, hj21, h⟩ := tw_bindE h
      dsimp only at h
      have K : tw_ME 285 (92, [some (.ref 44), some (.int a1), some (.int x18), some (.int v2_3), none], [], (I19, L, tw_P tw dr rt sc, A20, J, 57)) out := by
        refine tw_blk (cd := tw_c285) rfl 2 (c1 := (32, [some (.ref 44), some (.int a1), some (.int x18), some (.int (v2_3 + (1 : Int32))), none], [], (I19, L, tw_P tw dr rt sc, A20, J, 57))) rfl ?_
        exact ih x18 (v2_3 + (1 : Int32)) I19 A20 _ h K
      by_cases hc17 : x13 = (-2 : Int32)
      · rw [if_pos hc17] at hj21
        refine tw_br (cd := tw_c285) rfl rfl rfl (by exact if_pos hc17) ?_
        refine tw_blk (cd := tw_c285) rfl 3 (c1 := (49, [some (.ref 44), some (.int a1), some (.int v2_2), some (.int v2_3), none], [.int a1, .int (I14 4433)], (I14, L, tw_P tw dr rt sc, A15, J, 57))) rfl ?_
        obtain ⟨x23, hj24, hj21⟩ := tw_bindE hj21
        have K : tw_ME 285 (52, [some (.ref 44), some (.int a1), some (.int x23), some (.int v2_3), none], [], (I14, L, tw_P tw dr rt sc, A15, J, 57)) out := by
          refine tw_blk (cd := tw_c285) rfl 20 (c1 := (72, [some (.ref 44), some (.int a1), some (.int x23), some (.int v2_3), some (.int 0)], [], ((upd (upd (upd I14 4433 ((I14 4433) + (1 : Int32))) 4434 ((I14 4434) ||| v2_3)) 4435 ((I14 4435) &&& v2_3)), L, tw_P tw dr rt sc, A15, J, 57))) rfl ?_
          obtain ⟨A25, hx33, hj21⟩ := tw_bindE hj21
          refine g_X10_seekSets_L3_ok I L A J tw dr rt sc a1 x2 A3 v2_2 v2_3 I_2 A_2 x11 x13 I14 A15 x23 _ 4096 (0 : Int32) A15 _ hx33 ?_
          have hj21s := Option.some.inj hj21
          obtain ⟨hj21_0, hj21r0⟩ := Prod.mk.inj hj21s
          obtain ⟨hj21_1, hj21r1⟩ := Prod.mk.inj hj21r0
          subst hj21_0
          subst hj21_1
          subst hj21r1
          exact K
        by_cases hc22 : (I14 4433) = a1
        · rw [if_pos hc22] at hj24
          refine tw_br (cd := tw_c285) rfl rfl rfl (by exact if_pos hc22) ?_
          refine tw_blk (cd := tw_c285) rfl 2 (c1 := (52, [some (.ref 44), some (.int a1), some (.int v2_3), some (.int v2_3), none], [], (I14, L, tw_P tw dr rt sc, A15, J, 57))) rfl ?_
          have hj24s := Option.some.inj hj24
          subst hj24s
          exact K
        · rw [if_neg hc22] at hj24
          refine tw_br (cd := tw_c285) rfl rfl rfl (by exact if_neg hc22) ?_
          have hj24s := Option.some.inj hj24
          subst hj24s
          exact K
      · rw [if_neg hc17] at hj21
        refine tw_br (cd := tw_c285) rfl rfl rfl (by exact if_neg hc17) ?_
        refine tw_blk (cd := tw_c285) rfl 1 (c1 := (92, [some (.ref 44), some (.int a1), some (.int v2_2), some (.int v2_3), none], [], (I14, L, tw_P tw dr rt sc, A15, J, 57))) rfl ?_
        have hj21s := Option.some.inj hj21
        obtain ⟨hj21_0, hj21r0⟩ := Prod.mk.inj hj21s
        obtain ⟨hj21_1, hj21r1⟩ := Prod.mk.inj hj21r0
        subst hj21_0
        subst hj21_1
        subst hj21r1
        exact K
theorem e_X10_seekSets (I : Nat → Int32) (L : Nat → Int64) (A : Nat → Nat → Int32) (J : Nat → Nat → Int64) (tw dr : Nat) (rt : Nat) (sc : Nat) (a1 : Int32) : ∀ r : (Int32 × (Nat → Int32) × (Nat → Nat → Int32)), g_X10_seekSets I A a1 = some r → tw_ME 285 (0, [some (.ref 44), some (.int a1), none, none, none], [], (I, L, tw_P tw dr rt sc, A, J, 57)) (some (.int r.1), ((r.2.1), L, tw_P tw dr rt sc, (r.2.2), J, 57)) := by
  intro r h
  unfold g_X10_seekSets at h
  refine tw_blk (cd := tw_c285) rfl 13 (c1 := (13, [some (.ref 44), some (.int a1), some (.int (-1)), none, none], [.int 7, .ref 47, .int 1, .ref 44], ((upd (upd I 4433 (0 : Int32)) 4434 (0 : Int32)), L, tw_P tw dr rt sc, A, J, 57))) rfl ?_
  obtain ⟨x2, hx1, h⟩ := tw_bindE h
  refine tw_iald (cd := tw_c285) (N := 241) rfl rfl rfl rfl hx1 ?_
  refine tw_blk (cd := tw_c285) rfl 6 (c1 := (20, [some (.ref 44), some (.int a1), some (.int (-1)), some (.int 0), none], [], ((upd (upd (upd I 4433 (0 : Int32)) 4434 (0 : Int32)) 4435 (((1 : Int32) <<< (x2 &&& 31)) - (1 : Int32))), L, tw_P tw dr rt sc, A, J, 57))) rfl ?_
  obtain ⟨A3, hx36, h⟩ := tw_bindE h
  refine g_X10_seekSets_L1_ok I L A J tw dr rt sc a1 x2 _ 4096 (0 : Int32) A _ hx36 ?_
  refine tw_blk (cd := tw_c285) rfl 2 (c1 := (32, [some (.ref 44), some (.int a1), some (.int (-1)), some (.int 0), none], [], ((upd (upd (upd I 4433 (0 : Int32)) 4434 (0 : Int32)) 4435 (((1 : Int32) <<< (x2 &&& 31)) - (1 : Int32))), L, tw_P tw dr rt sc, A3, J, 57))) rfl ?_
  obtain ⟨⟨x7, I8, A9⟩, hx35, h⟩ := tw_bindE h
  dsimp only at h
  refine g_X10_seekSets_L2_ok I L A J tw dr rt sc a1 x2 A3 _ 4096 (-1 : Int32) (0 : Int32) (upd (upd (upd I 4433 (0 : Int32)) 4434 (0 : Int32)) 4435 (((1 : Int32) <<< (x2 &&& 31)) - (1 : Int32))) A3 _ hx35 ?_
  refine tw_blk (cd := tw_c285) rfl 2 (c1 := (96, [some (.ref 44), none, some (.int x7), none, none], [.int (I8 4433)], (I8, L, tw_P tw dr rt sc, A9, J, 57))) rfl ?_
  by_cases hc34 : (I8 4433) = 0
  · rw [if_pos hc34] at h
    refine tw_br (cd := tw_c285) rfl rfl rfl (by exact if_pos hc34) ?_
    refine tw_blk (cd := tw_c285) rfl 4 (c1 := (101, [some (.ref 44), none, some (.int x7), none, none], [.int x7], ((upd I8 4435 (0 : Int32)), L, tw_P tw dr rt sc, A9, J, 57))) rfl ?_
    have h := Option.some.inj h
    subst h
    exact tw_retE (cd := tw_c285) rfl rfl rfl rfl
  · rw [if_neg hc34] at h
    refine tw_br (cd := tw_c285) rfl rfl rfl (by exact if_neg hc34) ?_
    refine tw_blk (cd := tw_c285) rfl 1 (c1 := (101, [some (.ref 44), none, some (.int x7), none, none], [.int x7], (I8, L, tw_P tw dr rt sc, A9, J, 57))) rfl ?_
    have h := Option.some.inj h
    subst h
    exact tw_retE (cd := tw_c285) rfl rfl rfl rfl
