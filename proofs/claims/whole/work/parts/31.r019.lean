/-! the machine does what the functions say -/
set_option maxRecDepth 16000
theorem e_X9_lasts (I : Nat → Int32) (L : Nat → Int64) (A : Nat → Nat → Int32) (J : Nat → Nat → Int64) (rt : Nat) (sc : Nat) (a1 : Int32) (a2 : Int32) (a3 : Int32) : ∀ r : (Int64 × (Nat → Int32) × (Nat → Int64) × (Nat → Nat → Int32) × Nat), g_X9_lasts I L A sc a1 a2 a3 = some r → tw_ME 158 (0, [some (.ref 0), some (.int a1), some (.int a2), some (.int a3)], [], (I, L, tw_P 2 14 rt sc, A, J, 57)) (some (.long r.1), ((r.2.1), (r.2.2.1), tw_P 2 14 rt (r.2.2.2.2), (r.2.2.2.1), J, 57)) := by
  intro r h
  unfold g_X9_lasts at h
  refine tw_blk (cd := tw_c158) rfl 2 (c1 := (2, [some (.ref 0), some (.int a1), some (.int a2), some (.int a3)], [.int a1, .ref 0], (I, L, tw_P 2 14 rt sc, A, J, 57))) rfl ?_
  refine tw_callE (cd := tw_c158) rfl rfl rfl rfl rfl (e_X9_isQuarrel I L A J rt sc a1 _ rfl) (by exact Or.inl rfl) ?_
  by_cases hc1 : (g_X9_isQuarrel A a1) = true
  · rw [if_pos hc1] at h
    refine tw_br (cd := tw_c158) rfl rfl rfl (by exact if_neg (tw_b_t hc1)) ?_
    refine tw_blk (cd := tw_c158) rfl 1 (c1 := (10, [some (.ref 0), some (.int a1), some (.int a2), some (.int a3)], [.int a2], (I, L, tw_P 2 14 rt sc, A, J, 57))) rfl ?_
    by_cases hc2 : a2 < 0
    · rw [if_pos hc2] at h
      refine tw_br (cd := tw_c158) rfl rfl rfl (by exact if_pos hc2) ?_
      refine tw_blk (cd := tw_c158) rfl 2 (c1 := (16, [some (.ref 0), some (.int a1), some (.int a2), some (.int a3)], [.int 2, .ref 0], (I, L, tw_P 2 14 rt sc, A, J, 57))) rfl ?_
      obtain ⟨⟨x3, I4⟩, hx5, h⟩ := tw_letE h
      dsimp only at h
      refine tw_callE (cd := tw_c158) rfl rfl rfl rfl rfl (e_X9_refuse I L A J 2 14 rt sc (2 : Int32) _ hx5) (by exact Or.inl rfl) ?_
      refine tw_blk (cd := tw_c158) rfl 1 (c1 := (18, [some (.ref 0), some (.int a1), some (.int a2), some (.int a3)], [.long ((x3).toInt64)], (I4, L, tw_P 2 14 rt sc, A, J, 57))) rfl ?_
      have h := Option.some.inj h
      subst h
      exact tw_retE (cd := tw_c158) rfl rfl rfl rfl
    · rw [if_neg hc2] at h
      refine tw_br (cd := tw_c158) rfl rfl rfl (by exact if_neg hc2) ?_
      refine tw_blk (cd := tw_c158) rfl 2 (c1 := (13, [some (.ref 0), some (.int a1), some (.int a2), some (.int a3)], [.int 6, .int a2], (I, L, tw_P 2 14 rt sc, A, J, 57))) rfl ?_
      by_cases hc6 : a2 ≤ (6 : Int32)
      · rw [if_pos hc6] at h
        refine tw_br (cd := tw_c158) rfl rfl rfl (by exact if_pos hc6) ?_
        refine tw_blk (cd := tw_c158) rfl 1 (c1 := (20, [some (.ref 0), some (.int a1), some (.int a2), some (.int a3)], [.ref 0], (I, L, tw_P 2 14 rt sc, A, J, 57))) rfl ?_
        obtain ⟨⟨I7, A8⟩, hx9, h⟩ := tw_bindE h
        dsimp only at h
        refine tw_callE (cd := tw_c158) rfl rfl rfl rfl rfl (e_X9_showNow I L A J rt sc _ hx9) (by exact Or.inl rfl) ?_
        refine tw_blk (cd := tw_c158) rfl 4 (c1 := (25, [some (.ref 0), some (.int a1), some (.int a2), some (.int a3)], [.int a2, .int a1, .ref 39], (I7, L, tw_P 2 14 rt 2, A8, J, 57))) rfl ?_
        obtain ⟨⟨L10, A11⟩, hx12, h⟩ := tw_bindE h
        dsimp only at h
        refine tw_callE (cd := tw_c158) rfl rfl rfl rfl rfl (e_X1_weigh I7 L A8 J 2 14 rt a1 a2 _ hx12) (by exact Or.inl rfl) ?_
        refine tw_blk (cd := tw_c158) rfl 10 (c1 := (36, [some (.ref 0), some (.int a1), some (.int a2), some (.int a3)], [.int a3, .long (L10 3909), .long (L10 3908)], ((upd I7 12 (0 : Int32)), L10, tw_P 2 14 rt 2, A11, J, 57))) rfl ?_
        obtain ⟨y13, hx14, h⟩ := tw_bindE h
        refine tw_callE (cd := tw_c158) rfl rfl rfl rfl rfl (e_X9_inLowestTerms (upd I7 12 (0 : Int32)) L10 A11 J 2 14 rt 2 (L10 3908) (L10 3909) a3 _ hx14) (by exact Or.inl rfl) ?_
        have h := Option.some.inj h
        subst h
        exact tw_retE (cd := tw_c158) rfl rfl rfl rfl
      · rw [if_neg hc6] at h
        refine tw_br (cd := tw_c158) rfl rfl rfl (by exact if_neg hc6) ?_
        refine tw_blk (cd := tw_c158) rfl 2 (c1 := (16, [some (.ref 0), some (.int a1), some (.int a2), some (.int a3)], [.int 2, .ref 0], (I, L, tw_P 2 14 rt sc, A, J, 57))) rfl ?_
        obtain ⟨⟨x15, I16⟩, hx17, h⟩ := tw_letE h
        dsimp only at h
        refine tw_callE (cd := tw_c158) rfl rfl rfl rfl rfl (e_X9_refuse I L A J 2 14 rt sc (2 : Int32) _ hx17) (by exact Or.inl rfl) ?_
        refine tw_blk (cd := tw_c158) rfl 1 (c1 := (18, [some (.ref 0), some (.int a1), some (.int a2), some (.int a3)], [.long ((x15).toInt64)], (I16, L, tw_P 2 14 rt sc, A, J, 57))) rfl ?_
        have h := Option.some.inj h
        subst h
        exact tw_retE (cd := tw_c158) rfl rfl rfl rfl
  · rw [if_neg hc1] at h
    refine tw_br (cd := tw_c158) rfl rfl rfl (by exact if_pos (tw_b_f hc1)) ?_
    refine tw_blk (cd := tw_c158) rfl 2 (c1 := (6, [some (.ref 0), some (.int a1), some (.int a2), some (.int a3)], [.int 1, .ref 0], (I, L, tw_P 2 14 rt sc, A, J, 57))) rfl ?_
    obtain ⟨⟨x18, I19⟩, hx20, h⟩ := tw_letE h
    dsimp only at h
    refine tw_callE (cd := tw_c158) rfl rfl rfl rfl rfl (e_X9_refuse I L A J 2 14 rt sc (1 : Int32) _ hx20) (by exact Or.inl rfl) ?_
    refine tw_blk (cd := tw_c158) rfl 1 (c1 := (8, [some (.ref 0), some (.int a1), some (.int a2), some (.int a3)], [.long ((x18).toInt64)], (I19, L, tw_P 2 14 rt sc, A, J, 57))) rfl ?_
    have h := Option.some.inj h
    subst h
    exact tw_retE (cd := tw_c158) rfl rfl rfl rfl
theorem e_X10_runWithBoys (I : Nat → Int32) (L : Nat → Int64) (A : Nat → Nat → Int32) (J : Nat → Nat → Int64) (tw dr : Nat) (rt : Nat) (sc : Nat) (a1 : Int32) : ∀ r : Nat → Int32, g_X10_runWithBoys I A a1 = some r → tw_ME 302 (0, [some (.ref 44), some (.int a1)], [], (I, L, tw_P tw dr rt sc, A, J, 57)) (none, (r, L, tw_P tw dr rt sc, A, J, 57)) := by
  intro r h
  unfold g_X10_runWithBoys at h
  refine tw_blk (cd := tw_c302) rfl 11 (c1 := (11, [some (.ref 44), some (.int a1)], [.int (((80 : Int32) + ((5 : Int32) * a1)) + (2 : Int32)), .ref 47, .int a1, .ref 44], (I, L, tw_P tw dr rt sc, A, J, 57))) rfl ?_
  obtain ⟨x2, hx1, h⟩ := tw_bindE h
  refine tw_iald (cd := tw_c302) (N := 241) rfl rfl rfl rfl hx1 ?_
  refine tw_blk (cd := tw_c302) rfl 9 (c1 := (21, [some (.ref 44), some (.int a1)], [.int (((80 : Int32) + ((5 : Int32) * a1)) + (3 : Int32)), .ref 47, .int x2, .int a1, .ref 44], (I, L, tw_P tw dr rt sc, A, J, 57))) rfl ?_
  obtain ⟨x4, hx3, h⟩ := tw_bindE h
  refine tw_iald (cd := tw_c302) (N := 241) rfl rfl rfl rfl hx3 ?_
  refine tw_blk (cd := tw_c302) rfl 1 (c1 := (23, [some (.ref 44), some (.int a1)], [.int 1, .int x4, .int x2, .int a1, .ref 44], (I, L, tw_P tw dr rt sc, A, J, 57))) rfl ?_
  obtain ⟨I5, hx6, h⟩ := tw_bindE h
  refine tw_callE (cd := tw_c302) rfl rfl rfl rfl rfl (e_X10_run I L A J tw dr rt sc a1 x2 x4 (1 : Int32) _ hx6) (by exact Or.inl rfl) ?_
  have h := Option.some.inj h
  subst h
  exact tw_retE (cd := tw_c302) rfl rfl rfl rfl
theorem g_X10_lasts_L2_ok (I : Nat → Int32) (L : Nat → Int64) (A : Nat → Nat → Int32) (J : Nat → Nat → Int64) (tw : Nat) (dr : Nat) (rt : Nat) (sc : Nat) (a1 : Int32) (a2 : Int32) (a3 : Int32) (I1 : Nat → Int32) (c3 : Bool) (A6 : Nat → Nat → Int32) (v1_5 : Int64) (v1_7 : Int64) (v1_9 : Int32) (I_1 : Nat → Int32) (out : Option Value × tw_S) : ∀ (n : Nat) (v2_10 : Int64) (v2_12 : Int32) (ex : Int64), g_X10_lasts_L2 a2 A6 v1_9 n v2_10 v2_12 = some ex → tw_ME 303 (61, [some (.ref 44), some (.int a1), some (.int a2), some (.int a3), none, some (.long v1_5), none, some (.long v1_7), none, some (.int v1_9), some (.long ex), none, none], [], (I_1, L, tw_P tw dr rt sc, A6, J, 57)) out → tw_ME 303 (36, [some (.ref 44), some (.int a1), some (.int a2), some (.int a3), none, some (.long v1_5), none, some (.long v1_7), none, some (.int v1_9), some (.long v2_10), none, some (.int v2_12)], [], (I_1, L, tw_P tw dr rt sc, A6, J, 57)) out := by
  intro n
  induction n with
  | zero =>
    intro v2_10 v2_12 ex h _
    cases h
  | succ n ih =>
    intro v2_10 v2_12 ex h K
    rw [g_X10_lasts_L2] at h
    refine tw_blk (cd := tw_c303) rfl 1 (c1 := (37, [some (.ref 44), some (.int a1), some (.int a2), some (.int a3), none, some (.long v1_5), none, some (.long v1_7), none, some (.int v1_9), some (.long v2_10), none, some (.int v2_12)], [.int v2_12], (I_1, L, tw_P tw dr rt sc, A6, J, 57))) rfl ?_
    refine tw_blk (cd := tw_c303) rfl 1 (c1 := (38, [some (.ref 44), some (.int a1), some (.int a2), some (.int a3), none, some (.long v1_5), none, some (.long v1_7), none, some (.int v1_9), some (.long v2_10), none, some (.int v2_12)], [.int a2, .int v2_12], (I_1, L, tw_P tw dr rt sc, A6, J, 57))) rfl ?_
    by_cases hc13 : a2 ≤ v2_12
    · rw [if_pos hc13] at h
      refine tw_br (cd := tw_c303) rfl rfl rfl (by exact if_pos hc13) ?_
      refine tw_forget (ls2 := [some (.ref 44), some (.int a1), some (.int a2), some (.int a3), none, some (.long v1_5), none, some (.long v1_7), none, some (.int v1_9), some (.long v2_10), none, none]) ⟨rfl, rfl, rfl, rfl, rfl, rfl, rfl, rfl, trivial⟩ ?_
      have h := Option.some.inj h
      subst h
      exact K
    · rw [if_neg hc13] at h
      refine tw_br (cd := tw_c303) rfl rfl rfl (by exact if_neg hc13) ?_
      refine tw_blk (cd := tw_c303) rfl 3 (c1 := (42, [some (.ref 44), some (.int a1), some (.int a2), some (.int a3), none, some (.long v1_5), none, some (.long v1_7), none, some (.int v1_9), some (.long v2_10), none, some (.int v2_12)], [.int v2_12, .int v1_9, .long v2_10], (I_1, L, tw_P tw dr rt sc, A6, J, 57))) rfl ?_
      refine tw_callE (cd := tw_c303) rfl rfl rfl rfl rfl (e_X10_hasBit I_1 L A6 J tw dr rt sc v1_9 v2_12 _ rfl) (by exact Or.inl rfl) ?_
      obtain ⟨y15, hj16, h⟩ := tw_bindE h
      have K : tw_ME 303 (57, [some (.ref 44), some (.int a1), some (.int a2), some (.int a3), none, some (.long v1_5), none, some (.long v1_7), none, some (.int v1_9), none, none, some (.int v2_12)], [.long y15, .long v2_10], (I_1, L, tw_P tw dr rt sc, A6, J, 57)) out := by
        refine tw_blk (cd := tw_c303) rfl 4 (c1 := (36, [some (.ref 44), some (.int a1), some (.int a2), some (.int a3), none, some (.long v1_5), none, some (.long v1_7), none, some (.int v1_9), some (.long (v2_10 * y15)), none, some (.int (v2_12 + (1 : Int32)))], [], (I_1, L, tw_P tw dr rt sc, A6, J, 57))) rfl ?_
        exact ih (v2_10 * y15) (v2_12 + (1 : Int32)) _ h K
      by_cases hc14 : (g_X10_hasBit v1_9 v2_12) = true
      · rw [if_pos hc14] at hj16
        refine tw_br (cd := tw_c303) rfl rfl rfl (by exact if_neg (tw_b_t hc14)) ?_
        refine tw_blk (cd := tw_c303) rfl 3 (c1 := (47, [some (.ref 44), some (.int a1), some (.int a2), some (.int a3), none, some (.long v1_5), none, some (.long v1_7), none, some (.int v1_9), some (.long v2_10), none, some (.int v2_12)], [.int 0, .ref 47, .long v2_10], (I_1, L, tw_P tw dr rt sc, A6, J, 57))) rfl ?_
        obtain ⟨x18, hx17, hj16⟩ := tw_bindE hj16
        refine tw_iald (cd := tw_c303) (N := 241) rfl rfl rfl rfl hx17 ?_
        refine tw_blk (cd := tw_c303) rfl 2 (c1 := (57, [some (.ref 44), some (.int a1), some (.int a2), some (.int a3), none, some (.long v1_5), none, some (.long v1_7), none, some (.int v1_9), some (.long v2_10), none, some (.int v2_12)], [.long ((x18).toInt64), .long v2_10], (I_1, L, tw_P tw dr rt sc, A6, J, 57))) rfl ?_
        refine tw_forget (ls2 := [some (.ref 44), some (.int a1), some (.int a2), some (.int a3), none, some (.long v1_5), none, some (.long v1_7), none, some (.int v1_9), none, none, some (.int v2_12)]) ⟨rfl, rfl, rfl, rfl, rfl, rfl, rfl, rfl, trivial⟩ ?_
        have hj16s := Option.some.inj hj16
        subst hj16s
        exact K
      · rw [if_neg hc14] at hj16
        refine tw_br (cd := tw_c303) rfl rfl rfl (by exact if_pos (tw_b_f hc14)) ?_
        refine tw_blk (cd := tw_c303) rfl 4 (c1 := (54, [some (.ref 44), some (.int a1), some (.int a2), some (.int a3), none, some (.long v1_5), none, some (.long v1_7), none, some (.int v1_9), some (.long v2_10), none, some (.int v2_12)], [.int 0, .ref 47, .int 100, .long v2_10], (I_1, L, tw_P tw dr rt sc, A6, J, 57))) rfl ?_
        obtain ⟨x20, hx19, hj16⟩ := tw_bindE hj16
        refine tw_iald (cd := tw_c303) (N := 241) rfl rfl rfl rfl hx19 ?_
        refine tw_blk (cd := tw_c303) rfl 2 (c1 := (57, [some (.ref 44), some (.int a1), some (.int a2), some (.int a3), none, some (.long v1_5), none, some (.long v1_7), none, some (.int v1_9), some (.long v2_10), none, some (.int v2_12)], [.long ((((100 : Int32) - x20)).toInt64), .long v2_10], (I_1, L, tw_P tw dr rt sc, A6, J, 57))) rfl ?_
        refine tw_forget (ls2 := [some (.ref 44), some (.int a1), some (.int a2), some (.int a3), none, some (.long v1_5), none, some (.long v1_7), none, some (.int v1_9), none, none, some (.int v2_12)]) ⟨rfl, rfl, rfl, rfl, rfl, rfl, rfl, rfl, trivial⟩ ?_
        have hj16s := Option.some.inj hj16
        subst hj16s
        exact K
theorem g_X10_lasts_L1_ok (I : Nat → Int32) (L : Nat → Int64) (A : Nat → Nat → Int32) (J : Nat → Nat → Int64) (tw : Nat) (dr : Nat) (rt : Nat) (sc : Nat) (a1 : Int32) (a2 : Int32) (a3 : Int32) (I1 : Nat → Int32) (c3 : Bool) (A6 : Nat → Nat → Int32) (out : Option Value × tw_S) : ∀ (n : Nat) (v1_5 : Int64) (v1_7 : Int64) (v1_9 : Int32) (I_1 : Nat → Int32) (ex : (Int64 × Int64 × (Nat → Int32))), g_X10_lasts_L1 a1 a2 A6 n v1_5 v1_7 v1_9 I_1 = some ex → tw_ME 303 (97, [none, none, none, some (.int a3), none, some (.long (ex.1)), none, some (.long (ex.2.1)), none, none, none, none, none], [], ((ex.2.2), L, tw_P tw dr rt sc, A6, J, 57)) out → tw_ME 303 (27, [some (.ref 44), some (.int a1), some (.int a2), some (.int a3), none, some (.long v1_5), none, some (.long v1_7), none, some (.int v1_9), none, none, none], [], (I_1, L, tw_P tw dr rt sc, A6, J, 57)) out := by
  intro n
  induction n with
  | zero =>
    intro v1_5 v1_7 v1_9 I_1 ex h _
    cases h
  | succ n ih =>
    intro v1_5 v1_7 v1_9 I_1 ex h K
    rw [g_X10_lasts_L1] at h
    refine tw_blk (cd := tw_c303) rfl 1 (c1 := (28, [some (.ref 44), some (.int a1), some (.int a2), some (.int a3), none, some (.long v1_5), none, some (.long v1_7), none, some (.int v1_9), none, none, none], [.int v1_9], (I_1, L, tw_P tw dr rt sc, A6, J, 57))) rfl ?_
    refine tw_blk (cd := tw_c303) rfl 3 (c1 := (31, [some (.ref 44), some (.int a1), some (.int a2), some (.int a3), none, some (.long v1_5), none, some (.long v1_7), none, some (.int v1_9), none, none, none], [.int ((1 : Int32) <<< (a2 &&& 31)), .int v1_9], (I_1, L, tw_P tw dr rt sc, A6, J, 57))) rfl ?_
    by_cases hc11 : ((1 : Int32) <<< (a2 &&& 31)) ≤ v1_9
    · rw [if_pos hc11] at h
      refine tw_br (cd := tw_c303) rfl rfl rfl (by exact if_pos hc11) ?_
      refine tw_forget (ls2 := [none, none, none, some (.int a3), none, some (.long v1_5), none, some (.long v1_7), none, none, none, none, none]) ⟨rfl, rfl, rfl, trivial⟩ ?_
      have h := Option.some.inj h
      subst h
      exact K
    · rw [if_neg hc11] at h
      refine tw_br (cd := tw_c303) rfl rfl rfl (by exact if_neg hc11) ?_
      refine tw_blk (cd := tw_c303) rfl 4 (c1 := (36, [some (.ref 44), some (.int a1), some (.int a2), some (.int a3), none, some (.long v1_5), none, some (.long v1_7), none, some (.int v1_9), some (.long 1), none, some (.int 0)], [], (I_1, L, tw_P tw dr rt sc, A6, J, 57))) rfl ?_
      obtain ⟨y12, hx29, h⟩ := tw_bindE h
      refine g_X10_lasts_L2_ok I L A J tw dr rt sc a1 a2 a3 I1 c3 A6 v1_5 v1_7 v1_9 I_1 _ 4096 (1 : Int64) (0 : Int32) _ hx29 ?_
      refine tw_blk (cd := tw_c303) rfl 5 (c1 := (66, [some (.ref 44), some (.int a1), some (.int a2), some (.int a3), none, some (.long v1_5), none, some (.long v1_7), none, some (.int v1_9), some (.long y12), none, none], [.int a1, .ref 44], ((upd I_1 4430 v1_9), L, tw_P tw dr rt sc, A6, J, 57))) rfl ?_
      obtain ⟨I21, hx22, h⟩ := tw_bindE h
      refine tw_callE (cd := tw_c303) rfl rfl rfl rfl rfl (e_X10_runWithBoys (upd I_1 4430 v1_9) L A6 J tw dr rt sc a1 _ hx22) (by exact Or.inl rfl) ?_
      refine tw_blk (cd := tw_c303) rfl 7 (c1 := (74, [some (.ref 44), some (.int a1), some (.int a2), some (.int a3), none, some (.long v1_5), none, some (.long (v1_7 + y12)), none, some (.int v1_9), some (.long y12), none, none], [.int (I21 4425), .long v1_5], (I21, L, tw_P tw dr rt sc, A6, J, 57))) rfl ?_
      obtain ⟨y24, hj25, h⟩ := tw_bindE h
      have K : tw_ME 303 (93, [some (.ref 44), some (.int a1), some (.int a2), some (.int a3), none, none, none, some (.long (v1_7 + y12)), none, some (.int v1_9), none, none, none], [.long y24, .long v1_5], (I21, L, tw_P tw dr rt sc, A6, J, 57)) out := by
        refine tw_blk (cd := tw_c303) rfl 4 (c1 := (27, [some (.ref 44), some (.int a1), some (.int a2), some (.int a3), none, some (.long (v1_5 + y24)), none, some (.long (v1_7 + y12)), none, some (.int (v1_9 + (1 : Int32))), none, none, none], [], (I21, L, tw_P tw dr rt sc, A6, J, 57))) rfl ?_
        exact ih (v1_5 + y24) (v1_7 + y12) (v1_9 + (1 : Int32)) I21 _ h K
      by_cases hc23 : (I21 4425) = 0
      · rw [if_pos hc23] at hj25
        refine tw_br (cd := tw_c303) rfl rfl rfl (by exact if_pos hc23) ?_
        refine tw_blk (cd := tw_c303) rfl 11 (c1 := (86, [some (.ref 44), some (.int a1), some (.int a2), some (.int a3), none, some (.long v1_5), none, some (.long (v1_7 + y12)), none, some (.int v1_9), some (.long y12), none, none], [.int (((80 : Int32) + ((5 : Int32) * a1)) + (3 : Int32)), .ref 47, .int (I21 4426), .long v1_5], (I21, L, tw_P tw dr rt sc, A6, J, 57))) rfl ?_
        obtain ⟨x27, hx26, hj25⟩ := tw_bindE hj25
        refine tw_iald (cd := tw_c303) (N := 241) rfl rfl rfl rfl hx26 ?_
        refine tw_blk (cd := tw_c303) rfl 2 (c1 := (89, [some (.ref 44), some (.int a1), some (.int a2), some (.int a3), none, some (.long v1_5), none, some (.long (v1_7 + y12)), none, some (.int v1_9), some (.long y12), none, none], [.int (x27 + a2), .int (I21 4426), .long v1_5], (I21, L, tw_P tw dr rt sc, A6, J, 57))) rfl ?_
        by_cases hc28 : (x27 + a2) ≤ (I21 4426)
        · rw [if_pos hc28] at hj25
          refine tw_br (cd := tw_c303) rfl rfl rfl (by exact if_pos hc28) ?_
          refine tw_blk (cd := tw_c303) rfl 1 (c1 := (93, [some (.ref 44), some (.int a1), some (.int a2), some (.int a3), none, some (.long v1_5), none, some (.long (v1_7 + y12)), none, some (.int v1_9), some (.long y12), none, none], [.long y12, .long v1_5], (I21, L, tw_P tw dr rt sc, A6, J, 57))) rfl ?_
          refine tw_forget (ls2 := [some (.ref 44), some (.int a1), some (.int a2), some (.int a3), none, none, none, some (.long (v1_7 + y12)), none, some (.int v1_9), none, none, none]) ⟨rfl, rfl, rfl, rfl, rfl, rfl, trivial⟩ ?_
          have hj25s := Option.some.inj hj25
          subst hj25s
          exact K
        · rw [if_neg hc28] at hj25
          refine tw_br (cd := tw_c303) rfl rfl rfl (by exact if_neg hc28) ?_
          refine tw_blk (cd := tw_c303) rfl 2 (c1 := (93, [some (.ref 44), some (.int a1), some (.int a2), some (.int a3), none, some (.long v1_5), none, some (.long (v1_7 + y12)), none, some (.int v1_9), some (.long y12), none, none], [.long 0, .long v1_5], (I21, L, tw_P tw dr rt sc, A6, J, 57))) rfl ?_
          refine tw_forget (ls2 := [some (.ref 44), some (.int a1), some (.int a2), some (.int a3), none, none, none, some (.long (v1_7 + y12)), none, some (.int v1_9), none, none, none]) ⟨rfl, rfl, rfl, rfl, rfl, rfl, trivial⟩ ?_
          have hj25s := Option.some.inj hj25
          subst hj25s
          exact K
      · rw [if_neg hc23] at hj25
        refine tw_br (cd := tw_c303) rfl rfl rfl (by exact if_neg hc23) ?_
        refine tw_blk (cd := tw_c303) rfl 1 (c1 := (93, [some (.ref 44), some (.int a1), some (.int a2), some (.int a3), none, some (.long v1_5), none, some (.long (v1_7 + y12)), none, some (.int v1_9), some (.long y12), none, none], [.long y12, .long v1_5], (I21, L, tw_P tw dr rt sc, A6, J, 57))) rfl ?_
        refine tw_forget (ls2 := [some (.ref 44), some (.int a1), some (.int a2), some (.int a3), none, none, none, some (.long (v1_7 + y12)), none, some (.int v1_9), none, none, none]) ⟨rfl, rfl, rfl, rfl, rfl, rfl, trivial⟩ ?_
        have hj25s := Option.some.inj hj25
        subst hj25s
        exact K
theorem e_X10_lasts (I : Nat → Int32) (L : Nat → Int64) (A : Nat → Nat → Int32) (J : Nat → Nat → Int64) (tw dr : Nat) (rt : Nat) (sc : Nat) (a1 : Int32) (a2 : Int32) (a3 : Int32) : ∀ r : (Int64 × (Nat → Int32) × (Nat → Nat → Int32)), g_X10_lasts I A a1 a2 a3 = some r → tw_ME 303 (0, [some (.ref 44), some (.int a1), some (.int a2), some (.int a3), none, none, none, none, none, none, none, none, none], [], (I, L, tw_P tw dr rt sc, A, J, 57)) (some (.long r.1), ((r.2.1), L, tw_P tw dr rt sc, (r.2.2), J, 57)) := by
  intro r h
  unfold g_X10_lasts at h
  refine tw_blk (cd := tw_c303) rfl 1 (c1 := (1, [some (.ref 44), some (.int a1), some (.int a2), some (.int a3), none, none, none, none, none, none, none, none, none], [.ref 44], (I, L, tw_P tw dr rt sc, A, J, 57))) rfl ?_
  obtain ⟨I1, hx2, h⟩ := tw_letE h
  refine tw_callE (cd := tw_c303) rfl rfl rfl rfl rfl (e_X10_good I L A J tw dr rt sc _ hx2) (by exact Or.inl rfl) ?_
  refine tw_blk (cd := tw_c303) rfl 3 (c1 := (5, [some (.ref 44), some (.int a1), some (.int a2), some (.int a3), none, none, none, none, none, none, none, none, none], [.int a1, .ref 44, .ref 44], (I1, L, tw_P tw dr rt sc, A, J, 57))) rfl ?_
  obtain ⟨c3, hx4, h⟩ := tw_bindE h
  refine tw_callE (cd := tw_c303) rfl rfl rfl rfl rfl (e_X10_isQuarrel I1 L A J tw dr rt sc a1 _ hx4) (by exact Or.inl rfl) ?_
  refine tw_blk (cd := tw_c303) rfl 3 (c1 := (9, [some (.ref 44), some (.int a1), some (.int a2), some (.int a3), none, none, none, none, none, none, none, none, none], [.int 6, .int 0, .int a2, .int (tw_b c3), .ref 44], (I1, L, tw_P tw dr rt sc, A, J, 57))) rfl ?_
  refine tw_callE (cd := tw_c303) rfl rfl rfl rfl rfl (e_X10_in I1 L A J tw dr rt sc a2 (0 : Int32) (6 : Int32) _ rfl) (by exact Or.inl rfl) ?_
  refine tw_callE (cd := tw_c303) rfl rfl rfl rfl rfl (e_X10_why I1 L A J tw dr rt sc (tw_b c3) (tw_b (g_X10_in a2 (0 : Int32) (6 : Int32))) _ rfl) (by exact Or.inl rfl) ?_
  refine tw_blk (cd := tw_c303) rfl 2 (c1 := (13, [some (.ref 44), some (.int a1), some (.int a2), some (.int a3), some (.int (g_X10_why (tw_b c3) (tw_b (g_X10_in a2 (0 : Int32) (6 : Int32))))), none, none, none, none, none, none, none, none], [.int (g_X10_why (tw_b c3) (tw_b (g_X10_in a2 (0 : Int32) (6 : Int32))))], (I1, L, tw_P tw dr rt sc, A, J, 57))) rfl ?_
  by_cases hc5 : (g_X10_why (tw_b c3) (tw_b (g_X10_in a2 (0 : Int32) (6 : Int32)))) = 0
  · rw [if_pos hc5] at h
    refine tw_br (cd := tw_c303) rfl rfl rfl (by exact if_pos hc5) ?_
    refine tw_blk (cd := tw_c303) rfl 1 (c1 := (20, [some (.ref 44), some (.int a1), some (.int a2), some (.int a3), some (.int (g_X10_why (tw_b c3) (tw_b (g_X10_in a2 (0 : Int32) (6 : Int32))))), none, none, none, none, none, none, none, none], [.ref 44], (I1, L, tw_P tw dr rt sc, A, J, 57))) rfl ?_
    obtain ⟨A6, hx7, h⟩ := tw_bindE h
    refine tw_callE (cd := tw_c303) rfl rfl rfl rfl rfl (e_X10_asNow I1 L A J tw dr rt sc _ hx7) (by exact Or.inl rfl) ?_
    refine tw_blk (cd := tw_c303) rfl 6 (c1 := (27, [some (.ref 44), some (.int a1), some (.int a2), some (.int a3), some (.int (g_X10_why (tw_b c3) (tw_b (g_X10_in a2 (0 : Int32) (6 : Int32))))), some (.long 0), none, some (.long 0), none, some (.int 0), none, none, none], [], (I1, L, tw_P tw dr rt sc, A6, J, 57))) rfl ?_
    obtain ⟨⟨y8, y9, I10⟩, hx32, h⟩ := tw_bindE h
    dsimp only at h
    refine tw_forget (ls2 := [some (.ref 44), some (.int a1), some (.int a2), some (.int a3), none, some (.long 0), none, some (.long 0), none, some (.int 0), none, none, none]) ⟨rfl, rfl, rfl, rfl, rfl, rfl, rfl, trivial⟩ ?_
    refine g_X10_lasts_L1_ok I L A J tw dr rt sc a1 a2 a3 I1 c3 A6 _ 4096 (0 : Int64) (0 : Int64) (0 : Int32) I1 _ hx32 ?_
    refine tw_blk (cd := tw_c303) rfl 3 (c1 := (100, [none, none, none, some (.int a3), none, some (.long y8), none, some (.long y9), none, none, none, none, none], [.int a3, .long y9, .long y8], (I10, L, tw_P tw dr rt sc, A6, J, 57))) rfl ?_
    obtain ⟨y30, hx31, h⟩ := tw_bindE h
    refine tw_callE (cd := tw_c303) rfl rfl rfl rfl rfl (e_X10_lowest I10 L A6 J tw dr rt sc y8 y9 a3 _ hx31) (by exact Or.inl rfl) ?_
    have h := Option.some.inj h
    subst h
    exact tw_retE (cd := tw_c303) rfl rfl rfl rfl
  · rw [if_neg hc5] at h
    refine tw_br (cd := tw_c303) rfl rfl rfl (by exact if_neg hc5) ?_
    refine tw_blk (cd := tw_c303) rfl 2 (c1 := (16, [some (.ref 44), some (.int a1), some (.int a2), some (.int a3), some (.int (g_X10_why (tw_b c3) (tw_b (g_X10_in a2 (0 : Int32) (6 : Int32))))), none, none, none, none, none, none, none, none], [.int (g_X10_why (tw_b c3) (tw_b (g_X10_in a2 (0 : Int32) (6 : Int32)))), .ref 44], (I1, L, tw_P tw dr rt sc, A, J, 57))) rfl ?_
    obtain ⟨⟨x33, I34⟩, hx35, h⟩ := tw_letE h
    dsimp only at h
    refine tw_callE (cd := tw_c303) rfl rfl rfl rfl rfl (e_X10_no I1 L A J tw dr rt sc (g_X10_why (tw_b c3) (tw_b (g_X10_in a2 (0 : Int32) (6 : Int32)))) _ hx35) (by exact Or.inl rfl) ?_
    refine tw_blk (cd := tw_c303) rfl 1 (c1 := (18, [some (.ref 44), some (.int a1), some (.int a2), some (.int a3), some (.int (g_X10_why (tw_b c3) (tw_b (g_X10_in a2 (0 : Int32) (6 : Int32))))), none, none, none, none, none, none, none, none], [.long ((x33).toInt64)], (I34, L, tw_P tw dr rt sc, A, J, 57))) rfl ?_
    have h := Option.some.inj h
    subst h
    exact tw_retE (cd := tw_c303) rfl rfl rfl rfl
theorem e_X1_runWithBoys (I : Nat → Int32) (L : Nat → Int64) (A : Nat → Nat → Int32) (J : Nat → Nat → Int64) (tw dr : Nat) (rt : Nat) (a1 : Int32) : ∀ r : ((Nat → Int32) × (Nat → Nat → Int32)), g_X1_runWithBoys I A a1 = some r → tw_ME 14 (0, [some (.ref 39), some (.int a1)], [], (I, L, tw_P tw dr rt 2, A, J, 57)) (none, ((r.1), L, tw_P tw dr rt 2, (r.2), J, 57)) := by
  intro r h
  unfold g_X1_runWithBoys at h
  refine tw_blk (cd := tw_c14) rfl 6 (c1 := (6, [some (.ref 39), some (.int a1)], [.int 2, .int a1, .ref 2, .ref 39], (I, L, tw_P tw dr rt 2, A, J, 57))) rfl ?_
  refine tw_callE (cd := tw_c14) rfl rfl rfl rfl rfl (e_X8_fact_2 I L A J tw dr rt 2 a1 (2 : Int32) _ rfl) (by exact Or.inl rfl) ?_
  obtain ⟨A1, hx2, h⟩ := tw_bindE h
  refine tw_callE (cd := tw_c14) rfl rfl rfl rfl rfl (e_X1_watch I L A J tw dr rt (g_X8_fact_2 A a1 (2 : Int32)) _ hx2) (by exact Or.inl rfl) ?_
  refine tw_blk (cd := tw_c14) rfl 7 (c1 := (15, [some (.ref 39), some (.int a1)], [.int 3, .int a1, .ref 2, .int a1, .ref 39], (I, L, tw_P tw dr rt 2, A1, J, 57))) rfl ?_
  refine tw_callE (cd := tw_c14) rfl rfl rfl rfl rfl (e_X8_fact_2 I L A1 J tw dr rt 2 a1 (3 : Int32) _ rfl) (by exact Or.inl rfl) ?_
  refine tw_blk (cd := tw_c14) rfl 4 (c1 := (20, [some (.ref 39), some (.int a1)], [.int 0, .ref 2, .int (g_X8_fact_2 A1 a1 (3 : Int32)), .int a1, .ref 39], (I, L, tw_P tw dr rt 2, A1, J, 57))) rfl ?_
  refine tw_callE (cd := tw_c14) rfl rfl rfl rfl rfl (e_X8_count_2 I L A1 J tw dr rt 2 (0 : Int32) _ rfl) (by exact Or.inl rfl) ?_
  obtain ⟨I3, hx4, h⟩ := tw_bindE h
  refine tw_callE (cd := tw_c14) rfl rfl rfl rfl rfl (e_X1_go I L A1 J tw dr rt a1 (g_X8_fact_2 A1 a1 (3 : Int32)) (g_X8_count_2 A1 (0 : Int32)) _ hx4) (by exact Or.inl rfl) ?_
  have h := Option.some.inj h
  subst h
  exact tw_retE (cd := tw_c14) rfl rfl rfl rfl
theorem e_X9_runsBy (I : Nat → Int32) (L : Nat → Int64) (A : Nat → Nat → Int32) (J : Nat → Nat → Int64) (rt : Nat) (sc : Nat) (a1 : Int32) (a2 : Int32) : ∀ r : (Bool × (Nat → Int32) × (Nat → Nat → Int32)), g_X9_runsBy I A a1 a2 = some r → tw_ME 187 (0, [some (.ref 0), some (.int a1), some (.int a2)], [], (I, L, tw_P 2 14 rt sc, A, J, 57)) (some (.int (tw_b r.1)), ((r.2.1), L, tw_P 2 14 rt (bif r.1 then 2 else sc), (r.2.2), J, 57)) := by
  intro r h
  unfold g_X9_runsBy at h
  refine tw_blk (cd := tw_c187) rfl 2 (c1 := (2, [some (.ref 0), some (.int a1), some (.int a2)], [.int a1, .ref 0], (I, L, tw_P 2 14 rt sc, A, J, 57))) rfl ?_
  refine tw_callE (cd := tw_c187) rfl rfl rfl rfl rfl (e_X9_isQuarrel I L A J rt sc a1 _ rfl) (by exact Or.inl rfl) ?_
  by_cases hc1 : (g_X9_isQuarrel A a1) = true
  · rw [if_pos hc1] at h
    refine tw_br (cd := tw_c187) rfl rfl rfl (by exact if_neg (tw_b_t hc1)) ?_
    refine tw_blk (cd := tw_c187) rfl 1 (c1 := (9, [some (.ref 0), some (.int a1), some (.int a2)], [.int a2], (I, L, tw_P 2 14 rt sc, A, J, 57))) rfl ?_
    by_cases hc2 : a2 < 0
    · rw [if_pos hc2] at h
      refine tw_br (cd := tw_c187) rfl rfl rfl (by exact if_pos hc2) ?_
      refine tw_blk (cd := tw_c187) rfl 2 (c1 := (15, [some (.ref 0), some (.int a1), some (.int a2)], [.int 2, .ref 0], (I, L, tw_P 2 14 rt sc, A, J, 57))) rfl ?_
      obtain ⟨⟨c3, I4⟩, hx5, h⟩ := tw_letE h
      dsimp only at h
      refine tw_callE (cd := tw_c187) rfl rfl rfl rfl rfl (e_X9_deny I L A J 2 14 rt sc (2 : Int32) _ hx5) (by exact Or.inl rfl) ?_
      have h := Option.some.inj h
      subst h
      have hz : c3 = false := (congrArg Prod.fst hx5).symm
      subst hz
      exact tw_retZ (cd := tw_c187) (b := false) rfl rfl rfl rfl
    · rw [if_neg hc2] at h
      refine tw_br (cd := tw_c187) rfl rfl rfl (by exact if_neg hc2) ?_
      refine tw_blk (cd := tw_c187) rfl 2 (c1 := (12, [some (.ref 0), some (.int a1), some (.int a2)], [.int 65537, .int a2], (I, L, tw_P 2 14 rt sc, A, J, 57))) rfl ?_
      by_cases hc6 : a2 < (65537 : Int32)
      · rw [if_pos hc6] at h
        refine tw_br (cd := tw_c187) rfl rfl rfl (by exact if_pos hc6) ?_
        refine tw_blk (cd := tw_c187) rfl 1 (c1 := (18, [some (.ref 0), some (.int a1), some (.int a2)], [.ref 0], (I, L, tw_P 2 14 rt sc, A, J, 57))) rfl ?_
        obtain ⟨⟨I7, A8⟩, hx9, h⟩ := tw_bindE h
        dsimp only at h
        refine tw_callE (cd := tw_c187) rfl rfl rfl rfl rfl (e_X9_showNow I L A J rt sc _ hx9) (by exact Or.inl rfl) ?_
        refine tw_blk (cd := tw_c187) rfl 7 (c1 := (26, [some (.ref 0), some (.int a1), some (.int a2)], [.int a1, .ref 39], ((upd I7 3907 a2), L, tw_P 2 14 rt 2, A8, J, 57))) rfl ?_
        obtain ⟨⟨I10, A11⟩, hx12, h⟩ := tw_bindE h
        dsimp only at h
        refine tw_callE (cd := tw_c187) rfl rfl rfl rfl rfl (e_X1_runWithBoys (upd I7 3907 a2) L A8 J 2 14 rt a1 _ hx12) (by exact Or.inl rfl) ?_
        refine tw_blk (cd := tw_c187) rfl 1 (c1 := (28, [some (.ref 0), some (.int a1), some (.int a2)], [.int 1], (I10, L, tw_P 2 14 rt 2, A11, J, 57))) rfl ?_
        have h := Option.some.inj h
        subst h
        exact tw_retZ (cd := tw_c187) (b := true) rfl rfl rfl rfl
      · rw [if_neg hc6] at h
        refine tw_br (cd := tw_c187) rfl rfl rfl (by exact if_neg hc6) ?_
        refine tw_blk (cd := tw_c187) rfl 2 (c1 := (15, [some (.ref 0), some (.int a1), some (.int a2)], [.int 2, .ref 0], (I, L, tw_P 2 14 rt sc, A, J, 57))) rfl ?_
        obtain ⟨⟨c13, I14⟩, hx15, h⟩ := tw_letE h
        dsimp only at h
        refine tw_callE (cd := tw_c187) rfl rfl rfl rfl rfl (e_X9_deny I L A J 2 14 rt sc (2 : Int32) _ hx15) (by exact Or.inl rfl) ?_
        have h := Option.some.inj h
        subst h
        have hz : c13 = false := (congrArg Prod.fst hx15).symm
        subst hz
        exact tw_retZ (cd := tw_c187) (b := false) rfl rfl rfl rfl
  · rw [if_neg hc1] at h
    refine tw_br (cd := tw_c187) rfl rfl rfl (by exact if_pos (tw_b_f hc1)) ?_
    refine tw_blk (cd := tw_c187) rfl 2 (c1 := (6, [some (.ref 0), some (.int a1), some (.int a2)], [.int 1, .ref 0], (I, L, tw_P 2 14 rt sc, A, J, 57))) rfl ?_
    obtain ⟨⟨c16, I17⟩, hx18, h⟩ := tw_letE h
    dsimp only at h
    refine tw_callE (cd := tw_c187) rfl rfl rfl rfl rfl (e_X9_deny I L A J 2 14 rt sc (1 : Int32) _ hx18) (by exact Or.inl rfl) ?_
    have h := Option.some.inj h
    subst h
    have hz : c16 = false := (congrArg Prod.fst hx18).symm
    subst hz
    exact tw_retZ (cd := tw_c187) (b := false) rfl rfl rfl rfl
theorem e_X9_endsBy (I : Nat → Int32) (L : Nat → Int64) (A : Nat → Nat → Int32) (J : Nat → Nat → Int64) (rt : Nat) (sc : Nat) (a1 : Int32) (a2 : Int32) : ∀ r : (Int32 × (Nat → Int32) × (Nat → Nat → Int32) × Nat), g_X9_endsBy I A sc a1 a2 = some r → tw_ME 159 (0, [some (.ref 0), some (.int a1), some (.int a2)], [], (I, L, tw_P 2 14 rt sc, A, J, 57)) (some (.int r.1), ((r.2.1), L, tw_P 2 14 rt (r.2.2.2), (r.2.2.1), J, 57)) := by
  intro r h
  unfold g_X9_endsBy at h
  refine tw_blk (cd := tw_c159) rfl 3 (c1 := (3, [some (.ref 0), some (.int a1), some (.int a2)], [.int a2, .int a1, .ref 0], (I, L, tw_P 2 14 rt sc, A, J, 57))) rfl ?_
  obtain ⟨⟨c1, I2, A3⟩, hx4, h⟩ := tw_bindE h
  dsimp only at h
  refine tw_callE (cd := tw_c159) rfl rfl rfl rfl rfl (e_X9_runsBy I L A J rt sc a1 a2 _ hx4) (by exact Or.inl rfl) ?_
  by_cases hc5 : c1 = true
  · subst hc5
    rw [if_pos rfl] at h
    refine tw_br (cd := tw_c159) rfl rfl rfl (by exact rfl) ?_
    refine tw_blk (cd := tw_c159) rfl 4 (c1 := (9, [some (.ref 0), some (.int a1), some (.int a2)], [.int (I2 3902), .ref 0], (I2, L, tw_P 2 14 rt 2, A3, J, 57))) rfl ?_
    obtain ⟨⟨x6, I7⟩, hx8, h⟩ := tw_letE h
    dsimp only at h
    refine tw_callE (cd := tw_c159) rfl rfl rfl rfl rfl (e_X9_grant I2 L A3 J 2 14 rt 2 (I2 3902) _ hx8) (by exact Or.inl rfl) ?_
    refine tw_blk (cd := tw_c159) rfl 1 (c1 := (12, [some (.ref 0), some (.int a1), some (.int a2)], [.int x6], (I7, L, tw_P 2 14 rt 2, A3, J, 57))) rfl ?_
    have h := Option.some.inj h
    subst h
    exact tw_retE (cd := tw_c159) rfl rfl rfl rfl
  · have hc5 := Bool.eq_false_iff.mpr hc5
    subst hc5
    rw [if_neg (by decide)] at h
    refine tw_br (cd := tw_c159) rfl rfl rfl (by exact rfl) ?_
    refine tw_blk (cd := tw_c159) rfl 1 (c1 := (12, [some (.ref 0), some (.int a1), some (.int a2)], [.int (-1)], (I2, L, tw_P 2 14 rt sc, A3, J, 57))) rfl ?_
    have h := Option.some.inj h
    subst h
    exact tw_retE (cd := tw_c159) rfl rfl rfl rfl
theorem e_X10_drawWhy (I : Nat → Int32) (L : Nat → Int64) (A : Nat → Nat → Int32) (J : Nat → Nat → Int64) (tw dr : Nat) (rt : Nat) (sc : Nat) (a1 : Int32) (a2 : Int32) (a3 : Int32) : ∀ r : (Int32 × (Nat → Int32) × (Nat → Nat → Int32)), g_X10_drawWhy I A a1 a2 a3 = some r → tw_ME 304 (0, [some (.ref 44), some (.int a1), some (.int a2), some (.int a3), none], [], (I, L, tw_P tw dr rt sc, A, J, 57)) (some (.int r.1), ((r.2.1), L, tw_P tw dr rt sc, (r.2.2), J, 57)) := by
  intro r h
  unfold g_X10_drawWhy at h
  refine tw_blk (cd := tw_c304) rfl 3 (c1 := (3, [some (.ref 44), some (.int a1), some (.int a2), some (.int a3), none], [.int a1, .ref 44, .ref 44], (I, L, tw_P tw dr rt sc, A, J, 57))) rfl ?_
  obtain ⟨c1, hx2, h⟩ := tw_bindE h
  refine tw_callE (cd := tw_c304) rfl rfl rfl rfl rfl (e_X10_isQuarrel I L A J tw dr rt sc a1 _ hx2) (by exact Or.inl rfl) ?_
  refine tw_blk (cd := tw_c304) rfl 3 (c1 := (7, [some (.ref 44), some (.int a1), some (.int a2), some (.int a3), none], [.int 65536, .int 0, .int a2, .int (tw_b c1), .ref 44], (I, L, tw_P tw dr rt sc, A, J, 57))) rfl ?_
  refine tw_callE (cd := tw_c304) rfl rfl rfl rfl rfl (e_X10_in I L A J tw dr rt sc a2 (0 : Int32) (65536 : Int32) _ rfl) (by exact Or.inl rfl) ?_
  obtain ⟨x4, hj5, h⟩ := tw_bindE h
  have K : tw_ME 304 (14, [some (.ref 44), none, some (.int a2), none, none], [.int x4, .int (tw_b c1), .ref 44], (I, L, tw_P tw dr rt sc, A, J, 57)) (some (.int r.1), ((r.2.1), L, tw_P tw dr rt sc, (r.2.2), J, 57)) := by
    refine tw_callE (cd := tw_c304) rfl rfl rfl rfl rfl (e_X10_why I L A J tw dr rt sc (tw_b c1) x4 _ rfl) (by exact Or.inl rfl) ?_
    refine tw_blk (cd := tw_c304) rfl 2 (c1 := (17, [some (.ref 44), none, some (.int a2), none, some (.int (g_X10_why (tw_b c1) x4))], [.int (g_X10_why (tw_b c1) x4)], (I, L, tw_P tw dr rt sc, A, J, 57))) rfl ?_
    by_cases hc7 : (g_X10_why (tw_b c1) x4) = 0
    · rw [if_pos hc7] at h
      refine tw_br (cd := tw_c304) rfl rfl rfl (by exact if_pos hc7) ?_
      refine tw_blk (cd := tw_c304) rfl 1 (c1 := (21, [some (.ref 44), none, some (.int a2), none, some (.int (g_X10_why (tw_b c1) x4))], [.ref 44], (I, L, tw_P tw dr rt sc, A, J, 57))) rfl ?_
      obtain ⟨A8, hx9, h⟩ := tw_bindE h
      refine tw_callE (cd := tw_c304) rfl rfl rfl rfl rfl (e_X10_asNow I L A J tw dr rt sc _ hx9) (by exact Or.inl rfl) ?_
      refine tw_blk (cd := tw_c304) rfl 7 (c1 := (29, [some (.ref 44), none, some (.int a2), none, some (.int (g_X10_why (tw_b c1) x4))], [.int 0], ((upd (upd I 4430 (-1 : Int32)) 4431 a2), L, tw_P tw dr rt sc, A8, J, 57))) rfl ?_
      have h := Option.some.inj h
      subst h
      exact tw_retE (cd := tw_c304) rfl rfl rfl rfl
    · rw [if_neg hc7] at h
      refine tw_br (cd := tw_c304) rfl rfl rfl (by exact if_neg hc7) ?_
      refine tw_blk (cd := tw_c304) rfl 1 (c1 := (19, [some (.ref 44), none, some (.int a2), none, some (.int (g_X10_why (tw_b c1) x4))], [.int (g_X10_why (tw_b c1) x4)], (I, L, tw_P tw dr rt sc, A, J, 57))) rfl ?_
      have h := Option.some.inj h
      subst h
      exact tw_retE (cd := tw_c304) rfl rfl rfl rfl
  by_cases hc3 : (g_X10_in a2 (0 : Int32) (65536 : Int32)) = true
  · rw [if_pos hc3] at hj5
    refine tw_br (cd := tw_c304) rfl rfl rfl (by exact if_neg (tw_b_t hc3)) ?_
    refine tw_blk (cd := tw_c304) rfl 1 (c1 := (10, [some (.ref 44), some (.int a1), some (.int a2), some (.int a3), none], [.int a3, .int (tw_b c1), .ref 44], (I, L, tw_P tw dr rt sc, A, J, 57))) rfl ?_
    by_cases hc6 : a3 = 0
    · rw [if_pos hc6] at hj5
      refine tw_br (cd := tw_c304) rfl rfl rfl (by exact if_pos hc6) ?_
      refine tw_blk (cd := tw_c304) rfl 1 (c1 := (14, [some (.ref 44), some (.int a1), some (.int a2), some (.int a3), none], [.int 0, .int (tw_b c1), .ref 44], (I, L, tw_P tw dr rt sc, A, J, 57))) rfl ?_
      refine tw_forget (ls2 := [some (.ref 44), none, some (.int a2), none, none]) ⟨rfl, rfl, trivial⟩ ?_
      have hj5s := Option.some.inj hj5
      subst hj5s
      exact K
    · rw [if_neg hc6] at hj5
      refine tw_br (cd := tw_c304) rfl rfl rfl (by exact if_neg hc6) ?_
      refine tw_blk (cd := tw_c304) rfl 2 (c1 := (14, [some (.ref 44), some (.int a1), some (.int a2), some (.int a3), none], [.int 1, .int (tw_b c1), .ref 44], (I, L, tw_P tw dr rt sc, A, J, 57))) rfl ?_
      refine tw_forget (ls2 := [some (.ref 44), none, some (.int a2), none, none]) ⟨rfl, rfl, trivial⟩ ?_
      have hj5s := Option.some.inj hj5
      subst hj5s
      exact K
  · rw [if_neg hc3] at hj5
    refine tw_br (cd := tw_c304) rfl rfl rfl (by exact if_pos (tw_b_f hc3)) ?_
    refine tw_blk (cd := tw_c304) rfl 1 (c1 := (14, [some (.ref 44), some (.int a1), some (.int a2), some (.int a3), none], [.int 0, .int (tw_b c1), .ref 44], (I, L, tw_P tw dr rt sc, A, J, 57))) rfl ?_
    refine tw_forget (ls2 := [some (.ref 44), none, some (.int a2), none, none]) ⟨rfl, rfl, trivial⟩ ?_
    have hj5s := Option.some.inj hj5
    subst hj5s
    exact K
theorem e_X10_endsBy (I : Nat → Int32) (L : Nat → Int64) (A : Nat → Nat → Int32) (J : Nat → Nat → Int64) (tw dr : Nat) (rt : Nat) (sc : Nat) (a1 : Int32) (a2 : Int32) : ∀ r : (Int32 × (Nat → Int32) × (Nat → Nat → Int32)), g_X10_endsBy I A a1 a2 = some r → tw_ME 305 (0, [some (.ref 44), some (.int a1), some (.int a2), none], [], (I, L, tw_P tw dr rt sc, A, J, 57)) (some (.int r.1), ((r.2.1), L, tw_P tw dr rt sc, (r.2.2), J, 57)) := by
  intro r h
  unfold g_X10_endsBy at h
  refine tw_blk (cd := tw_c305) rfl 1 (c1 := (1, [some (.ref 44), some (.int a1), some (.int a2), none], [.ref 44], (I, L, tw_P tw dr rt sc, A, J, 57))) rfl ?_
  obtain ⟨I1, hx2, h⟩ := tw_letE h
  refine tw_callE (cd := tw_c305) rfl rfl rfl rfl rfl (e_X10_good I L A J tw dr rt sc _ hx2) (by exact Or.inl rfl) ?_
  refine tw_blk (cd := tw_c305) rfl 4 (c1 := (6, [some (.ref 44), some (.int a1), some (.int a2), none], [.int 1, .int a2, .int a1, .ref 44], (I1, L, tw_P tw dr rt sc, A, J, 57))) rfl ?_
  obtain ⟨⟨x3, I4, A5⟩, hx6, h⟩ := tw_bindE h
  dsimp only at h
  refine tw_callE (cd := tw_c305) rfl rfl rfl rfl rfl (e_X10_drawWhy I1 L A J tw dr rt sc a1 a2 (1 : Int32) _ hx6) (by exact Or.inl rfl) ?_
  refine tw_blk (cd := tw_c305) rfl 2 (c1 := (9, [some (.ref 44), some (.int a1), some (.int a2), some (.int x3)], [.int x3], (I4, L, tw_P tw dr rt sc, A5, J, 57))) rfl ?_
  by_cases hc7 : x3 = 0
  · rw [if_pos hc7] at h
    refine tw_br (cd := tw_c305) rfl rfl rfl (by exact if_pos hc7) ?_
    refine tw_blk (cd := tw_c305) rfl 2 (c1 := (16, [some (.ref 44), some (.int a1), some (.int a2), some (.int x3)], [.int a1, .ref 44], (I4, L, tw_P tw dr rt sc, A5, J, 57))) rfl ?_
    obtain ⟨I8, hx9, h⟩ := tw_bindE h
    refine tw_callE (cd := tw_c305) rfl rfl rfl rfl rfl (e_X10_runWithBoys I4 L A5 J tw dr rt sc a1 _ hx9) (by exact Or.inl rfl) ?_
    refine tw_blk (cd := tw_c305) rfl 2 (c1 := (19, [some (.ref 44), some (.int a1), some (.int a2), some (.int x3)], [.int (I8 4425)], (I8, L, tw_P tw dr rt sc, A5, J, 57))) rfl ?_
    have h := Option.some.inj h
    subst h
    exact tw_retE (cd := tw_c305) rfl rfl rfl rfl
  · rw [if_neg hc7] at h
    refine tw_br (cd := tw_c305) rfl rfl rfl (by exact if_neg hc7) ?_
    refine tw_blk (cd := tw_c305) rfl 2 (c1 := (12, [some (.ref 44), some (.int a1), some (.int a2), some (.int x3)], [.int x3, .ref 44], (I4, L, tw_P tw dr rt sc, A5, J, 57))) rfl ?_
    obtain ⟨⟨x10, I11⟩, hx12, h⟩ := tw_letE h
    dsimp only at h
    refine tw_callE (cd := tw_c305) rfl rfl rfl rfl rfl (e_X10_no I4 L A5 J tw dr rt sc x3 _ hx12) (by exact Or.inl rfl) ?_
    have h := Option.some.inj h
    subst h
    exact tw_retE (cd := tw_c305) rfl rfl rfl rfl
theorem e_X9_endsByAt (I : Nat → Int32) (L : Nat → Int64) (A : Nat → Nat → Int32) (J : Nat → Nat → Int64) (rt : Nat) (sc : Nat) (a1 : Int32) (a2 : Int32) : ∀ r : (Int32 × (Nat → Int32) × (Nat → Nat → Int32) × Nat), g_X9_endsByAt I A sc a1 a2 = some r → tw_ME 160 (0, [some (.ref 0), some (.int a1), some (.int a2)], [], (I, L, tw_P 2 14 rt sc, A, J, 57)) (some (.int r.1), ((r.2.1), L, tw_P 2 14 rt (r.2.2.2), (r.2.2.1), J, 57)) := by
  intro r h
  unfold g_X9_endsByAt at h
  refine tw_blk (cd := tw_c160) rfl 3 (c1 := (3, [some (.ref 0), some (.int a1), some (.int a2)], [.int a2, .int a1, .ref 0], (I, L, tw_P 2 14 rt sc, A, J, 57))) rfl ?_
  obtain ⟨⟨c1, I2, A3⟩, hx4, h⟩ := tw_bindE h
  dsimp only at h
  refine tw_callE (cd := tw_c160) rfl rfl rfl rfl rfl (e_X9_runsBy I L A J rt sc a1 a2 _ hx4) (by exact Or.inl rfl) ?_
  by_cases hc5 : c1 = true
  · subst hc5
    rw [if_pos rfl] at h
    refine tw_br (cd := tw_c160) rfl rfl rfl (by exact rfl) ?_
    refine tw_blk (cd := tw_c160) rfl 4 (c1 := (9, [some (.ref 0), some (.int a1), some (.int a2)], [.int (I2 3903), .ref 0], (I2, L, tw_P 2 14 rt 2, A3, J, 57))) rfl ?_
    obtain ⟨⟨x6, I7⟩, hx8, h⟩ := tw_letE h
    dsimp only at h
    refine tw_callE (cd := tw_c160) rfl rfl rfl rfl rfl (e_X9_grant I2 L A3 J 2 14 rt 2 (I2 3903) _ hx8) (by exact Or.inl rfl) ?_
    refine tw_blk (cd := tw_c160) rfl 1 (c1 := (12, [some (.ref 0), some (.int a1), some (.int a2)], [.int x6], (I7, L, tw_P 2 14 rt 2, A3, J, 57))) rfl ?_
    have h := Option.some.inj h
    subst h
    exact tw_retE (cd := tw_c160) rfl rfl rfl rfl
  · have hc5 := Bool.eq_false_iff.mpr hc5
    subst hc5
    rw [if_neg (by decide)] at h
    refine tw_br (cd := tw_c160) rfl rfl rfl (by exact rfl) ?_
    refine tw_blk (cd := tw_c160) rfl 1 (c1 := (12, [some (.ref 0), some (.int a1), some (.int a2)], [.int (-1)], (I2, L, tw_P 2 14 rt sc, A3, J, 57))) rfl ?_
    have h := Option.some.inj h
    subst h
    exact tw_retE (cd := tw_c160) rfl rfl rfl rfl
theorem e_X10_endsByAt (I : Nat → Int32) (L : Nat → Int64) (A : Nat → Nat → Int32) (J : Nat → Nat → Int64) (tw dr : Nat) (rt : Nat) (sc : Nat) (a1 : Int32) (a2 : Int32) : ∀ r : (Int32 × (Nat → Int32) × (Nat → Nat → Int32)), g_X10_endsByAt I A a1 a2 = some r → tw_ME 306 (0, [some (.ref 44), some (.int a1), some (.int a2), none], [], (I, L, tw_P tw dr rt sc, A, J, 57)) (some (.int r.1), ((r.2.1), L, tw_P tw dr rt sc, (r.2.2), J, 57)) := by
  intro r h
  unfold g_X10_endsByAt at h
  refine tw_blk (cd := tw_c306) rfl 1 (c1 := (1, [some (.ref 44), some (.int a1), some (.int a2), none], [.ref 44], (I, L, tw_P tw dr rt sc, A, J, 57))) rfl ?_
  obtain ⟨I1, hx2, h⟩ := tw_letE h
  refine tw_callE (cd := tw_c306) rfl rfl rfl rfl rfl (e_X10_good I L A J tw dr rt sc _ hx2) (by exact Or.inl rfl) ?_
  refine tw_blk (cd := tw_c306) rfl 4 (c1 := (6, [some (.ref 44), some (.int a1), some (.int a2), none], [.int 1, .int a2, .int a1, .ref 44], (I1, L, tw_P tw dr rt sc, A, J, 57))) rfl ?_
  obtain ⟨⟨x3, I4, A5⟩, hx6, h⟩ := tw_bindE h
  dsimp only at h
  refine tw_callE (cd := tw_c306) rfl rfl rfl rfl rfl (e_X10_drawWhy I1 L A J tw dr rt sc a1 a2 (1 : Int32) _ hx6) (by exact Or.inl rfl) ?_
  refine tw_blk (cd := tw_c306) rfl 2 (c1 := (9, [some (.ref 44), some (.int a1), some (.int a2), some (.int x3)], [.int x3], (I4, L, tw_P tw dr rt sc, A5, J, 57))) rfl ?_
  by_cases hc7 : x3 = 0
  · rw [if_pos hc7] at h
    refine tw_br (cd := tw_c306) rfl rfl rfl (by exact if_pos hc7) ?_
    refine tw_blk (cd := tw_c306) rfl 2 (c1 := (16, [some (.ref 44), some (.int a1), some (.int a2), some (.int x3)], [.int a1, .ref 44], (I4, L, tw_P tw dr rt sc, A5, J, 57))) rfl ?_
    obtain ⟨I8, hx9, h⟩ := tw_bindE h
    refine tw_callE (cd := tw_c306) rfl rfl rfl rfl rfl (e_X10_runWithBoys I4 L A5 J tw dr rt sc a1 _ hx9) (by exact Or.inl rfl) ?_
    refine tw_blk (cd := tw_c306) rfl 2 (c1 := (19, [some (.ref 44), some (.int a1), some (.int a2), some (.int x3)], [.int (I8 4426)], (I8, L, tw_P tw dr rt sc, A5, J, 57))) rfl ?_
    have h := Option.some.inj h
    subst h
    exact tw_retE (cd := tw_c306) rfl rfl rfl rfl
  · rw [if_neg hc7] at h
    refine tw_br (cd := tw_c306) rfl rfl rfl (by exact if_neg hc7) ?_
    refine tw_blk (cd := tw_c306) rfl 2 (c1 := (12, [some (.ref 44), some (.int a1), some (.int a2), some (.int x3)], [.int x3, .ref 44], (I4, L, tw_P tw dr rt sc, A5, J, 57))) rfl ?_
    obtain ⟨⟨x10, I11⟩, hx12, h⟩ := tw_letE h
    dsimp only at h
    refine tw_callE (cd := tw_c306) rfl rfl rfl rfl rfl (e_X10_no I4 L A5 J tw dr rt sc x3 _ hx12) (by exact Or.inl rfl) ?_
    have h := Option.some.inj h
    subst h
    exact tw_retE (cd := tw_c306) rfl rfl rfl rfl
theorem g_X9_wins_L1_ok (I : Nat → Int32) (L : Nat → Int64) (A : Nat → Nat → Int32) (J : Nat → Nat → Int64) (rt : Nat) (sc : Nat) (a1 : Int32) (a2 : Int32) (a3 : Int32) (I15 : Nat → Int32) (A16 : Nat → Nat → Int32) (out : Option Value × tw_S) : ∀ (n : Nat) (v1_4 : Int32) (v1_5 : Int32) (I_1 : Nat → Int32) (A_1 : Nat → Nat → Int32) (ex : (Int32 × (Nat → Int32) × (Nat → Nat → Int32))), g_X9_wins_L1 a1 a3 n v1_4 v1_5 I_1 A_1 = some ex → tw_ME 161 (46, [some (.ref 0), none, none, none, some (.int (ex.1)), none], [], ((ex.2.1), L, tw_P 2 14 rt 2, (ex.2.2), J, 57)) out → tw_ME 161 (32, [some (.ref 0), some (.int a1), none, some (.int a3), some (.int v1_4), some (.int v1_5)], [], (I_1, L, tw_P 2 14 rt 2, A_1, J, 57)) out := by
  intro n
  induction n with
  | zero =>
    intro v1_4 v1_5 I_1 A_1 ex h _
    cases h
  | succ n ih =>
    intro v1_4 v1_5 I_1 A_1 ex h K
    rw [g_X9_wins_L1] at h
    refine tw_blk (cd := tw_c161) rfl 1 (c1 := (33, [some (.ref 0), some (.int a1), none, some (.int a3), some (.int v1_4), some (.int v1_5)], [.int v1_5], (I_1, L, tw_P 2 14 rt 2, A_1, J, 57))) rfl ?_
    refine tw_blk (cd := tw_c161) rfl 1 (c1 := (34, [some (.ref 0), some (.int a1), none, some (.int a3), some (.int v1_4), some (.int v1_5)], [.int a3, .int v1_5], (I_1, L, tw_P 2 14 rt 2, A_1, J, 57))) rfl ?_
    by_cases hc21 : a3 ≤ v1_5
    · rw [if_pos hc21] at h
      refine tw_br (cd := tw_c161) rfl rfl rfl (by exact if_pos hc21) ?_
      refine tw_forget (ls2 := [some (.ref 0), none, none, none, some (.int v1_4), none]) ⟨rfl, rfl, trivial⟩ ?_
      have h := Option.some.inj h
      subst h
      exact K
    · rw [if_neg hc21] at h
      refine tw_br (cd := tw_c161) rfl rfl rfl (by exact if_neg hc21) ?_
      refine tw_blk (cd := tw_c161) rfl 3 (c1 := (38, [some (.ref 0), some (.int a1), none, some (.int a3), some (.int v1_4), some (.int v1_5)], [.int a1, .ref 39], (I_1, L, tw_P 2 14 rt 2, A_1, J, 57))) rfl ?_
      obtain ⟨⟨I22, A23⟩, hx24, h⟩ := tw_bindE h
      dsimp only at h
      refine tw_callE (cd := tw_c161) rfl rfl rfl rfl rfl (e_X1_runWithBoys I_1 L A_1 J 2 14 rt a1 _ hx24) (by exact Or.inl rfl) ?_
      refine tw_blk (cd := tw_c161) rfl 2 (c1 := (41, [some (.ref 0), some (.int a1), none, some (.int a3), some (.int v1_4), some (.int v1_5)], [.ref 39], (I22, L, tw_P 2 14 rt 2, A23, J, 57))) rfl ?_
      refine tw_callE (cd := tw_c161) rfl rfl rfl rfl rfl (e_X1_isWon I22 L A23 J 2 14 rt _ rfl) (by exact Or.inl rfl) ?_
      obtain ⟨x26, hj27, h⟩ := tw_bindE h
      have K : tw_ME 161 (44, [some (.ref 0), some (.int a1), none, some (.int a3), some (.int x26), some (.int v1_5)], [], (I22, L, tw_P 2 14 rt 2, A23, J, 57)) out := by
        refine tw_blk (cd := tw_c161) rfl 2 (c1 := (32, [some (.ref 0), some (.int a1), none, some (.int a3), some (.int x26), some (.int (v1_5 + (1 : Int32)))], [], (I22, L, tw_P 2 14 rt 2, A23, J, 57))) rfl ?_
        exact ih x26 (v1_5 + (1 : Int32)) I22 A23 _ h K
      by_cases hc25 : (g_X1_isWon I22) = true
      · rw [if_pos hc25] at hj27
        refine tw_br (cd := tw_c161) rfl rfl rfl (by exact if_neg (tw_b_t hc25)) ?_
        refine tw_blk (cd := tw_c161) rfl 1 (c1 := (44, [some (.ref 0), some (.int a1), none, some (.int a3), some (.int (v1_4 + (1 : Int32))), some (.int v1_5)], [], (I22, L, tw_P 2 14 rt 2, A23, J, 57))) rfl ?_
        have hj27s := Option.some.inj hj27
        subst hj27s
        exact K
      · rw [if_neg hc25] at hj27
        refine tw_br (cd := tw_c161) rfl rfl rfl (by exact if_pos (tw_b_f hc25)) ?_
        have hj27s := Option.some.inj hj27
        subst hj27s
        exact K
theorem e_X9_wins (I : Nat → Int32) (L : Nat → Int64) (A : Nat → Nat → Int32) (J : Nat → Nat → Int64) (rt : Nat) (sc : Nat) (a1 : Int32) (a2 : Int32) (a3 : Int32) : ∀ r : (Int32 × (Nat → Int32) × (Nat → Nat → Int32) × Nat), g_X9_wins I A sc a1 a2 a3 = some r → tw_ME 161 (0, [some (.ref 0), some (.int a1), some (.int a2), some (.int a3), none, none], [], (I, L, tw_P 2 14 rt sc, A, J, 57)) (some (.int r.1), ((r.2.1), L, tw_P 2 14 rt (r.2.2.2), (r.2.2.1), J, 57)) := by
  intro r h
  unfold g_X9_wins at h
  refine tw_blk (cd := tw_c161) rfl 2 (c1 := (2, [some (.ref 0), some (.int a1), some (.int a2), some (.int a3), none, none], [.int a1, .ref 0], (I, L, tw_P 2 14 rt sc, A, J, 57))) rfl ?_
  refine tw_callE (cd := tw_c161) rfl rfl rfl rfl rfl (e_X9_isQuarrel I L A J rt sc a1 _ rfl) (by exact Or.inl rfl) ?_
  by_cases hc1 : (g_X9_isQuarrel A a1) = true
  · rw [if_pos hc1] at h
    refine tw_br (cd := tw_c161) rfl rfl rfl (by exact if_neg (tw_b_t hc1)) ?_
    refine tw_blk (cd := tw_c161) rfl 1 (c1 := (9, [some (.ref 0), some (.int a1), some (.int a2), some (.int a3), none, none], [.int a2], (I, L, tw_P 2 14 rt sc, A, J, 57))) rfl ?_
    by_cases hc2 : a2 < 0
    · rw [if_pos hc2] at h
      refine tw_br (cd := tw_c161) rfl rfl rfl (by exact if_pos hc2) ?_
      refine tw_blk (cd := tw_c161) rfl 2 (c1 := (20, [some (.ref 0), some (.int a1), some (.int a2), some (.int a3), none, none], [.int 2, .ref 0], (I, L, tw_P 2 14 rt sc, A, J, 57))) rfl ?_
      obtain ⟨⟨x3, I4⟩, hx5, h⟩ := tw_letE h
      dsimp only at h
      refine tw_callE (cd := tw_c161) rfl rfl rfl rfl rfl (e_X9_refuse I L A J 2 14 rt sc (2 : Int32) _ hx5) (by exact Or.inl rfl) ?_
      have h := Option.some.inj h
      subst h
      exact tw_retE (cd := tw_c161) rfl rfl rfl rfl
    · rw [if_neg hc2] at h
      refine tw_br (cd := tw_c161) rfl rfl rfl (by exact if_neg hc2) ?_
      refine tw_blk (cd := tw_c161) rfl 2 (c1 := (12, [some (.ref 0), some (.int a1), some (.int a2), some (.int a3), none, none], [.int 65537, .int a2], (I, L, tw_P 2 14 rt sc, A, J, 57))) rfl ?_
      by_cases hc6 : (65537 : Int32) ≤ a2
      · rw [if_pos hc6] at h
        refine tw_br (cd := tw_c161) rfl rfl rfl (by exact if_pos hc6) ?_
        refine tw_blk (cd := tw_c161) rfl 2 (c1 := (20, [some (.ref 0), some (.int a1), some (.int a2), some (.int a3), none, none], [.int 2, .ref 0], (I, L, tw_P 2 14 rt sc, A, J, 57))) rfl ?_
        obtain ⟨⟨x7, I8⟩, hx9, h⟩ := tw_letE h
        dsimp only at h
        refine tw_callE (cd := tw_c161) rfl rfl rfl rfl rfl (e_X9_refuse I L A J 2 14 rt sc (2 : Int32) _ hx9) (by exact Or.inl rfl) ?_
        have h := Option.some.inj h
        subst h
        exact tw_retE (cd := tw_c161) rfl rfl rfl rfl
      · rw [if_neg hc6] at h
        refine tw_br (cd := tw_c161) rfl rfl rfl (by exact if_neg hc6) ?_
        refine tw_blk (cd := tw_c161) rfl 1 (c1 := (14, [some (.ref 0), some (.int a1), some (.int a2), some (.int a3), none, none], [.int a3], (I, L, tw_P 2 14 rt sc, A, J, 57))) rfl ?_
        by_cases hc10 : a3 < 0
        · rw [if_pos hc10] at h
          refine tw_br (cd := tw_c161) rfl rfl rfl (by exact if_pos hc10) ?_
          refine tw_blk (cd := tw_c161) rfl 2 (c1 := (20, [some (.ref 0), some (.int a1), some (.int a2), some (.int a3), none, none], [.int 2, .ref 0], (I, L, tw_P 2 14 rt sc, A, J, 57))) rfl ?_
          obtain ⟨⟨x11, I12⟩, hx13, h⟩ := tw_letE h
          dsimp only at h
          refine tw_callE (cd := tw_c161) rfl rfl rfl rfl rfl (e_X9_refuse I L A J 2 14 rt sc (2 : Int32) _ hx13) (by exact Or.inl rfl) ?_
          have h := Option.some.inj h
          subst h
          exact tw_retE (cd := tw_c161) rfl rfl rfl rfl
        · rw [if_neg hc10] at h
          refine tw_br (cd := tw_c161) rfl rfl rfl (by exact if_neg hc10) ?_
          refine tw_blk (cd := tw_c161) rfl 2 (c1 := (17, [some (.ref 0), some (.int a1), some (.int a2), some (.int a3), none, none], [.int 30, .int a3], (I, L, tw_P 2 14 rt sc, A, J, 57))) rfl ?_
          by_cases hc14 : a3 ≤ (30 : Int32)
          · rw [if_pos hc14] at h
            refine tw_br (cd := tw_c161) rfl rfl rfl (by exact if_pos hc14) ?_
            refine tw_blk (cd := tw_c161) rfl 1 (c1 := (23, [some (.ref 0), some (.int a1), some (.int a2), some (.int a3), none, none], [.ref 0], (I, L, tw_P 2 14 rt sc, A, J, 57))) rfl ?_
            obtain ⟨⟨I15, A16⟩, hx17, h⟩ := tw_bindE h
            dsimp only at h
            refine tw_callE (cd := tw_c161) rfl rfl rfl rfl rfl (e_X9_showNow I L A J rt sc _ hx17) (by exact Or.inl rfl) ?_
            refine tw_blk (cd := tw_c161) rfl 8 (c1 := (32, [some (.ref 0), some (.int a1), some (.int a2), some (.int a3), some (.int 0), some (.int 0)], [], ((upd I15 3907 a2), L, tw_P 2 14 rt 2, A16, J, 57))) rfl ?_
            obtain ⟨⟨x18, I19, A20⟩, hx31, h⟩ := tw_bindE h
            dsimp only at h
            refine tw_forget (ls2 := [some (.ref 0), some (.int a1), none, some (.int a3), some (.int 0), some (.int 0)]) ⟨rfl, rfl, rfl, rfl, rfl, trivial⟩ ?_
            refine g_X9_wins_L1_ok I L A J rt sc a1 a2 a3 I15 A16 _ 4096 (0 : Int32) (0 : Int32) (upd I15 3907 a2) A16 _ hx31 ?_
            refine tw_blk (cd := tw_c161) rfl 2 (c1 := (48, [some (.ref 0), none, none, none, some (.int x18), none], [.int x18, .ref 0], (I19, L, tw_P 2 14 rt 2, A20, J, 57))) rfl ?_
            obtain ⟨⟨x28, I29⟩, hx30, h⟩ := tw_letE h
            dsimp only at h
            refine tw_callE (cd := tw_c161) rfl rfl rfl rfl rfl (e_X9_grant I19 L A20 J 2 14 rt 2 x18 _ hx30) (by exact Or.inl rfl) ?_
            have h := Option.some.inj h
            subst h
            exact tw_retE (cd := tw_c161) rfl rfl rfl rfl
          · rw [if_neg hc14] at h
            refine tw_br (cd := tw_c161) rfl rfl rfl (by exact if_neg hc14) ?_
            refine tw_blk (cd := tw_c161) rfl 2 (c1 := (20, [some (.ref 0), some (.int a1), some (.int a2), some (.int a3), none, none], [.int 2, .ref 0], (I, L, tw_P 2 14 rt sc, A, J, 57))) rfl ?_
            obtain ⟨⟨x32, I33⟩, hx34, h⟩ := tw_letE h
            dsimp only at h
            refine tw_callE (cd := tw_c161) rfl rfl rfl rfl rfl (e_X9_refuse I L A J 2 14 rt sc (2 : Int32) _ hx34) (by exact Or.inl rfl) ?_
            have h := Option.some.inj h
            subst h
            exact tw_retE (cd := tw_c161) rfl rfl rfl rfl
  · rw [if_neg hc1] at h
    refine tw_br (cd := tw_c161) rfl rfl rfl (by exact if_pos (tw_b_f hc1)) ?_
    refine tw_blk (cd := tw_c161) rfl 2 (c1 := (6, [some (.ref 0), some (.int a1), some (.int a2), some (.int a3), none, none], [.int 1, .ref 0], (I, L, tw_P 2 14 rt sc, A, J, 57))) rfl ?_
    obtain ⟨⟨x35, I36⟩, hx37, h⟩ := tw_letE h
    dsimp only at h
    refine tw_callE (cd := tw_c161) rfl rfl rfl rfl rfl (e_X9_refuse I L A J 2 14 rt sc (1 : Int32) _ hx37) (by exact Or.inl rfl) ?_
    have h := Option.some.inj h
    subst h
    exact tw_retE (cd := tw_c161) rfl rfl rfl rfl
theorem g_X10_wins_L1_ok (I : Nat → Int32) (L : Nat → Int64) (A : Nat → Nat → Int32) (J : Nat → Nat → Int64) (tw : Nat) (dr : Nat) (rt : Nat) (sc : Nat) (a1 : Int32) (a2 : Int32) (a3 : Int32) (I1 : Nat → Int32) (x3 : Int32) (I4 : Nat → Int32) (A5 : Nat → Nat → Int32) (out : Option Value × tw_S) : ∀ (n : Nat) (v1_5 : Int32) (v1_6 : Int32) (I_1 : Nat → Int32) (ex : (Int32 × (Nat → Int32))), g_X10_wins_L1 a1 a3 A5 n v1_5 v1_6 I_1 = some ex → tw_ME 307 (38, [none, none, none, none, none, some (.int (ex.1)), none], [], ((ex.2), L, tw_P tw dr rt sc, A5, J, 57)) out → tw_ME 307 (21, [some (.ref 44), some (.int a1), none, some (.int a3), none, some (.int v1_5), some (.int v1_6)], [], (I_1, L, tw_P tw dr rt sc, A5, J, 57)) out := by
  intro n
  induction n with
  | zero =>
    intro v1_5 v1_6 I_1 ex h _
    cases h
  | succ n ih =>
    intro v1_5 v1_6 I_1 ex h K
    rw [g_X10_wins_L1] at h
    refine tw_blk (cd := tw_c307) rfl 1 (c1 := (22, [some (.ref 44), some (.int a1), none, some (.int a3), none, some (.int v1_5), some (.int v1_6)], [.int v1_6], (I_1, L, tw_P tw dr rt sc, A5, J, 57))) rfl ?_
    refine tw_blk (cd := tw_c307) rfl 1 (c1 := (23, [some (.ref 44), some (.int a1), none, some (.int a3), none, some (.int v1_5), some (.int v1_6)], [.int a3, .int v1_6], (I_1, L, tw_P tw dr rt sc, A5, J, 57))) rfl ?_
    by_cases hc10 : a3 ≤ v1_6
    · rw [if_pos hc10] at h
      refine tw_br (cd := tw_c307) rfl rfl rfl (by exact if_pos hc10) ?_
      refine tw_forget (ls2 := [none, none, none, none, none, some (.int v1_5), none]) ⟨rfl, trivial⟩ ?_
      have h := Option.some.inj h
      subst h
      exact K
    · rw [if_neg hc10] at h
      refine tw_br (cd := tw_c307) rfl rfl rfl (by exact if_neg hc10) ?_
      refine tw_blk (cd := tw_c307) rfl 2 (c1 := (26, [some (.ref 44), some (.int a1), none, some (.int a3), none, some (.int v1_5), some (.int v1_6)], [.int a1, .ref 44], (I_1, L, tw_P tw dr rt sc, A5, J, 57))) rfl ?_
      obtain ⟨I11, hx12, h⟩ := tw_bindE h
      refine tw_callE (cd := tw_c307) rfl rfl rfl rfl rfl (e_X10_runWithBoys I_1 L A5 J tw dr rt sc a1 _ hx12) (by exact Or.inl rfl) ?_
      refine tw_blk (cd := tw_c307) rfl 3 (c1 := (30, [some (.ref 44), some (.int a1), none, some (.int a3), none, some (.int v1_5), some (.int v1_6)], [.int (I11 4425), .int v1_5], (I11, L, tw_P tw dr rt sc, A5, J, 57))) rfl ?_
      obtain ⟨x14, hj15, h⟩ := tw_bindE h
      have K : tw_ME 307 (34, [some (.ref 44), some (.int a1), none, some (.int a3), none, none, some (.int v1_6)], [.int x14, .int v1_5], (I11, L, tw_P tw dr rt sc, A5, J, 57)) out := by
        refine tw_blk (cd := tw_c307) rfl 4 (c1 := (21, [some (.ref 44), some (.int a1), none, some (.int a3), none, some (.int (v1_5 + x14)), some (.int (v1_6 + (1 : Int32)))], [], (I11, L, tw_P tw dr rt sc, A5, J, 57))) rfl ?_
        exact ih (v1_5 + x14) (v1_6 + (1 : Int32)) I11 _ h K
      by_cases hc13 : (I11 4425) ≤ 0
      · rw [if_pos hc13] at hj15
        refine tw_br (cd := tw_c307) rfl rfl rfl (by exact if_pos hc13) ?_
        refine tw_blk (cd := tw_c307) rfl 1 (c1 := (34, [some (.ref 44), some (.int a1), none, some (.int a3), none, some (.int v1_5), some (.int v1_6)], [.int 0, .int v1_5], (I11, L, tw_P tw dr rt sc, A5, J, 57))) rfl ?_
        refine tw_forget (ls2 := [some (.ref 44), some (.int a1), none, some (.int a3), none, none, some (.int v1_6)]) ⟨rfl, rfl, rfl, rfl, trivial⟩ ?_
        have hj15s := Option.some.inj hj15
        subst hj15s
        exact K
      · rw [if_neg hc13] at hj15
        refine tw_br (cd := tw_c307) rfl rfl rfl (by exact if_neg hc13) ?_
        refine tw_blk (cd := tw_c307) rfl 2 (c1 := (34, [some (.ref 44), some (.int a1), none, some (.int a3), none, some (.int v1_5), some (.int v1_6)], [.int 1, .int v1_5], (I11, L, tw_P tw dr rt sc, A5, J, 57))) rfl ?_
        refine tw_forget (ls2 := [some (.ref 44), some (.int a1), none, some (.int a3), none, none, some (.int v1_6)]) ⟨rfl, rfl, rfl, rfl, trivial⟩ ?_
        have hj15s := Option.some.inj hj15
        subst hj15s
        exact K
theorem e_X10_wins (I : Nat → Int32) (L : Nat → Int64) (A : Nat → Nat → Int32) (J : Nat → Nat → Int64) (tw dr : Nat) (rt : Nat) (sc : Nat) (a1 : Int32) (a2 : Int32) (a3 : Int32) : ∀ r : (Int32 × (Nat → Int32) × (Nat → Nat → Int32)), g_X10_wins I A a1 a2 a3 = some r → tw_ME 307 (0, [some (.ref 44), some (.int a1), some (.int a2), some (.int a3), none, none, none], [], (I, L, tw_P tw dr rt sc, A, J, 57)) (some (.int r.1), ((r.2.1), L, tw_P tw dr rt sc, (r.2.2), J, 57)) := by
  intro r h
  unfold g_X10_wins at h
  refine tw_blk (cd := tw_c307) rfl 1 (c1 := (1, [some (.ref 44), some (.int a1), some (.int a2), some (.int a3), none, none, none], [.ref 44], (I, L, tw_P tw dr rt sc, A, J, 57))) rfl ?_
  obtain ⟨I1, hx2, h⟩ := tw_letE h
  refine tw_callE (cd := tw_c307) rfl rfl rfl rfl rfl (e_X10_good I L A J tw dr rt sc _ hx2) (by exact Or.inl rfl) ?_
  refine tw_blk (cd := tw_c307) rfl 6 (c1 := (8, [some (.ref 44), some (.int a1), some (.int a2), some (.int a3), none, none, none], [.int 30, .int 0, .int a3, .int a2, .int a1, .ref 44], (I1, L, tw_P tw dr rt sc, A, J, 57))) rfl ?_
  refine tw_callE (cd := tw_c307) rfl rfl rfl rfl rfl (e_X10_in I1 L A J tw dr rt sc a3 (0 : Int32) (30 : Int32) _ rfl) (by exact Or.inl rfl) ?_
  obtain ⟨⟨x3, I4, A5⟩, hx6, h⟩ := tw_bindE h
  dsimp only at h
  refine tw_callE (cd := tw_c307) rfl rfl rfl rfl rfl (e_X10_drawWhy I1 L A J tw dr rt sc a1 a2 (tw_b (g_X10_in a3 (0 : Int32) (30 : Int32))) _ hx6) (by exact Or.inl rfl) ?_
  refine tw_blk (cd := tw_c307) rfl 2 (c1 := (12, [some (.ref 44), some (.int a1), some (.int a2), some (.int a3), some (.int x3), none, none], [.int x3], (I4, L, tw_P tw dr rt sc, A5, J, 57))) rfl ?_
  by_cases hc7 : x3 = 0
  · rw [if_pos hc7] at h
    refine tw_br (cd := tw_c307) rfl rfl rfl (by exact if_pos hc7) ?_
    refine tw_blk (cd := tw_c307) rfl 4 (c1 := (21, [some (.ref 44), some (.int a1), some (.int a2), some (.int a3), some (.int x3), some (.int 0), some (.int 0)], [], (I4, L, tw_P tw dr rt sc, A5, J, 57))) rfl ?_
    obtain ⟨⟨x8, I9⟩, hx16, h⟩ := tw_bindE h
    dsimp only at h
    refine tw_forget (ls2 := [some (.ref 44), some (.int a1), none, some (.int a3), none, some (.int 0), some (.int 0)]) ⟨rfl, rfl, rfl, rfl, rfl, trivial⟩ ?_
    refine g_X10_wins_L1_ok I L A J tw dr rt sc a1 a2 a3 I1 x3 I4 A5 _ 4096 (0 : Int32) (0 : Int32) I4 _ hx16 ?_
    refine tw_blk (cd := tw_c307) rfl 1 (c1 := (39, [none, none, none, none, none, some (.int x8), none], [.int x8], (I9, L, tw_P tw dr rt sc, A5, J, 57))) rfl ?_
    have h := Option.some.inj h
    subst h
    exact tw_retE (cd := tw_c307) rfl rfl rfl rfl
  · rw [if_neg hc7] at h
    refine tw_br (cd := tw_c307) rfl rfl rfl (by exact if_neg hc7) ?_
    refine tw_blk (cd := tw_c307) rfl 2 (c1 := (15, [some (.ref 44), some (.int a1), some (.int a2), some (.int a3), some (.int x3), none, none], [.int x3, .ref 44], (I4, L, tw_P tw dr rt sc, A5, J, 57))) rfl ?_
    obtain ⟨⟨x17, I18⟩, hx19, h⟩ := tw_letE h
    dsimp only at h
    refine tw_callE (cd := tw_c307) rfl rfl rfl rfl rfl (e_X10_no I4 L A5 J tw dr rt sc x3 _ hx19) (by exact Or.inl rfl) ?_
    have h := Option.some.inj h
    subst h
    exact tw_retE (cd := tw_c307) rfl rfl rfl rfl
