/-! the machine does what the functions say -/
set_option maxRecDepth 16000
theorem g_X9_swings_L1_ok (I : Nat → Int32) (L : Nat → Int64) (A : Nat → Nat → Int32) (J : Nat → Nat → Int64) (rt : Nat) (sc : Nat) (a1 : Int32) (a2 : Int32) (a3 : Int32) (a4 : Int32) (I4 : Nat → Int32) (A5 : Nat → Nat → Int32) (x7 : Int32) (x10 : Int32) (out : Option Value × tw_S) : ∀ (n : Nat) (v1_8 : Int32) (v1_9 : Int32) (ex : Int32), g_X9_swings_L1 a1 A5 x7 x10 n v1_8 v1_9 = some ex → tw_ME 150 (81, [some (.ref 0), none, none, none, some (.int a4), none, some (.int (x7 &&& (((1 : Int32) <<< (a1 &&& 31)) ^^^ (-1 : Int32)))), none, some (.int ex), none, none], [], (I4, L, tw_P 2 14 rt 2, A5, J, 57)) out → tw_ME 150 (56, [some (.ref 0), none, none, none, some (.int a4), none, some (.int (x7 &&& (((1 : Int32) <<< (a1 &&& 31)) ^^^ (-1 : Int32)))), some (.int x10), some (.int v1_8), some (.int v1_9), none], [], (I4, L, tw_P 2 14 rt 2, A5, J, 57)) out := by
  intro n
  induction n with
  | zero =>
    intro v1_8 v1_9 ex h _
    cases h
  | succ n ih =>
    intro v1_8 v1_9 ex h K
    rw [g_X9_swings_L1] at h
    refine tw_blk (cd := tw_c150) rfl 1 (c1 := (57, [some (.ref 0), none, none, none, some (.int a4), none, some (.int (x7 &&& (((1 : Int32) <<< (a1 &&& 31)) ^^^ (-1 : Int32)))), some (.int x10), some (.int v1_8), some (.int v1_9), none], [.int v1_9], (I4, L, tw_P 2 14 rt 2, A5, J, 57))) rfl ?_
    refine tw_blk (cd := tw_c150) rfl 1 (c1 := (58, [some (.ref 0), none, none, none, some (.int a4), none, some (.int (x7 &&& (((1 : Int32) <<< (a1 &&& 31)) ^^^ (-1 : Int32)))), some (.int x10), some (.int v1_8), some (.int v1_9), none], [.int (x7 &&& (((1 : Int32) <<< (a1 &&& 31)) ^^^ (-1 : Int32))), .int v1_9], (I4, L, tw_P 2 14 rt 2, A5, J, 57))) rfl ?_
    by_cases hc15 : (x7 &&& (((1 : Int32) <<< (a1 &&& 31)) ^^^ (-1 : Int32))) < v1_9
    · rw [if_pos hc15] at h
      refine tw_br (cd := tw_c150) rfl rfl rfl (by exact if_pos hc15) ?_
      refine tw_forget (ls2 := [some (.ref 0), none, none, none, some (.int a4), none, some (.int (x7 &&& (((1 : Int32) <<< (a1 &&& 31)) ^^^ (-1 : Int32)))), none, some (.int v1_8), none, none]) ⟨rfl, rfl, rfl, rfl, trivial⟩ ?_
      have h := Option.some.inj h
      subst h
      exact K
    · rw [if_neg hc15] at h
      refine tw_br (cd := tw_c150) rfl rfl rfl (by exact if_neg hc15) ?_
      refine tw_blk (cd := tw_c150) rfl 3 (c1 := (62, [some (.ref 0), none, none, none, some (.int a4), none, some (.int (x7 &&& (((1 : Int32) <<< (a1 &&& 31)) ^^^ (-1 : Int32)))), some (.int x10), some (.int v1_8), some (.int v1_9), none], [.int v1_9, .ref 36], (I4, L, tw_P 2 14 rt 2, A5, J, 57))) rfl ?_
      obtain ⟨x16, hx17, h⟩ := tw_bindE h
      refine tw_callE (cd := tw_c150) rfl rfl rfl rfl rfl (e_X6_eyesOf I4 L A5 J 2 14 rt v1_9 _ hx17) (by exact Or.inl rfl) ?_
      refine tw_blk (cd := tw_c150) rfl 6 (c1 := (69, [some (.ref 0), none, none, none, some (.int a4), none, some (.int (x7 &&& (((1 : Int32) <<< (a1 &&& 31)) ^^^ (-1 : Int32)))), some (.int x10), some (.int v1_8), some (.int v1_9), some (.int x16)], [.int (v1_9 &&& ((x7 &&& (((1 : Int32) <<< (a1 &&& 31)) ^^^ (-1 : Int32))) ^^^ (-1 : Int32)))], (I4, L, tw_P 2 14 rt 2, A5, J, 57))) rfl ?_
      obtain ⟨x19, hj20, h⟩ := tw_bindE h
      have K : tw_ME 150 (79, [some (.ref 0), none, none, none, some (.int a4), none, some (.int (x7 &&& (((1 : Int32) <<< (a1 &&& 31)) ^^^ (-1 : Int32)))), some (.int x10), some (.int x19), some (.int v1_9), none], [], (I4, L, tw_P 2 14 rt 2, A5, J, 57)) out := by
        refine tw_blk (cd := tw_c150) rfl 2 (c1 := (56, [some (.ref 0), none, none, none, some (.int a4), none, some (.int (x7 &&& (((1 : Int32) <<< (a1 &&& 31)) ^^^ (-1 : Int32)))), some (.int x10), some (.int x19), some (.int (v1_9 + (1 : Int32))), none], [], (I4, L, tw_P 2 14 rt 2, A5, J, 57))) rfl ?_
        exact ih x19 (v1_9 + (1 : Int32)) _ h K
      by_cases hc18 : (v1_9 &&& ((x7 &&& (((1 : Int32) <<< (a1 &&& 31)) ^^^ (-1 : Int32))) ^^^ (-1 : Int32))) = 0
      · rw [if_pos hc18] at hj20
        refine tw_br (cd := tw_c150) rfl rfl rfl (by exact if_pos hc18) ?_
        refine tw_blk (cd := tw_c150) rfl 2 (c1 := (72, [some (.ref 0), none, none, none, some (.int a4), none, some (.int (x7 &&& (((1 : Int32) <<< (a1 &&& 31)) ^^^ (-1 : Int32)))), some (.int x10), some (.int v1_8), some (.int v1_9), some (.int x16)], [.int 6, .int x16], (I4, L, tw_P 2 14 rt 2, A5, J, 57))) rfl ?_
        by_cases hc21 : (6 : Int32) ≤ x16
        · rw [if_pos hc21] at hj20
          refine tw_br (cd := tw_c150) rfl rfl rfl (by exact if_pos hc21) ?_
          refine tw_forget (ls2 := [some (.ref 0), none, none, none, some (.int a4), none, some (.int (x7 &&& (((1 : Int32) <<< (a1 &&& 31)) ^^^ (-1 : Int32)))), some (.int x10), some (.int v1_8), some (.int v1_9), none]) ⟨rfl, rfl, rfl, rfl, rfl, rfl, trivial⟩ ?_
          have hj20s := Option.some.inj hj20
          subst hj20s
          exact K
        · rw [if_neg hc21] at hj20
          refine tw_br (cd := tw_c150) rfl rfl rfl (by exact if_neg hc21) ?_
          refine tw_blk (cd := tw_c150) rfl 4 (c1 := (77, [some (.ref 0), none, none, none, some (.int a4), none, some (.int (x7 &&& (((1 : Int32) <<< (a1 &&& 31)) ^^^ (-1 : Int32)))), some (.int x10), some (.int v1_8), some (.int v1_9), some (.int x16)], [.int 6, .int (x16 + x10)], (I4, L, tw_P 2 14 rt 2, A5, J, 57))) rfl ?_
          by_cases hc22 : (x16 + x10) < (6 : Int32)
          · rw [if_pos hc22] at hj20
            refine tw_br (cd := tw_c150) rfl rfl rfl (by exact if_pos hc22) ?_
            refine tw_forget (ls2 := [some (.ref 0), none, none, none, some (.int a4), none, some (.int (x7 &&& (((1 : Int32) <<< (a1 &&& 31)) ^^^ (-1 : Int32)))), some (.int x10), some (.int v1_8), some (.int v1_9), none]) ⟨rfl, rfl, rfl, rfl, rfl, rfl, trivial⟩ ?_
            have hj20s := Option.some.inj hj20
            subst hj20s
            exact K
          · rw [if_neg hc22] at hj20
            refine tw_br (cd := tw_c150) rfl rfl rfl (by exact if_neg hc22) ?_
            refine tw_blk (cd := tw_c150) rfl 1 (c1 := (79, [some (.ref 0), none, none, none, some (.int a4), none, some (.int (x7 &&& (((1 : Int32) <<< (a1 &&& 31)) ^^^ (-1 : Int32)))), some (.int x10), some (.int (v1_8 + (1 : Int32))), some (.int v1_9), some (.int x16)], [], (I4, L, tw_P 2 14 rt 2, A5, J, 57))) rfl ?_
            refine tw_forget (ls2 := [some (.ref 0), none, none, none, some (.int a4), none, some (.int (x7 &&& (((1 : Int32) <<< (a1 &&& 31)) ^^^ (-1 : Int32)))), some (.int x10), some (.int (v1_8 + (1 : Int32))), some (.int v1_9), none]) ⟨rfl, rfl, rfl, rfl, rfl, rfl, trivial⟩ ?_
            have hj20s := Option.some.inj hj20
            subst hj20s
            exact K
      · rw [if_neg hc18] at hj20
        refine tw_br (cd := tw_c150) rfl rfl rfl (by exact if_neg hc18) ?_
        refine tw_forget (ls2 := [some (.ref 0), none, none, none, some (.int a4), none, some (.int (x7 &&& (((1 : Int32) <<< (a1 &&& 31)) ^^^ (-1 : Int32)))), some (.int x10), some (.int v1_8), some (.int v1_9), none]) ⟨rfl, rfl, rfl, rfl, rfl, rfl, trivial⟩ ?_
        have hj20s := Option.some.inj hj20
        subst hj20s
        exact K
theorem e_X9_swings (I : Nat → Int32) (L : Nat → Int64) (A : Nat → Nat → Int32) (J : Nat → Nat → Int64) (rt : Nat) (sc : Nat) (a1 : Int32) (a2 : Int32) (a3 : Int32) (a4 : Int32) : ∀ r : (Int64 × (Nat → Int32) × (Nat → Nat → Int32) × Nat), g_X9_swings I A sc a1 a2 a3 a4 = some r → tw_ME 150 (0, [some (.ref 0), some (.int a1), some (.int a2), some (.int a3), some (.int a4), none, none, none, none, none, none], [], (I, L, tw_P 2 14 rt sc, A, J, 57)) (some (.long r.1), ((r.2.1), L, tw_P 2 14 rt (r.2.2.2), (r.2.2.1), J, 57)) := by
  intro r h
  unfold g_X9_swings at h
  refine tw_blk (cd := tw_c150) rfl 2 (c1 := (2, [some (.ref 0), some (.int a1), some (.int a2), some (.int a3), some (.int a4), none, none, none, none, none, none], [.int a1, .ref 0], (I, L, tw_P 2 14 rt sc, A, J, 57))) rfl ?_
  refine tw_callE (cd := tw_c150) rfl rfl rfl rfl rfl (e_X9_isPerson I L A J rt sc a1 _ rfl) (by exact Or.inl rfl) ?_
  by_cases hc1 : (g_X9_isPerson A a1) = true
  · rw [if_pos hc1] at h
    refine tw_br (cd := tw_c150) rfl rfl rfl (by exact if_neg (tw_b_t hc1)) ?_
    refine tw_blk (cd := tw_c150) rfl 2 (c1 := (6, [some (.ref 0), some (.int a1), some (.int a2), some (.int a3), some (.int a4), none, none, none, none, none, none], [.int a2, .ref 0], (I, L, tw_P 2 14 rt sc, A, J, 57))) rfl ?_
    refine tw_callE (cd := tw_c150) rfl rfl rfl rfl rfl (e_X9_isPlace I L A J rt sc a2 _ rfl) (by exact Or.inl rfl) ?_
    by_cases hc2 : (g_X9_isPlace A a2) = true
    · rw [if_pos hc2] at h
      refine tw_br (cd := tw_c150) rfl rfl rfl (by exact if_neg (tw_b_t hc2)) ?_
      refine tw_blk (cd := tw_c150) rfl 1 (c1 := (14, [some (.ref 0), some (.int a1), some (.int a2), some (.int a3), some (.int a4), none, none, none, none, none, none], [.int a3], (I, L, tw_P 2 14 rt sc, A, J, 57))) rfl ?_
      refine tw_callE (cd := tw_c150) rfl rfl rfl rfl rfl (e_X9_isMinute I L A J 2 14 rt sc a3 _ rfl) (by exact Or.inl rfl) ?_
      by_cases hc3 : (g_X9_isMinute a3) = true
      · rw [if_pos hc3] at h
        refine tw_br (cd := tw_c150) rfl rfl rfl (by exact if_neg (tw_b_t hc3)) ?_
        refine tw_blk (cd := tw_c150) rfl 1 (c1 := (22, [some (.ref 0), some (.int a1), some (.int a2), some (.int a3), some (.int a4), none, none, none, none, none, none], [.ref 0], (I, L, tw_P 2 14 rt sc, A, J, 57))) rfl ?_
        obtain ⟨⟨I4, A5⟩, hx6, h⟩ := tw_bindE h
        dsimp only at h
        refine tw_callE (cd := tw_c150) rfl rfl rfl rfl rfl (e_X9_showNow I L A J rt sc _ hx6) (by exact Or.inl rfl) ?_
        refine tw_blk (cd := tw_c150) rfl 4 (c1 := (27, [some (.ref 0), some (.int a1), some (.int a2), some (.int a3), some (.int a4), none, none, none, none, none, none], [.int a3, .int a2, .ref 36], (I4, L, tw_P 2 14 rt 2, A5, J, 57))) rfl ?_
        obtain ⟨x7, hx8, h⟩ := tw_bindE h
        refine tw_callE (cd := tw_c150) rfl rfl rfl rfl rfl (e_X6_seers I4 L A5 J 2 14 rt a2 a3 _ hx8) (by exact Or.inl rfl) ?_
        refine tw_blk (cd := tw_c150) rfl 14 (c1 := (42, [some (.ref 0), some (.int a1), some (.int a2), some (.int a3), some (.int a4), some (.int x7), some (.int (x7 &&& (((1 : Int32) <<< (a1 &&& 31)) ^^^ (-1 : Int32)))), none, none, none, none], [.int ((x7 >>> (a1 &&& 31)) &&& (1 : Int32))], (I4, L, tw_P 2 14 rt 2, A5, J, 57))) rfl ?_
        obtain ⟨x10, hj11, h⟩ := tw_bindE h
        have K : tw_ME 150 (51, [some (.ref 0), none, none, none, some (.int a4), none, some (.int (x7 &&& (((1 : Int32) <<< (a1 &&& 31)) ^^^ (-1 : Int32)))), none, none, none, none], [.int x10], (I4, L, tw_P 2 14 rt 2, A5, J, 57)) (some (.long r.1), ((r.2.1), L, tw_P 2 14 rt (r.2.2.2), (r.2.2.1), J, 57)) := by
          refine tw_blk (cd := tw_c150) rfl 5 (c1 := (56, [some (.ref 0), none, none, none, some (.int a4), none, some (.int (x7 &&& (((1 : Int32) <<< (a1 &&& 31)) ^^^ (-1 : Int32)))), some (.int x10), some (.int 0), some (.int 0), none], [], (I4, L, tw_P 2 14 rt 2, A5, J, 57))) rfl ?_
          obtain ⟨x14, hx25, h⟩ := tw_bindE h
          refine g_X9_swings_L1_ok I L A J rt sc a1 a2 a3 a4 I4 A5 x7 x10 _ 4096 (0 : Int32) (0 : Int32) _ hx25 ?_
          refine tw_blk (cd := tw_c150) rfl 7 (c1 := (88, [some (.ref 0), none, none, none, some (.int a4), none, some (.int (x7 &&& (((1 : Int32) <<< (a1 &&& 31)) ^^^ (-1 : Int32)))), none, some (.int x14), none, none], [.int (x7 &&& (((1 : Int32) <<< (a1 &&& 31)) ^^^ (-1 : Int32))), .long 1, .long ((x14).toInt64)], ((upd I4 12 (0 : Int32)), L, tw_P 2 14 rt 2, A5, J, 57))) rfl ?_
          refine tw_callE (cd := tw_c150) rfl rfl rfl rfl rfl (e_J6_bitCount_0f7a4 (upd I4 12 (0 : Int32)) L A5 J 2 14 rt 2 (x7 &&& (((1 : Int32) <<< (a1 &&& 31)) ^^^ (-1 : Int32))) _ rfl) (by exact Or.inl rfl) ?_
          refine tw_blk (cd := tw_c150) rfl 2 (c1 := (91, [some (.ref 0), none, none, none, some (.int a4), none, some (.int (x7 &&& (((1 : Int32) <<< (a1 &&& 31)) ^^^ (-1 : Int32)))), none, some (.int x14), none, none], [.int a4, .long ((1 : Int64) <<< ((g_J6_bitCount_0f7a4 (x7 &&& (((1 : Int32) <<< (a1 &&& 31)) ^^^ (-1 : Int32)))).toInt64 &&& 63)), .long ((x14).toInt64)], ((upd I4 12 (0 : Int32)), L, tw_P 2 14 rt 2, A5, J, 57))) rfl ?_
          obtain ⟨y23, hx24, h⟩ := tw_bindE h
          refine tw_callE (cd := tw_c150) rfl rfl rfl rfl rfl (e_X9_inLowestTerms (upd I4 12 (0 : Int32)) L A5 J 2 14 rt 2 ((x14).toInt64) ((1 : Int64) <<< ((g_J6_bitCount_0f7a4 (x7 &&& (((1 : Int32) <<< (a1 &&& 31)) ^^^ (-1 : Int32)))).toInt64 &&& 63)) a4 _ hx24) (by exact Or.inl rfl) ?_
          have h := Option.some.inj h
          subst h
          exact tw_retE (cd := tw_c150) rfl rfl rfl rfl
        by_cases hc9 : ((x7 >>> (a1 &&& 31)) &&& (1 : Int32)) = 0
        · rw [if_pos hc9] at hj11
          refine tw_br (cd := tw_c150) rfl rfl rfl (by exact if_pos hc9) ?_
          refine tw_blk (cd := tw_c150) rfl 1 (c1 := (51, [some (.ref 0), some (.int a1), some (.int a2), some (.int a3), some (.int a4), some (.int x7), some (.int (x7 &&& (((1 : Int32) <<< (a1 &&& 31)) ^^^ (-1 : Int32)))), none, none, none, none], [.int 0], (I4, L, tw_P 2 14 rt 2, A5, J, 57))) rfl ?_
          refine tw_forget (ls2 := [some (.ref 0), none, none, none, some (.int a4), none, some (.int (x7 &&& (((1 : Int32) <<< (a1 &&& 31)) ^^^ (-1 : Int32)))), none, none, none, none]) ⟨rfl, rfl, rfl, trivial⟩ ?_
          have hj11s := Option.some.inj hj11
          subst hj11s
          exact K
        · rw [if_neg hc9] at hj11
          refine tw_br (cd := tw_c150) rfl rfl rfl (by exact if_neg hc9) ?_
          refine tw_blk (cd := tw_c150) rfl 5 (c1 := (48, [some (.ref 0), some (.int a1), some (.int a2), some (.int a3), some (.int a4), some (.int x7), some (.int (x7 &&& (((1 : Int32) <<< (a1 &&& 31)) ^^^ (-1 : Int32)))), none, none, none, none], [.int ((1 : Int32) <<< (a1 &&& 31)), .ref 36], (I4, L, tw_P 2 14 rt 2, A5, J, 57))) rfl ?_
          obtain ⟨x12, hx13, hj11⟩ := tw_bindE hj11
          refine tw_callE (cd := tw_c150) rfl rfl rfl rfl rfl (e_X6_eyesOf I4 L A5 J 2 14 rt ((1 : Int32) <<< (a1 &&& 31)) _ hx13) (by exact Or.inl rfl) ?_
          refine tw_blk (cd := tw_c150) rfl 1 (c1 := (51, [some (.ref 0), some (.int a1), some (.int a2), some (.int a3), some (.int a4), some (.int x7), some (.int (x7 &&& (((1 : Int32) <<< (a1 &&& 31)) ^^^ (-1 : Int32)))), none, none, none, none], [.int x12], (I4, L, tw_P 2 14 rt 2, A5, J, 57))) rfl ?_
          refine tw_forget (ls2 := [some (.ref 0), none, none, none, some (.int a4), none, some (.int (x7 &&& (((1 : Int32) <<< (a1 &&& 31)) ^^^ (-1 : Int32)))), none, none, none, none]) ⟨rfl, rfl, rfl, trivial⟩ ?_
          have hj11s := Option.some.inj hj11
          subst hj11s
          exact K
      · rw [if_neg hc3] at h
        refine tw_br (cd := tw_c150) rfl rfl rfl (by exact if_pos (tw_b_f hc3)) ?_
        refine tw_blk (cd := tw_c150) rfl 2 (c1 := (18, [some (.ref 0), some (.int a1), some (.int a2), some (.int a3), some (.int a4), none, none, none, none, none, none], [.int 2, .ref 0], (I, L, tw_P 2 14 rt sc, A, J, 57))) rfl ?_
        obtain ⟨⟨x26, I27⟩, hx28, h⟩ := tw_letE h
        dsimp only at h
        refine tw_callE (cd := tw_c150) rfl rfl rfl rfl rfl (e_X9_refuse I L A J 2 14 rt sc (2 : Int32) _ hx28) (by exact Or.inl rfl) ?_
        refine tw_blk (cd := tw_c150) rfl 1 (c1 := (20, [some (.ref 0), some (.int a1), some (.int a2), some (.int a3), some (.int a4), none, none, none, none, none, none], [.long ((x26).toInt64)], (I27, L, tw_P 2 14 rt sc, A, J, 57))) rfl ?_
        have h := Option.some.inj h
        subst h
        exact tw_retE (cd := tw_c150) rfl rfl rfl rfl
    · rw [if_neg hc2] at h
      refine tw_br (cd := tw_c150) rfl rfl rfl (by exact if_pos (tw_b_f hc2)) ?_
      refine tw_blk (cd := tw_c150) rfl 2 (c1 := (10, [some (.ref 0), some (.int a1), some (.int a2), some (.int a3), some (.int a4), none, none, none, none, none, none], [.int 1, .ref 0], (I, L, tw_P 2 14 rt sc, A, J, 57))) rfl ?_
      obtain ⟨⟨x29, I30⟩, hx31, h⟩ := tw_letE h
      dsimp only at h
      refine tw_callE (cd := tw_c150) rfl rfl rfl rfl rfl (e_X9_refuse I L A J 2 14 rt sc (1 : Int32) _ hx31) (by exact Or.inl rfl) ?_
      refine tw_blk (cd := tw_c150) rfl 1 (c1 := (12, [some (.ref 0), some (.int a1), some (.int a2), some (.int a3), some (.int a4), none, none, none, none, none, none], [.long ((x29).toInt64)], (I30, L, tw_P 2 14 rt sc, A, J, 57))) rfl ?_
      have h := Option.some.inj h
      subst h
      exact tw_retE (cd := tw_c150) rfl rfl rfl rfl
  · rw [if_neg hc1] at h
    refine tw_br (cd := tw_c150) rfl rfl rfl (by exact if_pos (tw_b_f hc1)) ?_
    refine tw_blk (cd := tw_c150) rfl 2 (c1 := (10, [some (.ref 0), some (.int a1), some (.int a2), some (.int a3), some (.int a4), none, none, none, none, none, none], [.int 1, .ref 0], (I, L, tw_P 2 14 rt sc, A, J, 57))) rfl ?_
    obtain ⟨⟨x32, I33⟩, hx34, h⟩ := tw_letE h
    dsimp only at h
    refine tw_callE (cd := tw_c150) rfl rfl rfl rfl rfl (e_X9_refuse I L A J 2 14 rt sc (1 : Int32) _ hx34) (by exact Or.inl rfl) ?_
    refine tw_blk (cd := tw_c150) rfl 1 (c1 := (12, [some (.ref 0), some (.int a1), some (.int a2), some (.int a3), some (.int a4), none, none, none, none, none, none], [.long ((x32).toInt64)], (I33, L, tw_P 2 14 rt sc, A, J, 57))) rfl ?_
    have h := Option.some.inj h
    subst h
    exact tw_retE (cd := tw_c150) rfl rfl rfl rfl
theorem g_X10_lowest_L1_ok (I : Nat → Int32) (L : Nat → Int64) (A : Nat → Nat → Int32) (J : Nat → Nat → Int64) (tw : Nat) (dr : Nat) (rt : Nat) (sc : Nat) (a0 : Int64) (a1 : Int64) (a2 : Int32) (out : Option Value × tw_S) : ∀ (n : Nat) (v1_5 : Int64) (v1_7 : Int64) (ex : Int64), g_X10_lowest_L1 n v1_5 v1_7 = some ex → tw_ME 200 (17, [some (.long a0), none, some (.long a1), none, some (.int a2), some (.long ex), none, none, none, none, none], [], (I, L, tw_P tw dr rt sc, A, J, 57)) out → tw_ME 200 (4, [some (.long a0), none, some (.long a1), none, some (.int a2), some (.long v1_5), none, some (.long v1_7), none, none, none], [], (I, L, tw_P tw dr rt sc, A, J, 57)) out := by
  intro n
  induction n with
  | zero =>
    intro v1_5 v1_7 ex h _
    cases h
  | succ n ih =>
    intro v1_5 v1_7 ex h K
    rw [g_X10_lowest_L1] at h
    refine tw_blk (cd := tw_c200) rfl 1 (c1 := (5, [some (.long a0), none, some (.long a1), none, some (.int a2), some (.long v1_5), none, some (.long v1_7), none, none, none], [.long v1_7], (I, L, tw_P tw dr rt sc, A, J, 57))) rfl ?_
    refine tw_blk (cd := tw_c200) rfl 2 (c1 := (7, [some (.long a0), none, some (.long a1), none, some (.int a2), some (.long v1_5), none, some (.long v1_7), none, none, none], [.int (lg_cmp v1_7 (0 : Int64))], (I, L, tw_P tw dr rt sc, A, J, 57))) rfl ?_
    by_cases hc2 : (lg_cmp v1_7 (0 : Int64)) = 0
    · rw [if_pos hc2] at h
      refine tw_br (cd := tw_c200) rfl rfl rfl (by exact if_pos hc2) ?_
      refine tw_forget (ls2 := [some (.long a0), none, some (.long a1), none, some (.int a2), some (.long v1_5), none, none, none, none, none]) ⟨rfl, rfl, rfl, rfl, trivial⟩ ?_
      have h := Option.some.inj h
      subst h
      exact K
    · rw [if_neg hc2] at h
      refine tw_br (cd := tw_c200) rfl rfl rfl (by exact if_neg hc2) ?_
      refine tw_blk (cd := tw_c200) rfl 2 (c1 := (10, [some (.long a0), none, some (.long a1), none, some (.int a2), some (.long v1_5), none, some (.long v1_7), none, none, none], [.long v1_7, .long v1_5], (I, L, tw_P tw dr rt sc, A, J, 57))) rfl ?_
      by_cases hz3 : v1_7 = 0
      · rw [if_pos hz3] at h; cases h
      · rw [if_neg hz3] at h
        refine tw_br (cd := tw_c200) rfl rfl rfl (by exact if_neg hz3) ?_
        refine tw_blk (cd := tw_c200) rfl 6 (c1 := (4, [some (.long a0), none, some (.long a1), none, some (.int a2), some (.long v1_7), none, some (.long (v1_5 - v1_5 / v1_7 * v1_7)), none, some (.long (v1_5 - v1_5 / v1_7 * v1_7)), none], [], (I, L, tw_P tw dr rt sc, A, J, 57))) rfl ?_
        refine tw_forget (ls2 := [some (.long a0), none, some (.long a1), none, some (.int a2), some (.long v1_7), none, some (.long (v1_5 - v1_5 / v1_7 * v1_7)), none, none, none]) ⟨rfl, rfl, rfl, rfl, rfl, trivial⟩ ?_
        exact ih v1_7 (v1_5 - v1_5 / v1_7 * v1_7) _ h K
theorem e_X10_lowest (I : Nat → Int32) (L : Nat → Int64) (A : Nat → Nat → Int32) (J : Nat → Nat → Int64) (tw dr : Nat) (rt : Nat) (sc : Nat) (a0 : Int64) (a1 : Int64) (a2 : Int32) : ∀ r : Int64, g_X10_lowest a0 a1 a2 = some r → tw_ME 200 (0, [some (.long a0), none, some (.long a1), none, some (.int a2), none, none, none, none, none, none], [], (I, L, tw_P tw dr rt sc, A, J, 57)) (some (.long r), (I, L, tw_P tw dr rt sc, A, J, 57)) := by
  intro r h
  unfold g_X10_lowest at h
  refine tw_blk (cd := tw_c200) rfl 4 (c1 := (4, [some (.long a0), none, some (.long a1), none, some (.int a2), some (.long a1), none, some (.long a0), none, none, none], [], (I, L, tw_P tw dr rt sc, A, J, 57))) rfl ?_
  obtain ⟨y1, hx8, h⟩ := tw_bindE h
  refine g_X10_lowest_L1_ok I L A J tw dr rt sc a0 a1 a2 _ 4096 a1 a0 _ hx8 ?_
  refine tw_blk (cd := tw_c200) rfl 1 (c1 := (18, [some (.long a0), none, some (.long a1), none, some (.int a2), some (.long y1), none, none, none, none, none], [.int a2], (I, L, tw_P tw dr rt sc, A, J, 57))) rfl ?_
  obtain ⟨y5, hj6, h⟩ := tw_bindE h
  have K : tw_ME 200 (22, [none, none, none, none, none, some (.long y1), none, none, none, none, none], [.long y5], (I, L, tw_P tw dr rt sc, A, J, 57)) (some (.long r), (I, L, tw_P tw dr rt sc, A, J, 57)) := by
    refine tw_blk (cd := tw_c200) rfl 1 (c1 := (23, [none, none, none, none, none, some (.long y1), none, none, none, none, none], [.long y1, .long y5], (I, L, tw_P tw dr rt sc, A, J, 57))) rfl ?_
    by_cases hz7 : y1 = 0
    · rw [if_pos hz7] at h; cases h
    · rw [if_neg hz7] at h
      refine tw_br (cd := tw_c200) rfl rfl rfl (by exact if_neg hz7) ?_
      have h := Option.some.inj h
      subst h
      exact tw_retE (cd := tw_c200) rfl rfl rfl rfl
  by_cases hc4 : a2 = 0
  · rw [if_pos hc4] at hj6
    refine tw_br (cd := tw_c200) rfl rfl rfl (by exact if_pos hc4) ?_
    refine tw_blk (cd := tw_c200) rfl 1 (c1 := (22, [some (.long a0), none, some (.long a1), none, some (.int a2), some (.long y1), none, none, none, none, none], [.long a0], (I, L, tw_P tw dr rt sc, A, J, 57))) rfl ?_
    refine tw_forget (ls2 := [none, none, none, none, none, some (.long y1), none, none, none, none, none]) ⟨rfl, trivial⟩ ?_
    have hj6s := Option.some.inj hj6
    subst hj6s
    exact K
  · rw [if_neg hc4] at hj6
    refine tw_br (cd := tw_c200) rfl rfl rfl (by exact if_neg hc4) ?_
    refine tw_blk (cd := tw_c200) rfl 2 (c1 := (22, [some (.long a0), none, some (.long a1), none, some (.int a2), some (.long y1), none, none, none, none, none], [.long a1], (I, L, tw_P tw dr rt sc, A, J, 57))) rfl ?_
    refine tw_forget (ls2 := [none, none, none, none, none, some (.long y1), none, none, none, none, none]) ⟨rfl, trivial⟩ ?_
    have hj6s := Option.some.inj hj6
    subst hj6s
    exact K
theorem g_X10_swings_L1_ok (I : Nat → Int32) (L : Nat → Int64) (A : Nat → Nat → Int32) (J : Nat → Nat → Int64) (tw : Nat) (dr : Nat) (rt : Nat) (sc : Nat) (a1 : Int32) (a2 : Int32) (a3 : Int32) (a4 : Int32) (I1 : Nat → Int32) (c3 : Bool) (x6 : Int32) (A12 : Nat → Nat → Int32) (x14 : Int32) (out : Option Value × tw_S) : ∀ (n : Nat) (v1_8 : Int32) (v1_9 : Int32) (v1_10 : Int32) (ex : (Int32 × Int32)), g_X10_swings_L1 a1 A12 x14 n v1_8 v1_9 v1_10 = some ex → tw_ME 295 (95, [none, none, none, none, some (.int a4), none, none, none, some (.int (ex.1)), some (.int (ex.2)), none], [], (I1, L, tw_P tw dr rt sc, A12, J, 57)) out → tw_ME 295 (56, [some (.ref 44), some (.int a1), none, none, some (.int a4), none, none, some (.int (x14 &&& (((1 : Int32) <<< (a1 &&& 31)) ^^^ (-1 : Int32)))), some (.int v1_8), some (.int v1_9), some (.int v1_10)], [], (I1, L, tw_P tw dr rt sc, A12, J, 57)) out := by
  intro n
  induction n with
  | zero =>
    intro v1_8 v1_9 v1_10 ex h _
    cases h
  | succ n ih =>
    intro v1_8 v1_9 v1_10 ex h K
    rw [g_X10_swings_L1] at h
    refine tw_blk (cd := tw_c295) rfl 1 (c1 := (57, [some (.ref 44), some (.int a1), none, none, some (.int a4), none, none, some (.int (x14 &&& (((1 : Int32) <<< (a1 &&& 31)) ^^^ (-1 : Int32)))), some (.int v1_8), some (.int v1_9), some (.int v1_10)], [.int v1_10], (I1, L, tw_P tw dr rt sc, A12, J, 57))) rfl ?_
    refine tw_blk (cd := tw_c295) rfl 4 (c1 := (61, [some (.ref 44), some (.int a1), none, none, some (.int a4), none, none, some (.int (x14 &&& (((1 : Int32) <<< (a1 &&& 31)) ^^^ (-1 : Int32)))), some (.int v1_8), some (.int v1_9), some (.int v1_10)], [.int 3, .ref 47, .int 1, .int v1_10], (I1, L, tw_P tw dr rt sc, A12, J, 57))) rfl ?_
    obtain ⟨x20, hx19, h⟩ := tw_bindE h
    refine tw_iald (cd := tw_c295) (N := 241) rfl rfl rfl rfl hx19 ?_
    refine tw_blk (cd := tw_c295) rfl 1 (c1 := (63, [some (.ref 44), some (.int a1), none, none, some (.int a4), none, none, some (.int (x14 &&& (((1 : Int32) <<< (a1 &&& 31)) ^^^ (-1 : Int32)))), some (.int v1_8), some (.int v1_9), some (.int v1_10)], [.int ((1 : Int32) <<< (x20 &&& 31)), .int v1_10], (I1, L, tw_P tw dr rt sc, A12, J, 57))) rfl ?_
    by_cases hc21 : ((1 : Int32) <<< (x20 &&& 31)) ≤ v1_10
    · rw [if_pos hc21] at h
      refine tw_br (cd := tw_c295) rfl rfl rfl (by exact if_pos hc21) ?_
      refine tw_forget (ls2 := [none, none, none, none, some (.int a4), none, none, none, some (.int v1_8), some (.int v1_9), none]) ⟨rfl, rfl, rfl, trivial⟩ ?_
      have h := Option.some.inj h
      subst h
      exact K
    · rw [if_neg hc21] at h
      refine tw_br (cd := tw_c295) rfl rfl rfl (by exact if_neg hc21) ?_
      refine tw_blk (cd := tw_c295) rfl 5 (c1 := (69, [some (.ref 44), some (.int a1), none, none, some (.int a4), none, none, some (.int (x14 &&& (((1 : Int32) <<< (a1 &&& 31)) ^^^ (-1 : Int32)))), some (.int v1_8), some (.int v1_9), some (.int v1_10)], [.int (v1_10 &&& ((x14 &&& (((1 : Int32) <<< (a1 &&& 31)) ^^^ (-1 : Int32))) ^^^ (-1 : Int32)))], (I1, L, tw_P tw dr rt sc, A12, J, 57))) rfl ?_
      obtain ⟨⟨x23, x24⟩, hj25, h⟩ := tw_bindE h
      dsimp only at h
      have K : tw_ME 295 (93, [some (.ref 44), some (.int a1), none, none, some (.int a4), none, none, some (.int (x14 &&& (((1 : Int32) <<< (a1 &&& 31)) ^^^ (-1 : Int32)))), some (.int x23), some (.int x24), some (.int v1_10)], [], (I1, L, tw_P tw dr rt sc, A12, J, 57)) out := by
        refine tw_blk (cd := tw_c295) rfl 2 (c1 := (56, [some (.ref 44), some (.int a1), none, none, some (.int a4), none, none, some (.int (x14 &&& (((1 : Int32) <<< (a1 &&& 31)) ^^^ (-1 : Int32)))), some (.int x23), some (.int x24), some (.int (v1_10 + (1 : Int32)))], [], (I1, L, tw_P tw dr rt sc, A12, J, 57))) rfl ?_
        exact ih x23 x24 (v1_10 + (1 : Int32)) _ h K
      by_cases hc22 : (v1_10 &&& ((x14 &&& (((1 : Int32) <<< (a1 &&& 31)) ^^^ (-1 : Int32))) ^^^ (-1 : Int32))) = 0
      · rw [if_pos hc22] at hj25
        refine tw_br (cd := tw_c295) rfl rfl rfl (by exact if_pos hc22) ?_
        refine tw_blk (cd := tw_c295) rfl 4 (c1 := (75, [some (.ref 44), some (.int a1), none, none, some (.int a4), none, none, some (.int (x14 &&& (((1 : Int32) <<< (a1 &&& 31)) ^^^ (-1 : Int32)))), some (.int (v1_8 + (1 : Int32))), some (.int v1_9), some (.int v1_10)], [.int v1_10, .ref 44, .int v1_9], (I1, L, tw_P tw dr rt sc, A12, J, 57))) rfl ?_
        obtain ⟨x26, hx27, hj25⟩ := tw_bindE hj25
        refine tw_callE (cd := tw_c295) rfl rfl rfl rfl rfl (e_X10_eyesOf I1 L A12 J tw dr rt sc v1_10 _ hx27) (by exact Or.inl rfl) ?_
        refine tw_blk (cd := tw_c295) rfl 1 (c1 := (77, [some (.ref 44), some (.int a1), none, none, some (.int a4), none, none, some (.int (x14 &&& (((1 : Int32) <<< (a1 &&& 31)) ^^^ (-1 : Int32)))), some (.int (v1_8 + (1 : Int32))), some (.int v1_9), some (.int v1_10)], [.int 6, .int x26, .int v1_9], (I1, L, tw_P tw dr rt sc, A12, J, 57))) rfl ?_
        obtain ⟨x29, hj30, hj25⟩ := tw_bindE hj25
        have K : tw_ME 295 (91, [some (.ref 44), some (.int a1), none, none, some (.int a4), none, none, some (.int (x14 &&& (((1 : Int32) <<< (a1 &&& 31)) ^^^ (-1 : Int32)))), some (.int (v1_8 + (1 : Int32))), none, some (.int v1_10)], [.int x29, .int v1_9], (I1, L, tw_P tw dr rt sc, A12, J, 57)) out := by
          refine tw_blk (cd := tw_c295) rfl 2 (c1 := (93, [some (.ref 44), some (.int a1), none, none, some (.int a4), none, none, some (.int (x14 &&& (((1 : Int32) <<< (a1 &&& 31)) ^^^ (-1 : Int32)))), some (.int (v1_8 + (1 : Int32))), some (.int (v1_9 + x29)), some (.int v1_10)], [], (I1, L, tw_P tw dr rt sc, A12, J, 57))) rfl ?_
          have hj25s := Option.some.inj hj25
          obtain ⟨hj25_0, hj25r0⟩ := Prod.mk.inj hj25s
          subst hj25_0
          subst hj25r0
          exact K
        by_cases hc28 : (6 : Int32) ≤ x26
        · rw [if_pos hc28] at hj30
          refine tw_br (cd := tw_c295) rfl rfl rfl (by exact if_pos hc28) ?_
          refine tw_blk (cd := tw_c295) rfl 1 (c1 := (91, [some (.ref 44), some (.int a1), none, none, some (.int a4), none, none, some (.int (x14 &&& (((1 : Int32) <<< (a1 &&& 31)) ^^^ (-1 : Int32)))), some (.int (v1_8 + (1 : Int32))), some (.int v1_9), some (.int v1_10)], [.int 0, .int v1_9], (I1, L, tw_P tw dr rt sc, A12, J, 57))) rfl ?_
          refine tw_forget (ls2 := [some (.ref 44), some (.int a1), none, none, some (.int a4), none, none, some (.int (x14 &&& (((1 : Int32) <<< (a1 &&& 31)) ^^^ (-1 : Int32)))), some (.int (v1_8 + (1 : Int32))), none, some (.int v1_10)]) ⟨rfl, rfl, rfl, rfl, rfl, rfl, trivial⟩ ?_
          have hj30s := Option.some.inj hj30
          subst hj30s
          exact K
        · rw [if_neg hc28] at hj30
          refine tw_br (cd := tw_c295) rfl rfl rfl (by exact if_neg hc28) ?_
          refine tw_blk (cd := tw_c295) rfl 2 (c1 := (80, [some (.ref 44), some (.int a1), none, none, some (.int a4), none, none, some (.int (x14 &&& (((1 : Int32) <<< (a1 &&& 31)) ^^^ (-1 : Int32)))), some (.int (v1_8 + (1 : Int32))), some (.int v1_9), some (.int v1_10)], [.int v1_10, .ref 44, .int v1_9], (I1, L, tw_P tw dr rt sc, A12, J, 57))) rfl ?_
          obtain ⟨x31, hx32, hj30⟩ := tw_bindE hj30
          refine tw_callE (cd := tw_c295) rfl rfl rfl rfl rfl (e_X10_eyesOf I1 L A12 J tw dr rt sc v1_10 _ hx32) (by exact Or.inl rfl) ?_
          refine tw_blk (cd := tw_c295) rfl 3 (c1 := (84, [some (.ref 44), some (.int a1), none, none, some (.int a4), none, none, some (.int (x14 &&& (((1 : Int32) <<< (a1 &&& 31)) ^^^ (-1 : Int32)))), some (.int (v1_8 + (1 : Int32))), some (.int v1_9), some (.int v1_10)], [.int a1, .ref 54, .int x31, .int v1_9], (I1, L, tw_P tw dr rt sc, A12, J, 57))) rfl ?_
          obtain ⟨x34, hx33, hj30⟩ := tw_bindE hj30
          refine tw_iald (cd := tw_c295) (N := 6) rfl rfl rfl rfl hx33 ?_
          refine tw_blk (cd := tw_c295) rfl 2 (c1 := (87, [some (.ref 44), some (.int a1), none, none, some (.int a4), none, none, some (.int (x14 &&& (((1 : Int32) <<< (a1 &&& 31)) ^^^ (-1 : Int32)))), some (.int (v1_8 + (1 : Int32))), some (.int v1_9), some (.int v1_10)], [.int 6, .int (x31 + x34), .int v1_9], (I1, L, tw_P tw dr rt sc, A12, J, 57))) rfl ?_
          by_cases hc35 : (x31 + x34) < (6 : Int32)
          · rw [if_pos hc35] at hj30
            refine tw_br (cd := tw_c295) rfl rfl rfl (by exact if_pos hc35) ?_
            refine tw_blk (cd := tw_c295) rfl 1 (c1 := (91, [some (.ref 44), some (.int a1), none, none, some (.int a4), none, none, some (.int (x14 &&& (((1 : Int32) <<< (a1 &&& 31)) ^^^ (-1 : Int32)))), some (.int (v1_8 + (1 : Int32))), some (.int v1_9), some (.int v1_10)], [.int 0, .int v1_9], (I1, L, tw_P tw dr rt sc, A12, J, 57))) rfl ?_
            refine tw_forget (ls2 := [some (.ref 44), some (.int a1), none, none, some (.int a4), none, none, some (.int (x14 &&& (((1 : Int32) <<< (a1 &&& 31)) ^^^ (-1 : Int32)))), some (.int (v1_8 + (1 : Int32))), none, some (.int v1_10)]) ⟨rfl, rfl, rfl, rfl, rfl, rfl, trivial⟩ ?_
            have hj30s := Option.some.inj hj30
            subst hj30s
            exact K
          · rw [if_neg hc35] at hj30
            refine tw_br (cd := tw_c295) rfl rfl rfl (by exact if_neg hc35) ?_
            refine tw_blk (cd := tw_c295) rfl 2 (c1 := (91, [some (.ref 44), some (.int a1), none, none, some (.int a4), none, none, some (.int (x14 &&& (((1 : Int32) <<< (a1 &&& 31)) ^^^ (-1 : Int32)))), some (.int (v1_8 + (1 : Int32))), some (.int v1_9), some (.int v1_10)], [.int 1, .int v1_9], (I1, L, tw_P tw dr rt sc, A12, J, 57))) rfl ?_
            refine tw_forget (ls2 := [some (.ref 44), some (.int a1), none, none, some (.int a4), none, none, some (.int (x14 &&& (((1 : Int32) <<< (a1 &&& 31)) ^^^ (-1 : Int32)))), some (.int (v1_8 + (1 : Int32))), none, some (.int v1_10)]) ⟨rfl, rfl, rfl, rfl, rfl, rfl, trivial⟩ ?_
            have hj30s := Option.some.inj hj30
            subst hj30s
            exact K
      · rw [if_neg hc22] at hj25
        refine tw_br (cd := tw_c295) rfl rfl rfl (by exact if_neg hc22) ?_
        refine tw_blk (cd := tw_c295) rfl 1 (c1 := (93, [some (.ref 44), some (.int a1), none, none, some (.int a4), none, none, some (.int (x14 &&& (((1 : Int32) <<< (a1 &&& 31)) ^^^ (-1 : Int32)))), some (.int v1_8), some (.int v1_9), some (.int v1_10)], [], (I1, L, tw_P tw dr rt sc, A12, J, 57))) rfl ?_
        have hj25s := Option.some.inj hj25
        obtain ⟨hj25_0, hj25r0⟩ := Prod.mk.inj hj25s
        subst hj25_0
        subst hj25r0
        exact K
theorem e_X10_swings (I : Nat → Int32) (L : Nat → Int64) (A : Nat → Nat → Int32) (J : Nat → Nat → Int64) (tw dr : Nat) (rt : Nat) (sc : Nat) (a1 : Int32) (a2 : Int32) (a3 : Int32) (a4 : Int32) : ∀ r : (Int64 × (Nat → Int32) × (Nat → Nat → Int32)), g_X10_swings I A a1 a2 a3 a4 = some r → tw_ME 295 (0, [some (.ref 44), some (.int a1), some (.int a2), some (.int a3), some (.int a4), none, none, none, none, none, none], [], (I, L, tw_P tw dr rt sc, A, J, 57)) (some (.long r.1), ((r.2.1), L, tw_P tw dr rt sc, (r.2.2), J, 57)) := by
  intro r h
  unfold g_X10_swings at h
  refine tw_blk (cd := tw_c295) rfl 1 (c1 := (1, [some (.ref 44), some (.int a1), some (.int a2), some (.int a3), some (.int a4), none, none, none, none, none, none], [.ref 44], (I, L, tw_P tw dr rt sc, A, J, 57))) rfl ?_
  obtain ⟨I1, hx2, h⟩ := tw_letE h
  refine tw_callE (cd := tw_c295) rfl rfl rfl rfl rfl (e_X10_good I L A J tw dr rt sc _ hx2) (by exact Or.inl rfl) ?_
  refine tw_blk (cd := tw_c295) rfl 3 (c1 := (5, [some (.ref 44), some (.int a1), some (.int a2), some (.int a3), some (.int a4), none, none, none, none, none, none], [.int a1, .ref 44, .ref 44], (I1, L, tw_P tw dr rt sc, A, J, 57))) rfl ?_
  obtain ⟨c3, hx4, h⟩ := tw_bindE h
  refine tw_callE (cd := tw_c295) rfl rfl rfl rfl rfl (e_X10_isPerson I1 L A J tw dr rt sc a1 _ hx4) (by exact Or.inl rfl) ?_
  obtain ⟨x6, hj7, h⟩ := tw_bindE h
  have K : tw_ME 295 (14, [some (.ref 44), some (.int a1), some (.int a2), some (.int a3), some (.int a4), none, none, none, none, none, none], [.int x6, .ref 44], (I1, L, tw_P tw dr rt sc, A, J, 57)) (some (.long r.1), ((r.2.1), L, tw_P tw dr rt sc, (r.2.2), J, 57)) := by
    refine tw_blk (cd := tw_c295) rfl 2 (c1 := (16, [some (.ref 44), some (.int a1), some (.int a2), some (.int a3), some (.int a4), none, none, none, none, none, none], [.int a3, .ref 44, .int x6, .ref 44], (I1, L, tw_P tw dr rt sc, A, J, 57))) rfl ?_
    refine tw_callE (cd := tw_c295) rfl rfl rfl rfl rfl (e_X10_isMinute I1 L A J tw dr rt sc a3 _ rfl) (by exact Or.inl rfl) ?_
    refine tw_callE (cd := tw_c295) rfl rfl rfl rfl rfl (e_X10_why I1 L A J tw dr rt sc x6 (tw_b (g_X10_isMinute a3)) _ rfl) (by exact Or.inl rfl) ?_
    refine tw_blk (cd := tw_c295) rfl 2 (c1 := (20, [some (.ref 44), some (.int a1), some (.int a2), some (.int a3), some (.int a4), some (.int (g_X10_why x6 (tw_b (g_X10_isMinute a3)))), none, none, none, none, none], [.int (g_X10_why x6 (tw_b (g_X10_isMinute a3)))], (I1, L, tw_P tw dr rt sc, A, J, 57))) rfl ?_
    by_cases hc11 : (g_X10_why x6 (tw_b (g_X10_isMinute a3))) = 0
    · rw [if_pos hc11] at h
      refine tw_br (cd := tw_c295) rfl rfl rfl (by exact if_pos hc11) ?_
      refine tw_blk (cd := tw_c295) rfl 1 (c1 := (27, [some (.ref 44), some (.int a1), some (.int a2), some (.int a3), some (.int a4), some (.int (g_X10_why x6 (tw_b (g_X10_isMinute a3)))), none, none, none, none, none], [.ref 44], (I1, L, tw_P tw dr rt sc, A, J, 57))) rfl ?_
      obtain ⟨A12, hx13, h⟩ := tw_bindE h
      refine tw_callE (cd := tw_c295) rfl rfl rfl rfl rfl (e_X10_asNow I1 L A J tw dr rt sc _ hx13) (by exact Or.inl rfl) ?_
      refine tw_blk (cd := tw_c295) rfl 3 (c1 := (31, [some (.ref 44), some (.int a1), some (.int a2), some (.int a3), some (.int a4), some (.int (g_X10_why x6 (tw_b (g_X10_isMinute a3)))), none, none, none, none, none], [.int a3, .int a2, .ref 44], (I1, L, tw_P tw dr rt sc, A12, J, 57))) rfl ?_
      obtain ⟨x14, hx15, h⟩ := tw_bindE h
      refine tw_callE (cd := tw_c295) rfl rfl rfl rfl rfl (e_X10_watchersOf I1 L A12 J tw dr rt sc a2 a3 _ hx15) (by exact Or.inl rfl) ?_
      refine tw_blk (cd := tw_c295) rfl 3 (c1 := (35, [some (.ref 44), some (.int a1), some (.int a2), some (.int a3), some (.int a4), some (.int (g_X10_why x6 (tw_b (g_X10_isMinute a3)))), some (.int x14), none, none, none, none], [.int a1, .int x14], (I1, L, tw_P tw dr rt sc, A12, J, 57))) rfl ?_
      refine tw_callE (cd := tw_c295) rfl rfl rfl rfl rfl (e_X10_hasBit I1 L A12 J tw dr rt sc x14 a1 _ rfl) (by exact Or.inl rfl) ?_
      by_cases hc16 : (g_X10_hasBit x14 a1) = true
      · rw [if_pos hc16] at h
        refine tw_br (cd := tw_c295) rfl rfl rfl (by exact if_neg (tw_b_t hc16)) ?_
        refine tw_blk (cd := tw_c295) rfl 14 (c1 := (56, [some (.ref 44), some (.int a1), some (.int a2), some (.int a3), some (.int a4), some (.int (g_X10_why x6 (tw_b (g_X10_isMinute a3)))), some (.int x14), some (.int (x14 &&& (((1 : Int32) <<< (a1 &&& 31)) ^^^ (-1 : Int32)))), some (.int 0), some (.int 0), some (.int 0)], [], (I1, L, tw_P tw dr rt sc, A12, J, 57))) rfl ?_
        obtain ⟨⟨x17, x18⟩, hx38, h⟩ := tw_bindE h
        dsimp only at h
        refine tw_forget (ls2 := [some (.ref 44), some (.int a1), none, none, some (.int a4), none, none, some (.int (x14 &&& (((1 : Int32) <<< (a1 &&& 31)) ^^^ (-1 : Int32)))), some (.int 0), some (.int 0), some (.int 0)]) ⟨rfl, rfl, rfl, rfl, rfl, rfl, rfl, trivial⟩ ?_
        refine g_X10_swings_L1_ok I L A J tw dr rt sc a1 a2 a3 a4 I1 c3 x6 A12 x14 _ 4096 (0 : Int32) (0 : Int32) (0 : Int32) _ hx38 ?_
        refine tw_blk (cd := tw_c295) rfl 5 (c1 := (100, [none, none, none, none, some (.int a4), none, none, none, some (.int x17), some (.int x18), none], [.int a4, .long ((x17).toInt64), .long ((x18).toInt64)], (I1, L, tw_P tw dr rt sc, A12, J, 57))) rfl ?_
        obtain ⟨y36, hx37, h⟩ := tw_bindE h
        refine tw_callE (cd := tw_c295) rfl rfl rfl rfl rfl (e_X10_lowest I1 L A12 J tw dr rt sc ((x18).toInt64) ((x17).toInt64) a4 _ hx37) (by exact Or.inl rfl) ?_
        have h := Option.some.inj h
        subst h
        exact tw_retE (cd := tw_c295) rfl rfl rfl rfl
      · rw [if_neg hc16] at h
        refine tw_br (cd := tw_c295) rfl rfl rfl (by exact if_pos (tw_b_f hc16)) ?_
        refine tw_blk (cd := tw_c295) rfl 3 (c1 := (40, [some (.ref 44), some (.int a1), some (.int a2), some (.int a3), some (.int a4), some (.int (g_X10_why x6 (tw_b (g_X10_isMinute a3)))), some (.int x14), none, none, none, none], [.int a4, .long 1, .long 0], (I1, L, tw_P tw dr rt sc, A12, J, 57))) rfl ?_
        obtain ⟨y39, hx40, h⟩ := tw_bindE h
        refine tw_callE (cd := tw_c295) rfl rfl rfl rfl rfl (e_X10_lowest I1 L A12 J tw dr rt sc (0 : Int64) (1 : Int64) a4 _ hx40) (by exact Or.inl rfl) ?_
        have h := Option.some.inj h
        subst h
        exact tw_retE (cd := tw_c295) rfl rfl rfl rfl
    · rw [if_neg hc11] at h
      refine tw_br (cd := tw_c295) rfl rfl rfl (by exact if_neg hc11) ?_
      refine tw_blk (cd := tw_c295) rfl 2 (c1 := (23, [some (.ref 44), some (.int a1), some (.int a2), some (.int a3), some (.int a4), some (.int (g_X10_why x6 (tw_b (g_X10_isMinute a3)))), none, none, none, none, none], [.int (g_X10_why x6 (tw_b (g_X10_isMinute a3))), .ref 44], (I1, L, tw_P tw dr rt sc, A, J, 57))) rfl ?_
      obtain ⟨⟨x41, I42⟩, hx43, h⟩ := tw_letE h
      dsimp only at h
      refine tw_callE (cd := tw_c295) rfl rfl rfl rfl rfl (e_X10_no I1 L A J tw dr rt sc (g_X10_why x6 (tw_b (g_X10_isMinute a3))) _ hx43) (by exact Or.inl rfl) ?_
      refine tw_blk (cd := tw_c295) rfl 1 (c1 := (25, [some (.ref 44), some (.int a1), some (.int a2), some (.int a3), some (.int a4), some (.int (g_X10_why x6 (tw_b (g_X10_isMinute a3)))), none, none, none, none, none], [.long ((x41).toInt64)], (I42, L, tw_P tw dr rt sc, A, J, 57))) rfl ?_
      have h := Option.some.inj h
      subst h
      exact tw_retE (cd := tw_c295) rfl rfl rfl rfl
  by_cases hc5 : c3 = true
  · rw [if_pos hc5] at hj7
    refine tw_br (cd := tw_c295) rfl rfl rfl (by exact if_neg (tw_b_t hc5)) ?_
    refine tw_blk (cd := tw_c295) rfl 2 (c1 := (9, [some (.ref 44), some (.int a1), some (.int a2), some (.int a3), some (.int a4), none, none, none, none, none, none], [.int a2, .ref 44, .ref 44], (I1, L, tw_P tw dr rt sc, A, J, 57))) rfl ?_
    obtain ⟨c8, hx9, hj7⟩ := tw_bindE hj7
    refine tw_callE (cd := tw_c295) rfl rfl rfl rfl rfl (e_X10_isPlace I1 L A J tw dr rt sc a2 _ hx9) (by exact Or.inl rfl) ?_
    by_cases hc10 : c8 = true
    · rw [if_pos hc10] at hj7
      refine tw_br (cd := tw_c295) rfl rfl rfl (by exact if_neg (tw_b_t hc10)) ?_
      refine tw_blk (cd := tw_c295) rfl 2 (c1 := (14, [some (.ref 44), some (.int a1), some (.int a2), some (.int a3), some (.int a4), none, none, none, none, none, none], [.int 1, .ref 44], (I1, L, tw_P tw dr rt sc, A, J, 57))) rfl ?_
      have hj7s := Option.some.inj hj7
      subst hj7s
      exact K
    · rw [if_neg hc10] at hj7
      refine tw_br (cd := tw_c295) rfl rfl rfl (by exact if_pos (tw_b_f hc10)) ?_
      refine tw_blk (cd := tw_c295) rfl 1 (c1 := (14, [some (.ref 44), some (.int a1), some (.int a2), some (.int a3), some (.int a4), none, none, none, none, none, none], [.int 0, .ref 44], (I1, L, tw_P tw dr rt sc, A, J, 57))) rfl ?_
      have hj7s := Option.some.inj hj7
      subst hj7s
      exact K
  · rw [if_neg hc5] at hj7
    refine tw_br (cd := tw_c295) rfl rfl rfl (by exact if_pos (tw_b_f hc5)) ?_
    refine tw_blk (cd := tw_c295) rfl 1 (c1 := (14, [some (.ref 44), some (.int a1), some (.int a2), some (.int a3), some (.int a4), none, none, none, none, none, none], [.int 0, .ref 44], (I1, L, tw_P tw dr rt sc, A, J, 57))) rfl ?_
    have hj7s := Option.some.inj hj7
    subst hj7s
    exact K
theorem g_X9_three_L1_ok (I : Nat → Int32) (L : Nat → Int64) (A : Nat → Nat → Int32) (J : Nat → Nat → Int64) (rt : Nat) (sc : Nat) (a1 : Int32) (a2 : Int32) (I2 : Nat → Int32) (A3 : Nat → Nat → Int32) (x6 : Int32) (out : Option Value × tw_S) : ∀ (n : Nat) (v1_4 : Int32) (v1_5 : Int32) (ex : Int32), g_X9_three_L1 A3 x6 n v1_4 v1_5 = some ex → tw_ME 151 (50, [some (.ref 0), none, none, none, some (.int ex), none, none], [], (I2, L, tw_P 2 14 rt 2, A3, J, 57)) out → tw_ME 151 (17, [some (.ref 0), none, none, some (.int x6), some (.int v1_4), some (.int v1_5), none], [], (I2, L, tw_P 2 14 rt 2, A3, J, 57)) out := by
  intro n
  induction n with
  | zero =>
    intro v1_4 v1_5 ex h _
    cases h
  | succ n ih =>
    intro v1_4 v1_5 ex h K
    rw [g_X9_three_L1] at h
    refine tw_blk (cd := tw_c151) rfl 1 (c1 := (18, [some (.ref 0), none, none, some (.int x6), some (.int v1_4), some (.int v1_5), none], [.int v1_5], (I2, L, tw_P 2 14 rt 2, A3, J, 57))) rfl ?_
    refine tw_blk (cd := tw_c151) rfl 1 (c1 := (19, [some (.ref 0), none, none, some (.int x6), some (.int v1_4), some (.int v1_5), none], [.int x6, .int v1_5], (I2, L, tw_P 2 14 rt 2, A3, J, 57))) rfl ?_
    by_cases hc9 : x6 < v1_5
    · rw [if_pos hc9] at h
      refine tw_br (cd := tw_c151) rfl rfl rfl (by exact if_pos hc9) ?_
      refine tw_forget (ls2 := [some (.ref 0), none, none, none, some (.int v1_4), none, none]) ⟨rfl, rfl, trivial⟩ ?_
      have h := Option.some.inj h
      subst h
      exact K
    · rw [if_neg hc9] at h
      refine tw_br (cd := tw_c151) rfl rfl rfl (by exact if_neg hc9) ?_
      refine tw_blk (cd := tw_c151) rfl 5 (c1 := (25, [some (.ref 0), none, none, some (.int x6), some (.int v1_4), some (.int v1_5), none], [.int (v1_5 &&& (x6 ^^^ (-1 : Int32)))], (I2, L, tw_P 2 14 rt 2, A3, J, 57))) rfl ?_
      obtain ⟨x11, hj12, h⟩ := tw_bindE h
      have K : tw_ME 151 (35, [some (.ref 0), none, none, some (.int x6), some (.int v1_4), some (.int v1_5), none], [.int x11], (I2, L, tw_P 2 14 rt 2, A3, J, 57)) out := by
        refine tw_blk (cd := tw_c151) rfl 2 (c1 := (37, [some (.ref 0), none, none, some (.int x6), some (.int v1_4), some (.int v1_5), some (.int x11)], [.int x11], (I2, L, tw_P 2 14 rt 2, A3, J, 57))) rfl ?_
        obtain ⟨x17, hj18, h⟩ := tw_bindE h
        have K : tw_ME 151 (48, [some (.ref 0), none, none, some (.int x6), some (.int x17), some (.int v1_5), none], [], (I2, L, tw_P 2 14 rt 2, A3, J, 57)) out := by
          refine tw_blk (cd := tw_c151) rfl 2 (c1 := (17, [some (.ref 0), none, none, some (.int x6), some (.int x17), some (.int (v1_5 + (1 : Int32))), none], [], (I2, L, tw_P 2 14 rt 2, A3, J, 57))) rfl ?_
          exact ih x17 (v1_5 + (1 : Int32)) _ h K
        by_cases hc16 : x11 = 0
        · rw [if_pos hc16] at hj18
          refine tw_br (cd := tw_c151) rfl rfl rfl (by exact if_pos hc16) ?_
          refine tw_forget (ls2 := [some (.ref 0), none, none, some (.int x6), some (.int v1_4), some (.int v1_5), none]) ⟨rfl, rfl, rfl, rfl, trivial⟩ ?_
          have hj18s := Option.some.inj hj18
          subst hj18s
          exact K
        · rw [if_neg hc16] at hj18
          refine tw_br (cd := tw_c151) rfl rfl rfl (by exact if_neg hc16) ?_
          refine tw_blk (cd := tw_c151) rfl 2 (c1 := (40, [some (.ref 0), none, none, some (.int x6), some (.int v1_4), some (.int v1_5), some (.int x11)], [.int (-2), .int v1_4], (I2, L, tw_P 2 14 rt 2, A3, J, 57))) rfl ?_
          by_cases hc19 : v1_4 = (-2 : Int32)
          · rw [if_pos hc19] at hj18
            refine tw_br (cd := tw_c151) rfl rfl rfl (by exact if_pos hc19) ?_
            refine tw_blk (cd := tw_c151) rfl 2 (c1 := (48, [some (.ref 0), none, none, some (.int x6), some (.int v1_5), some (.int v1_5), some (.int x11)], [], (I2, L, tw_P 2 14 rt 2, A3, J, 57))) rfl ?_
            refine tw_forget (ls2 := [some (.ref 0), none, none, some (.int x6), some (.int v1_5), some (.int v1_5), none]) ⟨rfl, rfl, rfl, rfl, trivial⟩ ?_
            have hj18s := Option.some.inj hj18
            subst hj18s
            exact K
          · rw [if_neg hc19] at hj18
            refine tw_br (cd := tw_c151) rfl rfl rfl (by exact if_neg hc19) ?_
            refine tw_blk (cd := tw_c151) rfl 1 (c1 := (42, [some (.ref 0), none, none, some (.int x6), some (.int v1_4), some (.int v1_5), some (.int x11)], [.int v1_5], (I2, L, tw_P 2 14 rt 2, A3, J, 57))) rfl ?_
            refine tw_callE (cd := tw_c151) rfl rfl rfl rfl rfl (e_J6_bitCount_0f7a4 I2 L A3 J 2 14 rt 2 v1_5 _ rfl) (by exact Or.inl rfl) ?_
            refine tw_blk (cd := tw_c151) rfl 1 (c1 := (44, [some (.ref 0), none, none, some (.int x6), some (.int v1_4), some (.int v1_5), some (.int x11)], [.int v1_4, .int (g_J6_bitCount_0f7a4 v1_5)], (I2, L, tw_P 2 14 rt 2, A3, J, 57))) rfl ?_
            refine tw_callE (cd := tw_c151) rfl rfl rfl rfl rfl (e_J6_bitCount_0f7a4 I2 L A3 J 2 14 rt 2 v1_4 _ rfl) (by exact Or.inl rfl) ?_
            by_cases hc20 : (g_J6_bitCount_0f7a4 v1_4) ≤ (g_J6_bitCount_0f7a4 v1_5)
            · rw [if_pos hc20] at hj18
              refine tw_br (cd := tw_c151) rfl rfl rfl (by exact if_pos hc20) ?_
              refine tw_forget (ls2 := [some (.ref 0), none, none, some (.int x6), some (.int v1_4), some (.int v1_5), none]) ⟨rfl, rfl, rfl, rfl, trivial⟩ ?_
              have hj18s := Option.some.inj hj18
              subst hj18s
              exact K
            · rw [if_neg hc20] at hj18
              refine tw_br (cd := tw_c151) rfl rfl rfl (by exact if_neg hc20) ?_
              refine tw_blk (cd := tw_c151) rfl 2 (c1 := (48, [some (.ref 0), none, none, some (.int x6), some (.int v1_5), some (.int v1_5), some (.int x11)], [], (I2, L, tw_P 2 14 rt 2, A3, J, 57))) rfl ?_
              refine tw_forget (ls2 := [some (.ref 0), none, none, some (.int x6), some (.int v1_5), some (.int v1_5), none]) ⟨rfl, rfl, rfl, rfl, trivial⟩ ?_
              have hj18s := Option.some.inj hj18
              subst hj18s
              exact K
      by_cases hc10 : (v1_5 &&& (x6 ^^^ (-1 : Int32))) = 0
      · rw [if_pos hc10] at hj12
        refine tw_br (cd := tw_c151) rfl rfl rfl (by exact if_pos hc10) ?_
        refine tw_blk (cd := tw_c151) rfl 3 (c1 := (29, [some (.ref 0), none, none, some (.int x6), some (.int v1_4), some (.int v1_5), none], [.int v1_5, .ref 36], (I2, L, tw_P 2 14 rt 2, A3, J, 57))) rfl ?_
        obtain ⟨x13, hx14, hj12⟩ := tw_bindE hj12
        refine tw_callE (cd := tw_c151) rfl rfl rfl rfl rfl (e_X6_eyesOf I2 L A3 J 2 14 rt v1_5 _ hx14) (by exact Or.inl rfl) ?_
        refine tw_blk (cd := tw_c151) rfl 1 (c1 := (31, [some (.ref 0), none, none, some (.int x6), some (.int v1_4), some (.int v1_5), none], [.int 6, .int x13], (I2, L, tw_P 2 14 rt 2, A3, J, 57))) rfl ?_
        by_cases hc15 : x13 < (6 : Int32)
        · rw [if_pos hc15] at hj12
          refine tw_br (cd := tw_c151) rfl rfl rfl (by exact if_pos hc15) ?_
          refine tw_blk (cd := tw_c151) rfl 1 (c1 := (35, [some (.ref 0), none, none, some (.int x6), some (.int v1_4), some (.int v1_5), none], [.int 0], (I2, L, tw_P 2 14 rt 2, A3, J, 57))) rfl ?_
          have hj12s := Option.some.inj hj12
          subst hj12s
          exact K
        · rw [if_neg hc15] at hj12
          refine tw_br (cd := tw_c151) rfl rfl rfl (by exact if_neg hc15) ?_
          refine tw_blk (cd := tw_c151) rfl 2 (c1 := (35, [some (.ref 0), none, none, some (.int x6), some (.int v1_4), some (.int v1_5), none], [.int 1], (I2, L, tw_P 2 14 rt 2, A3, J, 57))) rfl ?_
          have hj12s := Option.some.inj hj12
          subst hj12s
          exact K
      · rw [if_neg hc10] at hj12
        refine tw_br (cd := tw_c151) rfl rfl rfl (by exact if_neg hc10) ?_
        refine tw_blk (cd := tw_c151) rfl 1 (c1 := (35, [some (.ref 0), none, none, some (.int x6), some (.int v1_4), some (.int v1_5), none], [.int 0], (I2, L, tw_P 2 14 rt 2, A3, J, 57))) rfl ?_
        have hj12s := Option.some.inj hj12
        subst hj12s
        exact K
theorem e_X9_three (I : Nat → Int32) (L : Nat → Int64) (A : Nat → Nat → Int32) (J : Nat → Nat → Int64) (rt : Nat) (sc : Nat) (a1 : Int32) (a2 : Int32) : ∀ r : (Int32 × (Nat → Int32) × (Nat → Nat → Int32) × Nat), g_X9_three I A sc a1 a2 = some r → tw_ME 151 (0, [some (.ref 0), some (.int a1), some (.int a2), none, none, none, none], [], (I, L, tw_P 2 14 rt sc, A, J, 57)) (some (.int r.1), ((r.2.1), L, tw_P 2 14 rt (r.2.2.2), (r.2.2.1), J, 57)) := by
  intro r h
  unfold g_X9_three at h
  refine tw_blk (cd := tw_c151) rfl 3 (c1 := (3, [some (.ref 0), some (.int a1), some (.int a2), none, none, none, none], [.int a2, .int a1, .ref 0], (I, L, tw_P 2 14 rt sc, A, J, 57))) rfl ?_
  obtain ⟨⟨c1, I2, A3⟩, hx4, h⟩ := tw_bindE h
  dsimp only at h
  refine tw_callE (cd := tw_c151) rfl rfl rfl rfl rfl (e_X9_mayNotLook I L A J rt sc a1 a2 _ hx4) (by exact Or.inl rfl) ?_
  by_cases hc5 : c1 = true
  · subst hc5
    rw [if_pos rfl] at h
    refine tw_br (cd := tw_c151) rfl rfl rfl (by exact rfl) ?_
    refine tw_blk (cd := tw_c151) rfl 1 (c1 := (6, [some (.ref 0), some (.int a1), some (.int a2), none, none, none, none], [.int (-1)], (I2, L, tw_P 2 14 rt sc, A3, J, 57))) rfl ?_
    have h := Option.some.inj h
    subst h
    exact tw_retE (cd := tw_c151) rfl rfl rfl rfl
  · have hc5 := Bool.eq_false_iff.mpr hc5
    subst hc5
    rw [if_neg (by decide)] at h
    refine tw_br (cd := tw_c151) rfl rfl rfl (by exact rfl) ?_
    refine tw_blk (cd := tw_c151) rfl 4 (c1 := (11, [some (.ref 0), some (.int a1), some (.int a2), none, none, none, none], [.int a2, .int a1, .ref 36], (I2, L, tw_P 2 14 rt 2, A3, J, 57))) rfl ?_
    obtain ⟨x6, hx7, h⟩ := tw_bindE h
    refine tw_callE (cd := tw_c151) rfl rfl rfl rfl rfl (e_X6_seers I2 L A3 J 2 14 rt a1 a2 _ hx7) (by exact Or.inl rfl) ?_
    refine tw_blk (cd := tw_c151) rfl 5 (c1 := (17, [some (.ref 0), some (.int a1), some (.int a2), some (.int x6), some (.int (-2)), some (.int 0), none], [], (I2, L, tw_P 2 14 rt 2, A3, J, 57))) rfl ?_
    obtain ⟨x8, hx24, h⟩ := tw_bindE h
    refine tw_forget (ls2 := [some (.ref 0), none, none, some (.int x6), some (.int (-2)), some (.int 0), none]) ⟨rfl, rfl, rfl, rfl, trivial⟩ ?_
    refine g_X9_three_L1_ok I L A J rt sc a1 a2 I2 A3 x6 _ 4096 (-2 : Int32) (0 : Int32) _ hx24 ?_
    refine tw_blk (cd := tw_c151) rfl 2 (c1 := (52, [some (.ref 0), none, none, none, some (.int x8), none, none], [.int x8, .ref 0], (I2, L, tw_P 2 14 rt 2, A3, J, 57))) rfl ?_
    obtain ⟨⟨x21, I22⟩, hx23, h⟩ := tw_letE h
    dsimp only at h
    refine tw_callE (cd := tw_c151) rfl rfl rfl rfl rfl (e_X9_grant I2 L A3 J 2 14 rt 2 x8 _ hx23) (by exact Or.inl rfl) ?_
    have h := Option.some.inj h
    subst h
    exact tw_retE (cd := tw_c151) rfl rfl rfl rfl
theorem g_X10_three_L1_ok (I : Nat → Int32) (L : Nat → Int64) (A : Nat → Nat → Int32) (J : Nat → Nat → Int64) (tw : Nat) (dr : Nat) (rt : Nat) (sc : Nat) (a1 : Int32) (a2 : Int32) (I1 : Nat → Int32) (c3 : Bool) (A6 : Nat → Nat → Int32) (x8 : Int32) (out : Option Value × tw_S) : ∀ (n : Nat) (v1_5 : Int32) (v1_6 : Int32) (ex : Int32), g_X10_three_L1 A6 x8 n v1_5 v1_6 = some ex → tw_ME 296 (58, [none, none, none, none, none, some (.int ex), none], [], (I1, L, tw_P tw dr rt sc, A6, J, 57)) out → tw_ME 296 (28, [some (.ref 44), none, none, none, some (.int x8), some (.int v1_5), some (.int v1_6)], [], (I1, L, tw_P tw dr rt sc, A6, J, 57)) out := by
  intro n
  induction n with
  | zero =>
    intro v1_5 v1_6 ex h _
    cases h
  | succ n ih =>
    intro v1_5 v1_6 ex h K
    rw [g_X10_three_L1] at h
    refine tw_blk (cd := tw_c296) rfl 1 (c1 := (29, [some (.ref 44), none, none, none, some (.int x8), some (.int v1_5), some (.int v1_6)], [.int v1_6], (I1, L, tw_P tw dr rt sc, A6, J, 57))) rfl ?_
    refine tw_blk (cd := tw_c296) rfl 4 (c1 := (33, [some (.ref 44), none, none, none, some (.int x8), some (.int v1_5), some (.int v1_6)], [.int 3, .ref 47, .int 1, .int v1_6], (I1, L, tw_P tw dr rt sc, A6, J, 57))) rfl ?_
    obtain ⟨x12, hx11, h⟩ := tw_bindE h
    refine tw_iald (cd := tw_c296) (N := 241) rfl rfl rfl rfl hx11 ?_
    refine tw_blk (cd := tw_c296) rfl 1 (c1 := (35, [some (.ref 44), none, none, none, some (.int x8), some (.int v1_5), some (.int v1_6)], [.int ((1 : Int32) <<< (x12 &&& 31)), .int v1_6], (I1, L, tw_P tw dr rt sc, A6, J, 57))) rfl ?_
    by_cases hc13 : ((1 : Int32) <<< (x12 &&& 31)) ≤ v1_6
    · rw [if_pos hc13] at h
      refine tw_br (cd := tw_c296) rfl rfl rfl (by exact if_pos hc13) ?_
      refine tw_forget (ls2 := [none, none, none, none, none, some (.int v1_5), none]) ⟨rfl, trivial⟩ ?_
      have h := Option.some.inj h
      subst h
      exact K
    · rw [if_neg hc13] at h
      refine tw_br (cd := tw_c296) rfl rfl rfl (by exact if_neg hc13) ?_
      refine tw_blk (cd := tw_c296) rfl 5 (c1 := (41, [some (.ref 44), none, none, none, some (.int x8), some (.int v1_5), some (.int v1_6)], [.int (v1_6 &&& (x8 ^^^ (-1 : Int32)))], (I1, L, tw_P tw dr rt sc, A6, J, 57))) rfl ?_
      obtain ⟨x15, hj16, h⟩ := tw_bindE h
      have K : tw_ME 296 (56, [some (.ref 44), none, none, none, some (.int x8), some (.int x15), some (.int v1_6)], [], (I1, L, tw_P tw dr rt sc, A6, J, 57)) out := by
        refine tw_blk (cd := tw_c296) rfl 2 (c1 := (28, [some (.ref 44), none, none, none, some (.int x8), some (.int x15), some (.int (v1_6 + (1 : Int32)))], [], (I1, L, tw_P tw dr rt sc, A6, J, 57))) rfl ?_
        exact ih x15 (v1_6 + (1 : Int32)) _ h K
      by_cases hc14 : (v1_6 &&& (x8 ^^^ (-1 : Int32))) = 0
      · rw [if_pos hc14] at hj16
        refine tw_br (cd := tw_c296) rfl rfl rfl (by exact if_pos hc14) ?_
        refine tw_blk (cd := tw_c296) rfl 2 (c1 := (44, [some (.ref 44), none, none, none, some (.int x8), some (.int v1_5), some (.int v1_6)], [.int v1_6, .ref 44], (I1, L, tw_P tw dr rt sc, A6, J, 57))) rfl ?_
        obtain ⟨x17, hx18, hj16⟩ := tw_bindE hj16
        refine tw_callE (cd := tw_c296) rfl rfl rfl rfl rfl (e_X10_eyesOf I1 L A6 J tw dr rt sc v1_6 _ hx18) (by exact Or.inl rfl) ?_
        refine tw_blk (cd := tw_c296) rfl 1 (c1 := (46, [some (.ref 44), none, none, none, some (.int x8), some (.int v1_5), some (.int v1_6)], [.int 6, .int x17], (I1, L, tw_P tw dr rt sc, A6, J, 57))) rfl ?_
        by_cases hc19 : x17 < (6 : Int32)
        · rw [if_pos hc19] at hj16
          refine tw_br (cd := tw_c296) rfl rfl rfl (by exact if_pos hc19) ?_
          have hj16s := Option.some.inj hj16
          subst hj16s
          exact K
        · rw [if_neg hc19] at hj16
          refine tw_br (cd := tw_c296) rfl rfl rfl (by exact if_neg hc19) ?_
          refine tw_blk (cd := tw_c296) rfl 1 (c1 := (48, [some (.ref 44), none, none, none, some (.int x8), some (.int v1_5), some (.int v1_6)], [.int v1_5], (I1, L, tw_P tw dr rt sc, A6, J, 57))) rfl ?_
          by_cases hc20 : v1_5 < 0
          · rw [if_pos hc20] at hj16
            refine tw_br (cd := tw_c296) rfl rfl rfl (by exact if_pos hc20) ?_
            refine tw_blk (cd := tw_c296) rfl 2 (c1 := (56, [some (.ref 44), none, none, none, some (.int x8), some (.int v1_6), some (.int v1_6)], [], (I1, L, tw_P tw dr rt sc, A6, J, 57))) rfl ?_
            have hj16s := Option.some.inj hj16
            subst hj16s
            exact K
          · rw [if_neg hc20] at hj16
            refine tw_br (cd := tw_c296) rfl rfl rfl (by exact if_neg hc20) ?_
            refine tw_blk (cd := tw_c296) rfl 1 (c1 := (50, [some (.ref 44), none, none, none, some (.int x8), some (.int v1_5), some (.int v1_6)], [.int v1_6], (I1, L, tw_P tw dr rt sc, A6, J, 57))) rfl ?_
            obtain ⟨x21, hx22, hj16⟩ := tw_bindE hj16
            refine tw_callE (cd := tw_c296) rfl rfl rfl rfl rfl (e_X10_ones I1 L A6 J tw dr rt sc v1_6 _ hx22) (by exact Or.inl rfl) ?_
            refine tw_blk (cd := tw_c296) rfl 1 (c1 := (52, [some (.ref 44), none, none, none, some (.int x8), some (.int v1_5), some (.int v1_6)], [.int v1_5, .int x21], (I1, L, tw_P tw dr rt sc, A6, J, 57))) rfl ?_
            obtain ⟨x23, hx24, hj16⟩ := tw_bindE hj16
            refine tw_callE (cd := tw_c296) rfl rfl rfl rfl rfl (e_X10_ones I1 L A6 J tw dr rt sc v1_5 _ hx24) (by exact Or.inl rfl) ?_
            by_cases hc25 : x23 ≤ x21
            · rw [if_pos hc25] at hj16
              refine tw_br (cd := tw_c296) rfl rfl rfl (by exact if_pos hc25) ?_
              have hj16s := Option.some.inj hj16
              subst hj16s
              exact K
            · rw [if_neg hc25] at hj16
              refine tw_br (cd := tw_c296) rfl rfl rfl (by exact if_neg hc25) ?_
              refine tw_blk (cd := tw_c296) rfl 2 (c1 := (56, [some (.ref 44), none, none, none, some (.int x8), some (.int v1_6), some (.int v1_6)], [], (I1, L, tw_P tw dr rt sc, A6, J, 57))) rfl ?_
              have hj16s := Option.some.inj hj16
              subst hj16s
              exact K
      · rw [if_neg hc14] at hj16
        refine tw_br (cd := tw_c296) rfl rfl rfl (by exact if_neg hc14) ?_
        have hj16s := Option.some.inj hj16
        subst hj16s
        exact K
theorem e_X10_three (I : Nat → Int32) (L : Nat → Int64) (A : Nat → Nat → Int32) (J : Nat → Nat → Int64) (tw dr : Nat) (rt : Nat) (sc : Nat) (a1 : Int32) (a2 : Int32) : ∀ r : (Int32 × (Nat → Int32) × (Nat → Nat → Int32)), g_X10_three I A a1 a2 = some r → tw_ME 296 (0, [some (.ref 44), some (.int a1), some (.int a2), none, none, none, none], [], (I, L, tw_P tw dr rt sc, A, J, 57)) (some (.int r.1), ((r.2.1), L, tw_P tw dr rt sc, (r.2.2), J, 57)) := by
  intro r h
  unfold g_X10_three at h
  refine tw_blk (cd := tw_c296) rfl 1 (c1 := (1, [some (.ref 44), some (.int a1), some (.int a2), none, none, none, none], [.ref 44], (I, L, tw_P tw dr rt sc, A, J, 57))) rfl ?_
  obtain ⟨I1, hx2, h⟩ := tw_letE h
  refine tw_callE (cd := tw_c296) rfl rfl rfl rfl rfl (e_X10_good I L A J tw dr rt sc _ hx2) (by exact Or.inl rfl) ?_
  refine tw_blk (cd := tw_c296) rfl 3 (c1 := (5, [some (.ref 44), some (.int a1), some (.int a2), none, none, none, none], [.int a1, .ref 44, .ref 44], (I1, L, tw_P tw dr rt sc, A, J, 57))) rfl ?_
  obtain ⟨c3, hx4, h⟩ := tw_bindE h
  refine tw_callE (cd := tw_c296) rfl rfl rfl rfl rfl (e_X10_isPlace I1 L A J tw dr rt sc a1 _ hx4) (by exact Or.inl rfl) ?_
  refine tw_blk (cd := tw_c296) rfl 2 (c1 := (8, [some (.ref 44), some (.int a1), some (.int a2), none, none, none, none], [.int a2, .ref 44, .int (tw_b c3), .ref 44], (I1, L, tw_P tw dr rt sc, A, J, 57))) rfl ?_
  refine tw_callE (cd := tw_c296) rfl rfl rfl rfl rfl (e_X10_isMinute I1 L A J tw dr rt sc a2 _ rfl) (by exact Or.inl rfl) ?_
  refine tw_callE (cd := tw_c296) rfl rfl rfl rfl rfl (e_X10_why I1 L A J tw dr rt sc (tw_b c3) (tw_b (g_X10_isMinute a2)) _ rfl) (by exact Or.inl rfl) ?_
  refine tw_blk (cd := tw_c296) rfl 2 (c1 := (12, [some (.ref 44), some (.int a1), some (.int a2), some (.int (g_X10_why (tw_b c3) (tw_b (g_X10_isMinute a2)))), none, none, none], [.int (g_X10_why (tw_b c3) (tw_b (g_X10_isMinute a2)))], (I1, L, tw_P tw dr rt sc, A, J, 57))) rfl ?_
  by_cases hc5 : (g_X10_why (tw_b c3) (tw_b (g_X10_isMinute a2))) = 0
  · rw [if_pos hc5] at h
    refine tw_br (cd := tw_c296) rfl rfl rfl (by exact if_pos hc5) ?_
    refine tw_blk (cd := tw_c296) rfl 1 (c1 := (18, [some (.ref 44), some (.int a1), some (.int a2), some (.int (g_X10_why (tw_b c3) (tw_b (g_X10_isMinute a2)))), none, none, none], [.ref 44], (I1, L, tw_P tw dr rt sc, A, J, 57))) rfl ?_
    obtain ⟨A6, hx7, h⟩ := tw_bindE h
    refine tw_callE (cd := tw_c296) rfl rfl rfl rfl rfl (e_X10_asNow I1 L A J tw dr rt sc _ hx7) (by exact Or.inl rfl) ?_
    refine tw_blk (cd := tw_c296) rfl 3 (c1 := (22, [some (.ref 44), some (.int a1), some (.int a2), some (.int (g_X10_why (tw_b c3) (tw_b (g_X10_isMinute a2)))), none, none, none], [.int a2, .int a1, .ref 44], (I1, L, tw_P tw dr rt sc, A6, J, 57))) rfl ?_
    obtain ⟨x8, hx9, h⟩ := tw_bindE h
    refine tw_callE (cd := tw_c296) rfl rfl rfl rfl rfl (e_X10_watchersOf I1 L A6 J tw dr rt sc a1 a2 _ hx9) (by exact Or.inl rfl) ?_
    refine tw_blk (cd := tw_c296) rfl 5 (c1 := (28, [some (.ref 44), some (.int a1), some (.int a2), some (.int (g_X10_why (tw_b c3) (tw_b (g_X10_isMinute a2)))), some (.int x8), some (.int (-2)), some (.int 0)], [], (I1, L, tw_P tw dr rt sc, A6, J, 57))) rfl ?_
    obtain ⟨x10, hx26, h⟩ := tw_bindE h
    refine tw_forget (ls2 := [some (.ref 44), none, none, none, some (.int x8), some (.int (-2)), some (.int 0)]) ⟨rfl, rfl, rfl, rfl, trivial⟩ ?_
    refine g_X10_three_L1_ok I L A J tw dr rt sc a1 a2 I1 c3 A6 x8 _ 4096 (-2 : Int32) (0 : Int32) _ hx26 ?_
    refine tw_blk (cd := tw_c296) rfl 1 (c1 := (59, [none, none, none, none, none, some (.int x10), none], [.int x10], (I1, L, tw_P tw dr rt sc, A6, J, 57))) rfl ?_
    have h := Option.some.inj h
    subst h
    exact tw_retE (cd := tw_c296) rfl rfl rfl rfl
  · rw [if_neg hc5] at h
    refine tw_br (cd := tw_c296) rfl rfl rfl (by exact if_neg hc5) ?_
    refine tw_blk (cd := tw_c296) rfl 2 (c1 := (15, [some (.ref 44), some (.int a1), some (.int a2), some (.int (g_X10_why (tw_b c3) (tw_b (g_X10_isMinute a2)))), none, none, none], [.int (g_X10_why (tw_b c3) (tw_b (g_X10_isMinute a2))), .ref 44], (I1, L, tw_P tw dr rt sc, A, J, 57))) rfl ?_
    obtain ⟨⟨x27, I28⟩, hx29, h⟩ := tw_letE h
    dsimp only at h
    refine tw_callE (cd := tw_c296) rfl rfl rfl rfl rfl (e_X10_no I1 L A J tw dr rt sc (g_X10_why (tw_b c3) (tw_b (g_X10_isMinute a2))) _ hx29) (by exact Or.inl rfl) ?_
    have h := Option.some.inj h
    subst h
    exact tw_retE (cd := tw_c296) rfl rfl rfl rfl
