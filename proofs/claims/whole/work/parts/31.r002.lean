/-! the machine does what the functions say -/
theorem e_X4_isAnotherOne (I : Nat → Int32) (L : Nat → Int64) (A : Nat → Nat → Int32) (J : Nat → Nat → Int64) (sc : Nat) : ∀ r : (Bool × (Nat → Int32)), g_X4_isAnotherOne I A = r → tw_ME 63 (0, [some (.ref 26)], [], (I, L, tw_P 2 14 14 sc, A, J, 57)) (some (.int (tw_b r.1)), ((r.2), L, tw_P 2 14 14 sc, A, J, 57)) := by
  intro r h
  unfold g_X4_isAnotherOne at h
  refine tw_blk (cd := tw_c63) rfl 3 (c1 := (3, [some (.ref 26)], [.int 0, .ref 26, .ref 26], (I, L, tw_P 2 14 14 sc, A, J, 57))) rfl ?_
  refine tw_callE (cd := tw_c63) rfl rfl rfl rfl rfl (e_X4_readAt I L A J sc (0 : Int32) _ rfl) (Or.inl rfl) ?_
  refine tw_blk (cd := tw_c63) rfl 2 (c1 := (6, [some (.ref 26)], [.int 1, .ref 26, .int (g_X4_readAt A (0 : Int32)), .ref 26], (I, L, tw_P 2 14 14 sc, A, J, 57))) rfl ?_
  refine tw_callE (cd := tw_c63) rfl rfl rfl rfl rfl (e_X4_readAt I L A J sc (1 : Int32) _ rfl) (Or.inl rfl) ?_
  obtain ⟨x2, hj3, h⟩ := tw_letE h
  have K : tw_ME 63 (11, [none], [.int x2, .ref 26], (I, L, tw_P 2 14 14 sc, A, J, 57)) (some (.int (tw_b r.1)), ((r.2), L, tw_P 2 14 14 sc, A, J, 57)) := by
    obtain ⟨⟨c4, I5⟩, hx6, h⟩ := tw_letE h
    dsimp only at h
    refine tw_callE (cd := tw_c63) rfl rfl rfl rfl rfl (e_X4_isNew I L A J sc x2 _ hx6) (Or.inl rfl) ?_
    subst h
    exact tw_retZ (cd := tw_c63) (b := c4) rfl rfl rfl rfl
  by_cases hc1 : (g_X4_readAt A (0 : Int32)) = (g_X4_readAt A (1 : Int32))
  · rw [if_pos hc1] at hj3
    refine tw_br (cd := tw_c63) rfl rfl rfl (by exact if_pos hc1) ?_
    refine tw_blk (cd := tw_c63) rfl 1 (c1 := (11, [some (.ref 26)], [.int 0, .ref 26], (I, L, tw_P 2 14 14 sc, A, J, 57))) rfl ?_
    refine tw_forget (ls2 := [none]) trivial ?_
    subst hj3
    exact K
  · rw [if_neg hc1] at hj3
    refine tw_br (cd := tw_c63) rfl rfl rfl (by exact if_neg hc1) ?_
    refine tw_blk (cd := tw_c63) rfl 2 (c1 := (11, [some (.ref 26)], [.int 1, .ref 26], (I, L, tw_P 2 14 14 sc, A, J, 57))) rfl ?_
    refine tw_forget (ls2 := [none]) trivial ?_
    subst hj3
    exact K
