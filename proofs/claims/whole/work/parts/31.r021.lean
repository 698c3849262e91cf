/-! the machine does what the functions say -/
theorem e_X9_trouble (I : Nat → Int32) (L : Nat → Int64) (A : Nat → Nat → Int32) (J : Nat → Nat → Int64) (rt : Nat) (sc : Nat) : ∀ r : Int32, g_X9_trouble I = r → tw_ME 172 (0, [some (.ref 0)], [], (I, L, tw_P 2 14 rt sc, A, J, 57)) (some (.int r), (I, L, tw_P 2 14 rt sc, A, J, 57)) := by
  intro r h
  unfold g_X9_trouble at h
  refine tw_blk (cd := tw_c172) rfl 2 (c1 := (2, [some (.ref 0)], [.int (I 12)], (I, L, tw_P 2 14 rt sc, A, J, 57))) rfl ?_
  subst h
  exact tw_retE (cd := tw_c172) rfl rfl rfl rfl
theorem e_X10_trouble (I : Nat → Int32) (L : Nat → Int64) (A : Nat → Nat → Int32) (J : Nat → Nat → Int64) (rt : Nat) (sc : Nat) : ∀ r : (Int32 × (Nat → Int32)), g_X10_trouble I = r → tw_ME 320 (0, [some (.ref 44)], [], (I, L, tw_P 2 14 rt sc, A, J, 57)) (some (.int r.1), ((r.2), L, tw_P 2 14 rt sc, A, J, 57)) := by
  intro r h
  unfold g_X10_trouble at h
  refine tw_blk (cd := tw_c320) rfl 5 (c1 := (5, [some (.ref 44)], [.int (I 4411)], ((upd I 4400 (0 : Int32)), L, tw_P 2 14 rt sc, A, J, 57))) rfl ?_
  subst h
  exact tw_retE (cd := tw_c320) rfl rfl rfl rfl
