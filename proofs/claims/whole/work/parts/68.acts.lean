/-! MATHEMATICS, 19: acts: what is kept -/
def tm_sh (U : Nat) : Nat := if U = 16 then 1 else 0
def tm_U0 (U : Nat) : Nat := U - tm_sh U
theorem tm_U0_le {U : Nat} (h : U ≤ 16) : tm_U0 U ≤ 15 ∧ tm_U0 U + tm_sh U = U := by
  unfold tm_U0 tm_sh
  split <;> omega
/-- how a kept row came about -/
def tm_kp9 (I : Nat → Int32) (A A1 : Nat → Nat → Int32) (U : Nat) : Prop := (∀ i, i < tm_U0 U → ∀ d, d < 3 → A1 34 (3 * i + d) = A 34 (3 * (i + tm_sh U) + d)) ∧ A1 34 (3 * tm_U0 U) = I 3300 ∧ A1 34 (3 * tm_U0 U + 1) = I 3301 ∧ A1 34 (3 * tm_U0 U + 2) = I 3302
def tm_kp10 (A A1 : Nat → Nat → Int32) (U : Nat) : Prop := (∀ i, i < tm_U0 U → ∀ j, j < 8 → A1 50 (8 * i + j) = A 50 (8 * (i + tm_sh U) + j)) ∧ ∀ j, j < 8 → A1 50 (8 * tm_U0 U + j) = A 49 j
theorem tm_wr {f : Nat → Int32} {N u : Nat} (hu : 3 * u + 2 < N) (hN : N < 2 ^ 31) (x y z : Int32) : ∃ g, tw_put0 N (tw_put0 N (tw_put0 N f (nI u * (3 : Int32)) x) ((nI u * (3 : Int32)) + (1 : Int32)) y) ((nI u * (3 : Int32)) + (2 : Int32)) z = g ∧ g (3 * u) = x ∧ g (3 * u + 1) = y ∧ g (3 * u + 2) = z ∧ ∀ j, j < 3 * u ∨ 3 * u + 2 < j → g j = f j := by
  have e0 : nI u * (3 : Int32) = nI (3 * u) := by rw [show (3 : Int32) = nI 3 from rfl, pk_mul, Nat.mul_comm]
  rw [e0, show nI (3 * u) + (1 : Int32) = nI (3 * u + 1) from nI_add _ 1, show nI (3 * u) + (2 : Int32) = nI (3 * u + 2) from nI_add _ 2, tm_put (by omega) hN, tm_put (by omega) hN, tm_put (by omega) hN]
  refine ⟨_, rfl, ?_, ?_, ?_, fun j hj => ?_⟩
  · rw [tm_un _ (by omega), tm_un _ (by omega), tm_us]
  · rw [tm_un _ (by omega), tm_us]
  · rw [tm_us]
  · rw [tm_un _ (by omega), tm_un _ (by omega), tm_un _ (by omega)]
theorem tm_keep9 {I : Nat → Int32} (A : Nat → Nat → Int32) {U : Nat} (hU : U ≤ 16) (hI : I 3304 = nI U) : ∃ I1 A1, g_X0_keep I A = (I1, A1) ∧ tm_kp9 I A A1 U ∧ I1 3304 = nI (tm_U0 U + 1) ∧ (∀ k, k ≠ 3304 → I1 k = I k) ∧ ∀ c, c ≠ 34 → A1 c = A c := by
  have hu := tm_U0_le hU
  unfold g_X0_keep g_X0_write_33_34
  dsimp only [tw_let]
  rw [hI]
  by_cases g : U = 16
  · have e1 : tm_sh U = 1 := if_pos g
    have e0 : tm_U0 U = 15 := by unfold tm_U0; omega
    rw [if_neg (by rw [g]; decide)]
    dsimp only
    rw [tm_us, tm_un _ (by decide), tm_un _ (by decide), tm_un _ (by decide), tm_vs]
    obtain ⟨w, w0, w1, w2, w3, w4⟩ := tm_wr (f := va_cpy (A 34) (A 34) 3 0 45) (u := 15) (N := 48) (by decide) (by decide) (I 3300) (I 3301) (I 3302)
    rw [show (15 : Int32) = nI 15 from rfl, w0]
    refine ⟨_, _, rfl, ⟨fun i hi d hd => ?_, ?_, ?_, ?_⟩, ?_, fun k hk => ?_, fun c hc => ?_⟩
    · rw [tm_vs, w4 _ (by omega), pk_cpy_in (Nat.zero_le _) (by omega)]
      exact congrArg (A 34) (by omega)
    · rw [tm_vs, e0]
      exact w1
    · rw [tm_vs, e0]
      exact w2
    · rw [tm_vs, e0]
      exact w3
    · rw [tm_us, e0]
      rfl
    · rw [tm_un _ hk, tm_un _ hk]
    · rw [tm_vn _ hc, tm_vn _ hc, tm_vn _ hc, tm_vn _ hc]
  · have e1 : tm_sh U = 0 := if_neg g
    have e0 : tm_U0 U = U := by unfold tm_U0; omega
    rw [if_pos (show nI U < (16 : Int32) from nI_lt (b := 16) (by omega) (by decide))]
    dsimp only
    rw [hI]
    obtain ⟨w, w0, w1, w2, w3, w4⟩ := tm_wr (f := A 34) (u := U) (N := 48) (by omega) (by decide) (I 3300) (I 3301) (I 3302)
    rw [w0]
    refine ⟨_, _, rfl, ⟨fun i hi d hd => ?_, ?_, ?_, ?_⟩, ?_, fun k hk => ?_, fun c hc => ?_⟩
    · rw [tm_vs, w4 _ (by omega), e1]
      rfl
    · rw [tm_vs, e0]
      exact w1
    · rw [tm_vs, e0]
      exact w2
    · rw [tm_vs, e0]
      exact w3
    · rw [tm_us, e0]
      exact (nI_succ U).symm
    · rw [tm_un _ hk]
    · rw [tm_vn _ hc, tm_vn _ hc, tm_vn _ hc]
theorem tm_note10 {I : Nat → Int32} (A : Nat → Nat → Int32) {U : Nat} (hU : U ≤ 16) (hI : I 4420 = nI U) : ∃ I1 A1, g_X10_note I A = some (I1, A1) ∧ tm_kp10 A A1 U ∧ I1 4420 = nI (tm_U0 U + 1) ∧ (∀ k, k ≠ 4420 → I1 k = I k) ∧ ∀ c, c ≠ 50 → A1 c = A c := by
  have hu := tm_U0_le hU
  have L : g_X10_note_L1 4096 (0 : Int32) A = some (va_up A 50 (fun j => if j < 120 then A 50 (j + 8) else A 50 j)) := by
    have e : va_up A 50 (fun j => if j < 0 then A 50 (j + 8) else A 50 j) = A := by
      funext c
      by_cases hc : c = 50
      · subst hc
        rw [tm_vs]
        funext j
        rw [if_neg (Nat.not_lt_zero j)]
      · rw [tm_vn _ hc]
    have L := tm_lp (fun n i (v : Nat → Nat → Int32) => g_X10_note_L1 n i v) 120 0 (fun i => va_up A 50 (fun j => if j < i then A 50 (j + 8) else A 50 j)) (some (va_up A 50 (fun j => if j < 120 then A 50 (j + 8) else A 50 j))) (by decide) ?_ ?_ (m := 4096) (by decide)
    · rw [e] at L
      exact L
    · intro n
      show g_X10_note_L1 (n + 1) (nI 120) _ = _
      rw [g_X10_note_L1]
      exact if_pos (by decide)
    · intro n i _ hi
      show g_X10_note_L1 (n + 1) (nI i) _ = g_X10_note_L1 n (nI (i + 1)) _
      rw [g_X10_note_L1, if_neg (show ¬ (120 : Int32) ≤ nI i from nI_ge (b := 120) hi (by decide)), tm_vs, show nI i + (8 : Int32) = nI (i + 8) from nI_add i 8, tm_ld (by omega) (by decide), Option.bind_some, tm_st (by omega) (by decide), Option.bind_some, bx_uu, ← nI_succ]
      congr 2
      funext j
      by_cases g : j = i
      · subst g
        rw [tm_us, if_neg (by omega), if_pos (by omega)]
      · rw [tm_un _ g]
        by_cases g2 : j < i
        · rw [if_pos g2, if_pos (by omega)]
        · rw [if_neg g2, if_neg (by omega)]
  unfold g_X10_note
  by_cases g : U = 16
  · have e1 : tm_sh U = 1 := if_pos g
    have e0 : tm_U0 U = 15 := by unfold tm_U0; omega
    rw [hI, g, if_pos (by decide), L, Option.bind_some, Option.bind_some]
    dsimp only
    rw [tm_us, show (8 : Int32) * (nI 16 - 1) = nI 120 by decide, tm_vs, tm_vn _ (by decide), show tw_copy0 8 (A 49) 128 (fun j => if j < 120 then A 50 (j + 8) else A 50 j) (0 : Int32) (nI 120) (8 : Int32) = _ from tm_copy (a := 0) (d := 120) (n := 8) (by decide) (by decide) (by decide) (by decide) (by decide), Option.bind_some]
    refine ⟨_, _, rfl, ⟨fun i hi j hj => ?_, fun j hj => ?_⟩, ?_, fun k hk => ?_, fun c hc => ?_⟩
    · have e16 : tm_sh 16 = 1 := rfl
      have e15 : tm_U0 16 = 15 := rfl
      rw [e15] at hi
      rw [tm_vs, if_neg (by omega), if_pos (by omega), e16]
      exact congrArg (A 50) (by omega)
    · have e15 : tm_U0 16 = 15 := rfl
      rw [e15, tm_vs, if_pos (by omega)]
      exact congrArg (A 49) (by omega)
    · rw [tm_us]
      decide
    · rw [tm_un _ hk, tm_un _ hk]
    · rw [tm_vn _ hc, tm_vn _ hc]
  · have e1 : tm_sh U = 0 := if_neg g
    have e0 : tm_U0 U = U := by unfold tm_U0; omega
    rw [hI, if_neg (show ¬ nI U = (16 : Int32) from fun q => g ((nI_eq (b := 16) (by omega) (by decide)).mp q)), Option.bind_some]
    dsimp only
    rw [hI, show (8 : Int32) * nI U = nI (8 * U) from pk_mul 8 U, show tw_copy0 8 (A 49) 128 (A 50) (0 : Int32) (nI (8 * U)) (8 : Int32) = _ from tm_copy (a := 0) (d := 8 * U) (n := 8) (by decide) (by omega) (by decide) (by decide) (by decide), Option.bind_some]
    refine ⟨_, _, rfl, ⟨fun i hi j hj => ?_, fun j hj => ?_⟩, ?_, fun k hk => ?_, fun c hc => ?_⟩
    · rw [tm_vs, if_neg (by omega), e1]
      rfl
    · rw [tm_vs, e0, if_pos (by omega)]
      exact congrArg (A 49) (by omega)
    · rw [tm_us, e0]
      exact (nI_succ U).symm
    · rw [tm_un _ hk]
    · rw [tm_vn _ hc]
/-- an act: what was is kept, the acts become others -/
theorem tm_act {I I2 : Nat → Int32} {A A2 : Nat → Nat → Int32} {T s s2 : Nat → Nat} {U V t : Nat} (hP : tm_P I A T s U V t) (hT : tm_Tr I) (hS : tm_Sd I) (h1 : ¬ T 1 = 0) (hr : tm_row T (I2 3300) (I2 3301) (I2 3302) (A2 49) s2) (k9 : tm_kp9 I A A2 U) (k10 : tm_kp10 A A2 U) (u9 : I2 3304 = nI (tm_U0 U + 1)) (u10 : I2 4420 = nI (tm_U0 U + 1)) (hk : ∀ k, ((k < 3600 ∧ k ≠ 12 ∧ k ≠ 3300 ∧ k ≠ 3301 ∧ k ≠ 3302 ∧ k ≠ 3304) ∨ k = 3907 ∨ (4400 < k ∧ k < 4425 ∧ k ≠ 4411 ∧ k ≠ 4420)) → I2 k = I k) (hc : ∀ c, (c < 37 ∧ c ≠ 34) ∨ (43 < c ∧ c < 52 ∧ c ≠ 49 ∧ c ≠ 50) → A2 c = A c) (ht : I2 12 = I2 4411) (h4 : I2 12 ≠ 4) : tm_Inv I2 A2 := by
  obtain ⟨p1, p2, p3, p4, p5, ⟨pU, _, _, _, pr⟩, p7, p8⟩ := hP
  have hu := tm_U0_le pU
  refine ⟨⟨T, s2, tm_U0 U + 1, V, t, p1, tm_R_of p2 (hc 47 (by decide)), tm_C_of p3 (fun c c1 c2 => hc c (by omega)), tm_H_of p4 (hk 4414 (by decide)), hr, ⟨by omega, fun q => absurd q h1, u9, u10, fun i hi => ?_⟩, ?_, ?_⟩, ⟨ht, ?_, fun q => absurd q h4⟩, ?_⟩
  · by_cases g : i < tm_U0 U
    · obtain ⟨w, w1⟩ := pr (i + tm_sh U) (by omega)
      refine ⟨w, ?_⟩
      have a0 := k9.1 i g 0 (by decide)
      have a1 := k9.1 i g 1 (by decide)
      have a2 := k9.1 i g 2 (by decide)
      rw [Nat.add_zero, Nat.add_zero] at a0
      rw [a0, a1, a2]
      refine ⟨fun p hp => ?_, ?_, w1.2.2.1, w1.2.2.2.1, w1.2.2.2.2.1, ?_⟩
      · dsimp only
        rw [k10.1 i g p (by omega)]
        exact w1.1 p hp
      · dsimp only
        rw [k10.1 i g 6 (by decide)]
        exact w1.2.1
      · dsimp only
        rw [k10.1 i g 7 (by decide)]
        exact w1.2.2.2.2.2
    · have e : i = tm_U0 U := by omega
      subst e
      refine ⟨s, ?_⟩
      rw [k9.2.1, k9.2.2.1, k9.2.2.2]
      refine ⟨fun p hp => ?_, ?_, p5.2.2.1, p5.2.2.2.1, p5.2.2.2.2.1, ?_⟩
      · dsimp only
        rw [k10.2 p (by omega)]
        exact p5.1 p hp
      · dsimp only
        rw [k10.2 6 (by decide)]
        exact p5.2.1
      · dsimp only
        rw [k10.2 7 (by decide)]
        exact p5.2.2.2.2.2
  · rw [hk 3306 (by decide), hk 4421 (by decide), hc 35 (by decide), hc 51 (by decide)]
    exact p7
  · rw [hk 1 (by decide), hk 4402 (by decide), hc 45 (by decide), hc 1 (by decide)]
    exact p8
  · rw [hk 10 (by decide), hk 4409 (by decide)]
    exact hT.2.1
  · obtain ⟨z, z1, z2⟩ := hS
    exact ⟨z, z1, by rw [hk 3907 (by decide)]; exact z2⟩
