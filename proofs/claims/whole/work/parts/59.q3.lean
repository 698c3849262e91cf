/-! MATHEMATICS, 10: results of runs; the calls that look, 3 -/
theorem tm_run_lt {Sn : Nat → Nat} {ey : Nat → Nat} {g nd : Int32} {b : Nat → Bool} {n : Nat} (hS : ∀ m, Sn m < 2 ^ n) : ∀ (k m saw pre boys : Nat) (lead : Int32), saw < 2 ^ n → (tm_run Sn ey g nd b k m saw pre boys lead).2.2.2.1 < 2 ^ n
  | 0, _, _, _, _, _, h => h
  | k + 1, m, saw, pre, boys, lead, h => by
    have h2 := tm_dn_or h (hS m)
    rw [tm_run]
    split
    · exact h2
    · split
      · exact tm_run_lt hS k _ _ _ _ _ h2
      · exact h2
theorem tm_run_how {Sn : Nat → Nat} {ey : Nat → Nat} {g nd : Int32} {b : Nat → Bool} : ∀ (k m saw pre boys : Nat) (lead : Int32), (tm_run Sn ey g nd b k m saw pre boys lead).1 = 0 ∨ (tm_run Sn ey g nd b k m saw pre boys lead).1 = 1 ∨ (tm_run Sn ey g nd b k m saw pre boys lead).1 = 2 ∨ (tm_run Sn ey g nd b k m saw pre boys lead).1 = -2
  | 0, _, _, _, _, _ => Or.inr (Or.inr (Or.inr rfl))
  | k + 1, m, saw, pre, boys, lead => by
    rw [tm_run]
    split
    · exact Or.inl rfl
    · split
      · exact tm_run_how k _ _ _ _ _
      · dsimp only
        split
        · exact Or.inr (Or.inr (Or.inl rfl))
        · exact Or.inr (Or.inl rfl)
/-- the minute: told where it ended, else -2 -/
theorem tm_run_at {Sn : Nat → Nat} {ey : Nat → Nat} {g nd : Int32} {b : Nat → Bool} : ∀ (k m saw pre boys : Nat) (lead : Int32), ((tm_run Sn ey g nd b k m saw pre boys lead).1 = -2 ∧ (tm_run Sn ey g nd b k m saw pre boys lead).2.1 = -2) ∨ ((tm_run Sn ey g nd b k m saw pre boys lead).1 ≠ -2 ∧ ∃ e, m ≤ e ∧ e < m + k ∧ (tm_run Sn ey g nd b k m saw pre boys lead).2.1 = nI e)
  | 0, _, _, _, _, _ => Or.inl ⟨rfl, rfl⟩
  | k + 1, m, saw, pre, boys, lead => by
    rw [tm_run]
    split
    · exact Or.inr ⟨show (0 : Int32) ≠ -2 by decide, m, Nat.le_refl _, by omega, rfl⟩
    · split
      · rcases tm_run_at (Sn := Sn) (ey := ey) (g := g) (nd := nd) (b := b) k (m + 1) (saw ||| Sn m) saw (boys + (b m).toNat) (lead + g) with h | ⟨h1, e, h2, h3, h4⟩
        · exact Or.inl h
        · exact Or.inr ⟨h1, e, by omega, by omega, h4⟩
      · refine Or.inr ⟨?_, m, Nat.le_refl _, by omega, rfl⟩
        dsimp only
        split <;> decide
def tm_won (r : tm_Res) : Bool := decide (0 < r.1)
theorem tm_won9 {I1 : Nat → Int32} {r : tm_Res} (x : tm_X9 I1 r) (h : r.1 = 0 ∨ r.1 = 1 ∨ r.1 = 2 ∨ r.1 = -2) : g_X1_isWon I1 = tm_won r := by
  unfold g_X1_isWon tm_won
  rw [x.1]
  rcases h with h | h | h | h <;> rw [h] <;> decide
theorem tm_won10 {α : Type} {I1 : Nat → Int32} {r : tm_Res} (x : tm_X10 I1 r) (a b : α) : (if I1 4425 ≤ 0 then a else b) = if tm_won r = true then b else a := by
  unfold tm_won
  rw [x.1]
  by_cases h : (0 : Int32) < r.1
  · rw [decide_eq_true h, if_neg (tm_nle h), if_pos rfl]
  · have g : r.1 ≤ 0 := by
      rw [Int32.lt_iff_toInt_lt] at h
      rw [Int32.le_iff_toInt_le]
      omega
    rw [decide_eq_false h, if_pos g, if_neg (by decide)]
theorem tm_res_how (T : Nat → Nat) (B : Nat) (h W E : Nat → Nat) (q t f : Nat) : (tm_res T B h W E q t f).1 = 0 ∨ (tm_res T B h W E q t f).1 = 1 ∨ (tm_res T B h W E q t f).1 = 2 ∨ (tm_res T B h W E q t f).1 = -2 := tm_run_how _ _ _ _ _ _
theorem tm_res_lt (T : Nat → Nat) (B : Nat) (h W E : Nat → Nat) (q t f : Nat) : (tm_res T B h W E q t f).2.2.2.1 < 2 ^ T 3 := tm_run_lt (fun m => tm_dn_lt (tm_wt_lt B h t m)) _ _ _ _ _ _ (Nat.two_pow_pos _)
/-- a set of quarrels, bit by bit -/
theorem tm_acc (b : Bool) (f : Nat → Bool) {i : Nat} (hi : i < 31) (e : f i = b) : nI (tm_bs f i) ||| (if b = true then (1 : Int32) <<< (nI i &&& 31) else (0 : Int32)) = nI (tm_bs f (i + 1)) := by
  rw [tm_bs, e]
  cases b
  · rw [if_neg (by decide), if_neg (by decide), show (0 : Int32) = nI 0 from rfl, tm_or]
  · rw [if_pos rfl, if_pos rfl, tm_shl1 hi, tm_or]
theorem tm_ifs {α : Type} (c : Prop) [Decidable c] (a b : α) : (if c then some a else some b) = some (if c then a else b) := by split <;> rfl
theorem tm_ifb {α : Type} (b : Bool) (x y : α) : (if b = true then x else y) = if (!b) = true then y else x := by cases b <;> rfl
/-- quarrels that are stopped, as all is in the scene -/
def tm_stp (T : Nat → Nat) (B : Nat) (h W E : Nat → Nat) (q : Nat) : Bool := decide ((tm_res T B h W E q (T (82 + 5 * q)) (T (83 + 5 * q))).1 = 0)
theorem tm_so9 {I : Nat → Int32} {A : Nat → Nat → Int32} {T : Nat → Nat} {B : Nat} {h W E : Nat → Nat} (hW : tm_W T) (hK : tm_K9 I A T B h W E) (hSB : tm_SB T B h W E) : ∃ I1 A1, g_X3_stoppedOnes I A = some (nI (tm_bs (tm_stp T B h W E) (T 5)), I1, A1) ∧ tm_K9 I1 A1 T B h W E ∧ tm_f9 I A I1 A1 ∧ I1 3601 = I 3601 ∧ I1 3602 = I 3602 ∧ A1 37 = A 37 ∧ A1 38 = A 38 := by
  have h5 := tm_W_b5 hW
  have L : ∃ r, g_X3_stoppedOnes_L1 4096 (0 : Int32) (nI 0) I A = some r ∧ (r.1 = nI (tm_bs (tm_stp T B h W E) (T 5)) ∧ tm_K9 r.2.1 r.2.2 T B h W E ∧ tm_f9 I A r.2.1 r.2.2 ∧ r.2.1 3601 = I 3601 ∧ r.2.1 3602 = I 3602 ∧ r.2.2 37 = A 37 ∧ r.2.2 38 = A 38) := by
    refine tm_lr (fun n i (s : Int32 × (Nat → Int32) × (Nat → Nat → Int32)) => g_X3_stoppedOnes_L1 n s.1 i s.2.1 s.2.2) (T 5) 0 (Nat.zero_le _) (fun i s => s.1 = nI (tm_bs (tm_stp T B h W E) i) ∧ tm_K9 s.2.1 s.2.2 T B h W E ∧ tm_f9 I A s.2.1 s.2.2 ∧ s.2.1 3601 = I 3601 ∧ s.2.1 3602 = I 3602 ∧ s.2.2 37 = A 37 ∧ s.2.2 38 = A 38) _ ?_ ?_ (s := ((0 : Int32), I, A)) ⟨rfl, hK, tm_f9_r I A, rfl, rfl, rfl, rfl⟩ (m := 4096) (by omega)
    · rintro n ⟨v, I1, A1⟩ ⟨a, b, c⟩
      refine ⟨(v, I1, A1), ?_, a, b, c⟩
      show g_X3_stoppedOnes_L1 (n + 1) v (nI (T 5)) I1 A1 = _
      rw [g_X3_stoppedOnes_L1, tm_cn5 b.1, if_pos (nI_le (Nat.le_refl _) (by omega))]
    · rintro n i ⟨v, I1, A1⟩ _ hi _ ⟨a, b, c, d⟩
      dsimp only at a b c d
      have hq := tm_W_q hW i hi
      obtain ⟨I2, A2, e1, e2, e3, e4, e5, e6, e7, e8⟩ := tm_rn9 hW b hSB hi hq.2.2.1 (by omega : T (83 + 5 * i) < 60)
      refine Or.inr ⟨(nI (tm_bs (tm_stp T B h W E) (i + 1)), I2, A2), ⟨rfl, e3, tm_f9_t c e4, e5.trans d.1, e6.trans d.2.1, e7.trans d.2.2.1, e8.trans d.2.2.2⟩, ?_⟩
      show g_X3_stoppedOnes_L1 (n + 1) v (nI i) I1 A1 = g_X3_stoppedOnes_L1 n _ (nI (i + 1)) I2 A2
      rw [g_X3_stoppedOnes_L1, tm_cn5 b.1, if_neg (nI_ge hi (by omega)), tm_f2 b.1 hW hi, tm_f3 b.1 hW hi, e1, Option.bind_some]
      dsimp only
      rw [tm_ifs, Option.bind_some, a, ← tm_acc (tm_stp T B h W E i) _ (by omega) rfl, ← nI_succ]
      congr 2
      unfold tm_stp
      rw [e2.1]
      by_cases g : (tm_res T B h W E i (T (82 + 5 * i)) (T (83 + 5 * i))).1 = 0
      · rw [if_pos g, decide_eq_true g, if_pos rfl]
      · rw [if_neg g, decide_eq_false g, if_neg (by decide)]
  obtain ⟨⟨v, I1, A1⟩, e, a, b⟩ := L
  dsimp only at a b
  refine ⟨I1, A1, ?_, b⟩
  unfold g_X3_stoppedOnes
  rw [show g_X3_stoppedOnes_L1 4096 (0 : Int32) (0 : Int32) I A = _ from e, Option.bind_some, a]
theorem tm_so10 {I : Nat → Int32} {A : Nat → Nat → Int32} {T : Nat → Nat} {B : Nat} {h W E : Nat → Nat} (hW : tm_W T) (hK : tm_K10 A T B h W E) (hSB : tm_SB T B h W E) : ∃ I1, g_X10_stopped I A = some (nI (tm_bs (tm_stp T B h W E) (T 5)), I1) ∧ ∀ k, k < 4425 ∨ 4431 < k → I1 k = I k := by
  have h5 := tm_W_b5 hW
  have L : ∃ r, g_X10_stopped_L1 A 4096 (0 : Int32) (nI 0) I = some r ∧ (r.1 = nI (tm_bs (tm_stp T B h W E) (T 5)) ∧ ∀ k, k < 4425 ∨ 4431 < k → r.2 k = I k) := by
    refine tm_lr (fun n i (s : Int32 × (Nat → Int32)) => g_X10_stopped_L1 A n s.1 i s.2) (T 5) 0 (Nat.zero_le _) (fun i s => s.1 = nI (tm_bs (tm_stp T B h W E) i) ∧ ∀ k, k < 4425 ∨ 4431 < k → s.2 k = I k) _ ?_ ?_ (s := ((0 : Int32), I)) ⟨rfl, fun _ _ => rfl⟩ (m := 4096) (by omega)
    · rintro n ⟨v, I1⟩ ⟨a, b⟩
      refine ⟨(v, I1), ?_, a, b⟩
      show g_X10_stopped_L1 A (n + 1) v (nI (T 5)) I1 = _
      rw [g_X10_stopped_L1, tm_r_c5 hK.1, Option.bind_some, if_pos (nI_le (Nat.le_refl _) (by omega))]
    · rintro n i ⟨v, I1⟩ _ hi _ ⟨a, b⟩
      dsimp only at a b
      obtain ⟨I2, e1, e2, e3⟩ := tm_rt10 (I := I1) hW hK hSB hi
      refine Or.inr ⟨(nI (tm_bs (tm_stp T B h W E) (i + 1)), I2), ⟨rfl, fun k hk => (e3 k hk).trans (b k hk)⟩, ?_⟩
      show g_X10_stopped_L1 A (n + 1) v (nI i) I1 = g_X10_stopped_L1 A n _ (nI (i + 1)) I2
      rw [g_X10_stopped_L1, tm_r_c5 hK.1, Option.bind_some, if_neg (nI_ge hi (by omega)), e1, Option.bind_some, tm_ifs, Option.bind_some, a, ← tm_acc (tm_stp T B h W E i) _ (by omega) rfl, ← nI_succ]
      congr 2
      unfold tm_stp
      rw [e2.1]
      by_cases g : (tm_res T B h W E i (T (82 + 5 * i)) (T (83 + 5 * i))).1 = 0
      · rw [if_pos g, decide_eq_true g, if_pos rfl]
      · rw [if_neg g, decide_eq_false g, if_neg (by decide)]
  obtain ⟨⟨v, I1⟩, e, a, b⟩ := L
  dsimp only at a b
  refine ⟨I1, ?_, b⟩
  unfold g_X10_stopped
  rw [show g_X10_stopped_L1 A 4096 (0 : Int32) (0 : Int32) I = _ from e, Option.bind_some, a]
/-- counting bits -/
def tm_pc (x : Nat) : Nat := tm_sm (fun k => (x.testBit k).toNat) 8
theorem tm_bc9 : ∀ x, x < 256 → g_J6_bitCount_0f7a4 (nI x) = nI (tm_pc x) := by decide +kernel
theorem tm_pc_le (x : Nat) : tm_pc x ≤ 8 := by
  have h := tm_sm_le (f := fun k => (x.testBit k).toNat) (c := 1) (n := 8) (fun i _ => by have := tm_tb (x.testBit i); omega)
  exact h
theorem tm_on10 {x : Nat} (hx : x < 2 ^ 31) : g_X10_ones (nI x) = some (nI (tm_pc x)) := by
  unfold g_X10_ones
  have L := tm_lp (fun n i v => g_X10_ones_L1 (nI x) n v i) 8 0 (fun k => nI (tm_sm (fun k => (x.testBit k).toNat) k)) (some (nI (tm_pc x))) (by decide) ?_ ?_ (m := 4096) (by decide)
  · rw [show g_X10_ones_L1 (nI x) 4096 (0 : Int32) (0 : Int32) = some (nI (tm_pc x)) from L]
    rfl
  · intro n
    show g_X10_ones_L1 (nI x) (n + 1) _ (nI 8) = _
    rw [g_X10_ones_L1]
    exact if_pos (by decide)
  · intro n i _ hi
    show g_X10_ones_L1 (nI x) (n + 1) (nI (tm_sm (fun k => (x.testBit k).toNat) i)) (nI i) = g_X10_ones_L1 (nI x) n (nI (tm_sm (fun k => (x.testBit k).toNat) i + (x.testBit i).toNat)) (nI (i + 1))
    rw [g_X10_ones_L1, if_neg (tm_ge8 hi), tm_bit hx (by omega), nI_add, ← nI_succ]
