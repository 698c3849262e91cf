/-! MATHEMATICS, 13: won, cellars, hour, longest, moor -/
def tm_wq (T : Nat → Nat) (B : Nat) (h W E : Nat → Nat) (q : Nat) : Bool := tm_won (tm_res T B h W E q (T (82 + 5 * q)) (T (83 + 5 * q)))
theorem tm_wn9 {I : Nat → Int32} {A : Nat → Nat → Int32} {T : Nat → Nat} {B : Nat} {h W E : Nat → Nat} (hW : tm_W T) (hK : tm_K9 I A T B h W E) (hSB : tm_SB T B h W E) : ∃ I1 A1, g_X3_wonOnes I A = some (nI (tm_bs (tm_wq T B h W E) (T 5)), I1, A1) ∧ tm_K9 I1 A1 T B h W E ∧ tm_f9 I A I1 A1 := by
  have h5 := tm_W_b5 hW
  have L : ∃ r, g_X3_wonOnes_L1 4096 (0 : Int32) (nI 0) I A = some r ∧ (r.1 = nI (tm_bs (tm_wq T B h W E) (T 5)) ∧ tm_K9 r.2.1 r.2.2 T B h W E ∧ tm_f9 I A r.2.1 r.2.2) := by
    refine tm_lr (fun n i (s : Int32 × (Nat → Int32) × (Nat → Nat → Int32)) => g_X3_wonOnes_L1 n s.1 i s.2.1 s.2.2) (T 5) 0 (Nat.zero_le _) (fun i s => s.1 = nI (tm_bs (tm_wq T B h W E) i) ∧ tm_K9 s.2.1 s.2.2 T B h W E ∧ tm_f9 I A s.2.1 s.2.2) _ ?_ ?_ (s := ((0 : Int32), I, A)) ⟨rfl, hK, tm_f9_r I A⟩ (m := 4096) (by omega)
    · rintro n ⟨v, I1, A1⟩ ⟨a, b, c⟩
      refine ⟨(v, I1, A1), ?_, a, b, c⟩
      show g_X3_wonOnes_L1 (n + 1) v (nI (T 5)) I1 A1 = _
      rw [g_X3_wonOnes_L1, tm_cn5 b.1, if_pos (nI_le (Nat.le_refl _) (by omega))]
    · rintro n i ⟨v, I1, A1⟩ _ hi _ ⟨a, b, c⟩
      dsimp only at a b c
      obtain ⟨I2, A2, e1, e2, e3, e4, -⟩ := tm_rt9 hW b hSB hi
      refine Or.inr ⟨(nI (tm_bs (tm_wq T B h W E) (i + 1)), I2, A2), ⟨rfl, e3, tm_f9_t c e4⟩, ?_⟩
      show g_X3_wonOnes_L1 (n + 1) v (nI i) I1 A1 = g_X3_wonOnes_L1 n _ (nI (i + 1)) I2 A2
      rw [g_X3_wonOnes_L1, tm_cn5 b.1, if_neg (nI_ge hi (by omega)), e1, Option.bind_some]
      dsimp only
      rw [tm_won9 e2 (tm_res_how _ _ _ _ _ _ _ _), tm_ifs, Option.bind_some, a, tm_acc (tm_won (tm_res T B h W E i (T (82 + 5 * i)) (T (83 + 5 * i)))) (tm_wq T B h W E) (i := i) (by omega) rfl, ← nI_succ]
  obtain ⟨⟨v, I1, A1⟩, e, a, b⟩ := L
  dsimp only at a b
  refine ⟨I1, A1, ?_, b⟩
  unfold g_X3_wonOnes
  rw [show g_X3_wonOnes_L1 4096 (0 : Int32) (0 : Int32) I A = _ from e, Option.bind_some, a]
theorem tm_wn10 {I : Nat → Int32} {A : Nat → Nat → Int32} {T s : Nat → Nat} (hW : tm_W T) (hR : tm_R A T) {x y z : Int32} (hrow : tm_row T x y z (A 49) s) (hH : tm_H I T) : ∃ I1 A1, g_X10_won_L1 4096 (0 : Int32) (0 : Int32) I A = some (nI (tm_bs (tm_wq T (s 6) s (tm_Wt T) (tm_Et T)) (T 5)), I1, A1) ∧ (∀ k, k < 4425 → I1 k = I k) ∧ ∀ c, c < 52 → A1 c = A c := by
  have h5 := tm_W_b5 hW
  have hSB := tm_SBt hW (fun p hp => (hrow.1 p hp).2) hrow.2.2.1
  have L : ∃ r, g_X10_won_L1 4096 (0 : Int32) (nI 0) I A = some r ∧ (r.1 = nI (tm_bs (tm_wq T (s 6) s (tm_Wt T) (tm_Et T)) (T 5)) ∧ (∀ k, k < 4425 → r.2.1 k = I k) ∧ ∀ c, c < 52 → r.2.2 c = A c) := by
    refine tm_lr (fun n i (s : Int32 × (Nat → Int32) × (Nat → Nat → Int32)) => g_X10_won_L1 n s.1 i s.2.1 s.2.2) (T 5) 0 (Nat.zero_le _) (fun i r => r.1 = nI (tm_bs (tm_wq T (s 6) s (tm_Wt T) (tm_Et T)) i) ∧ (∀ k, k < 4425 → r.2.1 k = I k) ∧ ∀ c, c < 52 → r.2.2 c = A c) _ ?_ ?_ (s := ((0 : Int32), I, A)) ⟨rfl, fun _ _ => rfl, fun _ _ => rfl⟩ (m := 4096) (by omega)
    · rintro n ⟨v, I1, A1⟩ ⟨a, b, c⟩
      refine ⟨(v, I1, A1), ?_, a, b, c⟩
      show g_X10_won_L1 (n + 1) v (nI (T 5)) I1 A1 = _
      rw [g_X10_won_L1, tm_r_c5 (tm_R_of hR (c 47 (by decide))), Option.bind_some, if_pos (nI_le (Nat.le_refl _) (by omega))]
    · rintro n i ⟨v, I1, A1⟩ _ hi _ ⟨a, b, c⟩
      dsimp only at a b c
      have hR1 := tm_R_of hR (c 47 (by decide))
      have hrow1 : tm_row T x y z (A1 49) s := by rw [c 49 (by decide)]; exact hrow
      obtain ⟨A2, e3, k3, f3⟩ := tm_now10 hW hR1 hrow1
      obtain ⟨I2, e4, x4, f4⟩ := tm_rt10 (I := I1) hW k3 hSB hi
      refine Or.inr ⟨(nI (tm_bs (tm_wq T (s 6) s (tm_Wt T) (tm_Et T)) (i + 1)), I2, A2), ⟨rfl, fun k hk => (f4 k (by omega)).trans (b k hk), fun d hd => (f3 d hd).trans (c d hd)⟩, ?_⟩
      show g_X10_won_L1 (n + 1) v (nI i) I1 A1 = g_X10_won_L1 n _ (nI (i + 1)) I2 A2
      have eg : g_X10_goOver I1 A1 (nI i) = some (true, I2, A2) := by
        unfold g_X10_goOver
        rw [tm_10Quarrel_t hR1 hW (tm_H_of hH (b 4414 (by decide))) hi, Option.bind_some, if_pos rfl, e3, Option.bind_some, e4, Option.bind_some]
      rw [g_X10_won_L1, tm_r_c5 hR1, Option.bind_some, if_neg (nI_ge hi (by omega)), eg, Option.bind_some]
      dsimp only
      rw [if_pos rfl, tm_won10 x4, tm_ifs, Option.bind_some, a, tm_acc (tm_won (tm_res T (s 6) s (tm_Wt T) (tm_Et T) i (T (82 + 5 * i)) (T (83 + 5 * i)))) (tm_wq T (s 6) s (tm_Wt T) (tm_Et T)) (i := i) (by omega) rfl, ← nI_succ]
  obtain ⟨⟨v, I1, A1⟩, e, a, b⟩ := L
  dsimp only at a b
  refine ⟨I1, A1, ?_, b⟩
  rw [show g_X10_won_L1 4096 (0 : Int32) (0 : Int32) I A = _ from e, a]
theorem tm_q_won {I : Nat → Int32} {A : Nat → Nat → Int32} (h : tm_Inv I A) (sc : Nat) : ∃ x I1 A1 sc1, g_X9_won I A sc = some (x, I1, A1, sc1) ∧ ∃ I2 A2, g_X10_won I1 A1 = some (x, I2, A2) ∧ tm_Inv I2 A2 := by
  obtain ⟨⟨T, s, U, V, t, hP⟩, hT, hS⟩ := id h
  obtain ⟨hW, hR, hC, hH, hrow, hrest⟩ := id hP
  have hv : ∀ v : Int32, tm_H (upd (upd (upd I 12 v) 4400 0) 4411 0) T := fun v => tm_H_of hH ((tm_g44 0 0).trans (tm_12_44 v))
  have hSB := tm_SBt hW (fun p hp => (hrow.1 p hp).2) hrow.2.2.1
  by_cases h0 : T 1 = 0
  · refine ⟨-1, upd I 12 1, A, sc, ?_, _, A, ?_, tm_ref h (w := 1) (by decide)⟩
    · unfold g_X9_won
      dsimp only [tw_let, g_X9_refuse]
      rw [tm_town_f hC h0, if_neg (by decide)]
    · unfold g_X10_won g_X10_good
      dsimp only [tw_let, g_X10_no]
      rw [hv 1, if_pos h0, if_pos rfl]
  · obtain ⟨I1, A1, e1, k1, f1, s1⟩ := tm_now9 hP hS
    obtain ⟨I2, A2, e2, k2, f2⟩ := tm_wn9 hW k1 hSB
    have z2 := k2.2.2
    have f12 := tm_f9_t f1 f2
    obtain ⟨r1, r2, r3⟩ := tm_hand hP f12 0
    obtain ⟨I4, A4, e4, f4, f5⟩ := tm_wn10 (I := upd (upd (upd I2 12 0) 4400 0) 4411 0) hW r1 r2 r3
    refine ⟨nI (tm_bs (tm_wq T (s 6) s (tm_Wt T) (tm_Et T)) (T 5)), upd I2 12 0, A2, 2, ?_, I4, A4, ?_, tm_done h f12 z2 (f4) (f5)⟩
    · unfold g_X9_won
      dsimp only [tw_let, g_X9_grant]
      rw [tm_town_t hC hW h0, if_pos rfl, e1, Option.bind_some]
      dsimp only
      rw [e2, Option.bind_some]
    · unfold g_X10_won g_X10_good
      dsimp only [tw_let, g_X10_no]
      rw [r3, if_neg h0, if_neg (by decide), e4, Option.bind_some]

/-- one quarrel at all places -/
def tm_wp (T : Nat → Nat) (B : Nat) (h W E : Nat → Nat) (q p : Nat) : Bool := tm_won (tm_res T B h W E q p (T (83 + 5 * q)))
theorem tm_wl9 {I : Nat → Int32} {A : Nat → Nat → Int32} {T : Nat → Nat} {B : Nat} {h W E : Nat → Nat} (hW : tm_W T) (hK : tm_K9 I A T B h W E) (hSB : tm_SB T B h W E) {q : Nat} (hq : q < T 5) : ∃ I1 A1, g_X3_winningPlaces I A (nI q) = some (nI (tm_bs (tm_wp T B h W E q) (T 1)), I1, A1) ∧ tm_K9 I1 A1 T B h W E ∧ tm_f9 I A I1 A1 := by
  have h1 := tm_W_b1 hW
  have hqq := tm_W_q hW q hq
  have L : ∃ r, g_X3_winningPlaces_L1 (nI q) 4096 (0 : Int32) (nI 0) I A = some r ∧ (r.1 = nI (tm_bs (tm_wp T B h W E q) (T 1)) ∧ tm_K9 r.2.1 r.2.2 T B h W E ∧ tm_f9 I A r.2.1 r.2.2) := by
    refine tm_lr (fun n i (s : Int32 × (Nat → Int32) × (Nat → Nat → Int32)) => g_X3_winningPlaces_L1 (nI q) n s.1 i s.2.1 s.2.2) (T 1) 0 (Nat.zero_le _) (fun i s => s.1 = nI (tm_bs (tm_wp T B h W E q) i) ∧ tm_K9 s.2.1 s.2.2 T B h W E ∧ tm_f9 I A s.2.1 s.2.2) _ ?_ ?_ (s := ((0 : Int32), I, A)) ⟨rfl, hK, tm_f9_r I A⟩ (m := 4096) (by omega)
    · rintro n ⟨v, I1, A1⟩ ⟨a, b, c⟩
      refine ⟨(v, I1, A1), ?_, a, b, c⟩
      show g_X3_winningPlaces_L1 (nI q) (n + 1) v (nI (T 1)) I1 A1 = _
      rw [g_X3_winningPlaces_L1, tm_cn1 b.1, if_pos (nI_le (Nat.le_refl _) (by omega))]
    · rintro n i ⟨v, I1, A1⟩ _ hi _ ⟨a, b, c⟩
      dsimp only at a b c
      obtain ⟨I2, A2, e1, e2, e3, e4, -⟩ := tm_rn9 hW b hSB hq hi (by omega : T (83 + 5 * q) < 60)
      refine Or.inr ⟨(nI (tm_bs (tm_wp T B h W E q) (i + 1)), I2, A2), ⟨rfl, e3, tm_f9_t c e4⟩, ?_⟩
      show g_X3_winningPlaces_L1 (nI q) (n + 1) v (nI i) I1 A1 = g_X3_winningPlaces_L1 (nI q) n _ (nI (i + 1)) I2 A2
      rw [g_X3_winningPlaces_L1, tm_cn1 b.1, if_neg (nI_ge hi (by omega)), tm_f3 b.1 hW hq, e1, Option.bind_some]
      dsimp only
      rw [tm_won9 e2 (tm_res_how _ _ _ _ _ _ _ _), tm_ifs, Option.bind_some, a, tm_acc (tm_won (tm_res T B h W E q i (T (83 + 5 * q)))) (tm_wp T B h W E q) (i := i) (by omega) rfl, ← nI_succ]
  obtain ⟨⟨v, I1, A1⟩, e, a, b⟩ := L
  dsimp only at a b
  refine ⟨I1, A1, ?_, b⟩
  unfold g_X3_winningPlaces
  rw [show g_X3_winningPlaces_L1 (nI q) 4096 (0 : Int32) (0 : Int32) I A = _ from e, Option.bind_some, a]
theorem tm_wl10 {I : Nat → Int32} {A : Nat → Nat → Int32} {T : Nat → Nat} {B : Nat} {h W E : Nat → Nat} (hW : tm_W T) (hK : tm_K10 A T B h W E) (hSB : tm_SB T B h W E) {q : Nat} (hq : q < T 5) : ∃ I1, g_X10_cellars_L1 (nI q) A 4096 (0 : Int32) (0 : Int32) I = some (nI (tm_bs (tm_wp T B h W E q) (T 1)), I1) ∧ ∀ k, k < 4425 → I1 k = I k := by
  have h1 := tm_W_b1 hW
  have h5 := tm_W_b5 hW
  have hqq := tm_W_q hW q hq
  have L : ∃ r, g_X10_cellars_L1 (nI q) A 4096 (0 : Int32) (nI 0) I = some r ∧ (r.1 = nI (tm_bs (tm_wp T B h W E q) (T 1)) ∧ ∀ k, k < 4425 → r.2 k = I k) := by
    refine tm_lr (fun n i (s : Int32 × (Nat → Int32)) => g_X10_cellars_L1 (nI q) A n s.1 i s.2) (T 1) 0 (Nat.zero_le _) (fun i s => s.1 = nI (tm_bs (tm_wp T B h W E q) i) ∧ ∀ k, k < 4425 → s.2 k = I k) _ ?_ ?_ (s := ((0 : Int32), I)) ⟨rfl, fun _ _ => rfl⟩ (m := 4096) (by omega)
    · rintro n ⟨v, I1⟩ ⟨a, b⟩
      refine ⟨(v, I1), ?_, a, b⟩
      show g_X10_cellars_L1 (nI q) A (n + 1) v (nI (T 1)) I1 = _
      rw [g_X10_cellars_L1, tm_r_c1 hK.1, Option.bind_some, if_pos (nI_le (Nat.le_refl _) (by omega))]
    · rintro n i ⟨v, I1⟩ _ hi _ ⟨a, b⟩
      dsimp only at a b
      obtain ⟨I2, e1, e2, e3⟩ := tm_rn10 (I := I1) hW hK hSB hq hi (by omega : T (83 + 5 * q) < 60)
      refine Or.inr ⟨(nI (tm_bs (tm_wp T B h W E q) (i + 1)), I2), ⟨rfl, fun k hk => (e3 k (by omega)).trans (b k hk)⟩, ?_⟩
      show g_X10_cellars_L1 (nI q) A (n + 1) v (nI i) I1 = g_X10_cellars_L1 (nI q) A n _ (nI (i + 1)) I2
      rw [g_X10_cellars_L1, tm_r_c1 hK.1, Option.bind_some, if_neg (nI_ge hi (by omega)), tm_r_q3 hK.1 (by omega), Option.bind_some, e1, Option.bind_some, tm_won10 e2, tm_ifs, Option.bind_some, a, tm_acc (tm_won (tm_res T B h W E q i (T (83 + 5 * q)))) (tm_wp T B h W E q) (i := i) (by omega) rfl, ← nI_succ]
  obtain ⟨⟨v, I1⟩, e, a, b⟩ := L
  dsimp only at a b
  refine ⟨I1, ?_, b⟩
  rw [show g_X10_cellars_L1 (nI q) A 4096 (0 : Int32) (0 : Int32) I = _ from e, a]
theorem tm_q_cellars {I : Nat → Int32} {A : Nat → Nat → Int32} (h : tm_Inv I A) (sc : Nat) (a : Int32) : ∃ x I1 A1 sc1, g_X9_cellars I A sc a = some (x, I1, A1, sc1) ∧ ∃ I2 A2, g_X10_cellars I1 A1 a = some (x, I2, A2) ∧ tm_Inv I2 A2 := by
  obtain ⟨⟨T, s, U, V, t, hP⟩, hT, hS⟩ := id h
  obtain ⟨hW, hR, hC, hH, hrow, hrest⟩ := id hP
  have hv : ∀ v : Int32, tm_H (upd (upd (upd I 12 v) 4400 0) 4411 0) T := fun v => tm_H_of hH ((tm_g44 0 0).trans (tm_12_44 v))
  have hSB := tm_SBt hW (fun p hp => (hrow.1 p hp).2) hrow.2.2.1
  by_cases ka : tm_ok (T 5) a
  · obtain ⟨q, hq, rfl⟩ := ka
    obtain ⟨I1, A1, e1, k1, f1, s1⟩ := tm_now9 hP hS
    obtain ⟨I2, A2, e2, k2, f2⟩ := tm_wl9 hW k1 hSB hq
    have z2 := k2.2.2
    have f12 := tm_f9_t f1 f2
    obtain ⟨r1, r2, r3⟩ := tm_hand hP f12 0
    obtain ⟨A3, e3, k3, f3⟩ := tm_now10 hW r1 r2
    obtain ⟨I4, e4, f4⟩ := tm_wl10 (I := upd (upd (upd I2 12 0) 4400 0) 4411 0) hW k3 hSB hq
    refine ⟨nI (tm_bs (tm_wp T (s 6) s (tm_Wt T) (tm_Et T) q) (T 1)), upd I2 12 0, A2, 2, ?_, I4, A3, ?_, tm_done h f12 z2 (f4) (f3)⟩
    · unfold g_X9_cellars
      dsimp only [tw_let, g_X9_grant]
      rw [tm_9Quarrel_t hC hW hq, if_pos rfl, e1, Option.bind_some]
      dsimp only
      rw [e2, Option.bind_some]
    · unfold g_X10_cellars g_X10_good
      dsimp only [tw_let, g_X10_no]
      rw [tm_10Quarrel_t r1 hW r3 hq, Option.bind_some, if_pos rfl, e3, Option.bind_some]
      rw [e4, Option.bind_some]
  · refine ⟨-1, upd I 12 1, A, sc, ?_, _, A, ?_, tm_ref h (w := 1) (by decide)⟩
    · unfold g_X9_cellars
      dsimp only [tw_let, g_X9_refuse]
      rw [tm_9Quarrel_f hC hW ka, if_neg (by decide)]
    · unfold g_X10_cellars g_X10_good
      dsimp only [tw_let, g_X10_no]
      rw [tm_10Quarrel_f hR hW ka, Option.bind_some, if_neg (by decide)]
/-- the first of so many that is so; else their number -/
def tm_ff (f : Nat → Bool) : Nat → Nat
  | 0 => 0
  | n + 1 => if tm_ff f n < n then tm_ff f n else if f n = true then n else n + 1
theorem tm_ff_le (f : Nat → Bool) : ∀ n, tm_ff f n ≤ n
  | 0 => Nat.le_refl _
  | n + 1 => by
    have h := tm_ff_le f n
    rw [tm_ff]
    split
    · omega
    · split <;> omega
theorem tm_ff_no (f : Nat → Bool) : ∀ n i, i < tm_ff f n → f i = false
  | 0, i, h => absurd h (Nat.not_lt_zero i)
  | n + 1, i, h => by
    rw [tm_ff] at h
    split at h
    · exact tm_ff_no f n i h
    · next g =>
      have hl := tm_ff_le f n
      have e : tm_ff f n = n := by omega
      split at h
      · exact tm_ff_no f n i (by omega)
      · next g2 =>
        by_cases hi : i = n
        · subst hi
          cases hf : f i
          · rfl
          · exact absurd hf g2
        · exact tm_ff_no f n i (by omega)
theorem tm_ff_yes (f : Nat → Bool) : ∀ n, tm_ff f n < n → f (tm_ff f n) = true
  | 0, h => absurd h (Nat.not_lt_zero _)
  | n + 1, h => by
    rw [tm_ff] at h ⊢
    split
    · next g => exact tm_ff_yes f n g
    · next g =>
      rw [if_neg g] at h
      split
      · next g2 => exact g2
      · next g2 =>
        rw [if_neg g2] at h
        omega
theorem tm_ff_is {f : Nat → Bool} {n i : Nat} (hi : i < n) (h : f i = true) (hn : ∀ j, j < i → f j = false) : tm_ff f n = i := by
  rcases Nat.lt_trichotomy (tm_ff f n) i with g | g | g
  · have := tm_ff_yes f n (by omega)
    rw [hn _ g] at this
    cases this
  · exact g
  · rw [tm_ff_no f n i g] at h
    cases h
/-- the first minute at a place from which on it is won -/
def tm_wm (T : Nat → Nat) (B : Nat) (h W E : Nat → Nat) (q p m : Nat) : Bool := tm_won (tm_res T B h W E q p m)
def tm_fo (v n : Nat) : Int32 := if v < n then nI v else -2
theorem tm_wm9 {I : Nat → Int32} {A : Nat → Nat → Int32} {T : Nat → Nat} {B : Nat} {h W E : Nat → Nat} (hW : tm_W T) (hK : tm_K9 I A T B h W E) (hSB : tm_SB T B h W E) {q p bd : Nat} (hq : q < T 5) (hp : p < T 1) (hb : bd ≤ 60) : ∃ I1 A1, g_X3_winningMinute I A (nI q) (nI p) (nI bd) = some (tm_fo (tm_ff (tm_wm T B h W E q p) bd) bd, I1, A1) ∧ tm_K9 I1 A1 T B h W E ∧ tm_f9 I A I1 A1 := by
  obtain ⟨A1, a1, a2, a3, a4⟩ := tm_wat hW hK hSB hp
  have hle := tm_ff_le (tm_wm T B h W E q p) bd
  have L : ∃ r, g_X3_winningMinute_L1 (nI q) (nI bd) A1 (fun I3 => some ((-2 : Int32), I3, A1)) 4096 (nI 0) I = some r ∧ (r.1 = tm_fo (tm_ff (tm_wm T B h W E q p) bd) bd ∧ tm_K9 r.2.1 r.2.2 T B h W E ∧ tm_f9 I A r.2.1 r.2.2) := by
    refine tm_lr (fun n i (s : Nat → Int32) => g_X3_winningMinute_L1 (nI q) (nI bd) A1 (fun I3 => some ((-2 : Int32), I3, A1)) n i s) (tm_ff (tm_wm T B h W E q p) bd) 0 (Nat.zero_le _) (fun i s => tm_K9 s A1 T B h W E ∧ tm_f9 I A s A1) _ ?_ ?_ ⟨a3, a4⟩ (m := 4096) (by omega)
    · rintro n I1 ⟨b, c⟩
      by_cases g : tm_ff (tm_wm T B h W E q p) bd < bd
      · obtain ⟨I2, e1, e2, e3, e4⟩ := tm_gor hW b hSB (t := p) (f := tm_ff (tm_wm T B h W E q p) bd) hq (by omega) a2
        refine ⟨(nI (tm_ff (tm_wm T B h W E q p) bd), I2, A1), ?_, ?_, e3, tm_f9_t c ⟨fun k hk => e4 k (by omega), fun _ _ => rfl⟩⟩
        · rw [g_X3_winningMinute_L1, if_neg (tm_ge60 (by omega)), if_neg (nI_ge g (by omega)), e1, Option.bind_some, tm_won9 e2 (tm_res_how _ _ _ _ _ _ _ _)]
          exact if_pos (tm_ff_yes (tm_wm T B h W E q p) bd g)
        · unfold tm_fo
          rw [if_pos g]
      · refine ⟨(-2, I1, A1), ?_, ?_, b, c⟩
        · rw [g_X3_winningMinute_L1]
          split
          · rfl
          · rw [if_pos (nI_le (by omega) (by omega))]
        · unfold tm_fo
          rw [if_neg g]
    · rintro n i I1 _ hi _ ⟨b, c⟩
      obtain ⟨I2, e1, e2, e3, e4⟩ := tm_gor hW b hSB (t := p) (f := i) hq (by omega) a2
      refine Or.inr ⟨I2, ⟨e3, tm_f9_t c ⟨fun k hk => e4 k (by omega), fun _ _ => rfl⟩⟩, ?_⟩
      rw [g_X3_winningMinute_L1, if_neg (tm_ge60 (by omega)), if_neg (nI_ge (by omega) (by omega)), e1, Option.bind_some, tm_won9 e2 (tm_res_how _ _ _ _ _ _ _ _), if_neg (by rw [show tm_won (tm_res T B h W E q p i) = false from tm_ff_no _ _ i hi]; decide), ← nI_succ]
  obtain ⟨⟨v, I1, A2⟩, e, a, b⟩ := L
  dsimp only at a b
  refine ⟨I1, A2, ?_, b⟩
  unfold g_X3_winningMinute
  rw [a1, Option.bind_some, show g_X3_winningMinute_L1 (nI q) (nI bd) A1 (fun I3 => some ((-2 : Int32), I3, A1)) 4096 (0 : Int32) I = _ from e, a]
theorem tm_ho10 {I : Nat → Int32} {A : Nat → Nat → Int32} {T : Nat → Nat} {B : Nat} {h W E : Nat → Nat} (hW : tm_W T) (hK : tm_K10 A T B h W E) (hSB : tm_SB T B h W E) {q : Nat} (hq : q < T 5) : ∃ I1, g_X10_hour_L1 (nI q) A (fun I8 => some ((-2 : Int32), I8, A)) 4096 (0 : Int32) I = some (tm_fo (tm_ff (tm_wm T B h W E q (T (82 + 5 * q))) 60) 60, I1, A) ∧ ∀ k, k < 4425 → I1 k = I k := by
  have h5 := tm_W_b5 hW
  have hqq := tm_W_q hW q hq
  have hle := tm_ff_le (tm_wm T B h W E q (T (82 + 5 * q))) 60
  have L : ∃ r, g_X10_hour_L1 (nI q) A (fun I8 => some ((-2 : Int32), I8, A)) 4096 (nI 0) I = some r ∧ (r.1 = tm_fo (tm_ff (tm_wm T B h W E q (T (82 + 5 * q))) 60) 60 ∧ r.2.2 = A ∧ ∀ k, k < 4425 → r.2.1 k = I k) := by
    refine tm_lr (fun n i (s : Nat → Int32) => g_X10_hour_L1 (nI q) A (fun I8 => some ((-2 : Int32), I8, A)) n i s) (tm_ff (tm_wm T B h W E q (T (82 + 5 * q))) 60) 0 (Nat.zero_le _) (fun i s => ∀ k, k < 4425 → s k = I k) _ ?_ ?_ (fun _ _ => rfl) (m := 4096) (by omega)
    · intro n I1 b
      by_cases g : tm_ff (tm_wm T B h W E q (T (82 + 5 * q))) 60 < 60
      · obtain ⟨I2, e1, e2, e3⟩ := tm_rn10 (I := I1) hW hK hSB hq hqq.2.2.1 g
        refine ⟨(nI (tm_ff (tm_wm T B h W E q (T (82 + 5 * q))) 60), I2, A), ?_, ?_, rfl, fun k hk => (e3 k (by omega)).trans (b k hk)⟩
        · rw [g_X10_hour_L1, if_neg (tm_n59 g), tm_r_q2 hK.1 (by omega), Option.bind_some, e1, Option.bind_some, tm_won10 e2]
          exact if_pos (tm_ff_yes (tm_wm T B h W E q (T (82 + 5 * q))) 60 g)
        · unfold tm_fo
          rw [if_pos g]
      · refine ⟨(-2, I1, A), ?_, ?_, rfl, b⟩
        · rw [g_X10_hour_L1, show tm_ff (tm_wm T B h W E q (T (82 + 5 * q))) 60 = 60 by omega]
          exact if_pos (by decide)
        · unfold tm_fo
          rw [if_neg g]
    · intro n i I1 _ hi _ b
      obtain ⟨I2, e1, e2, e3⟩ := tm_rn10 (I := I1) hW hK hSB hq hqq.2.2.1 (by omega : i < 60)
      refine Or.inr ⟨I2, fun k hk => (e3 k (by omega)).trans (b k hk), ?_⟩
      rw [g_X10_hour_L1, if_neg (tm_n59 (by omega)), tm_r_q2 hK.1 (by omega), Option.bind_some, e1, Option.bind_some, tm_won10 e2, if_neg (by rw [show tm_won (tm_res T B h W E q (T (82 + 5 * q)) i) = false from tm_ff_no _ _ i hi]; decide), ← nI_succ]
  obtain ⟨⟨v, I1, A2⟩, e, a, c, b⟩ := L
  dsimp only at a b c
  subst c
  refine ⟨I1, ?_, b⟩
  rw [show g_X10_hour_L1 (nI q) A2 (fun I8 => some ((-2 : Int32), I8, A2)) 4096 (0 : Int32) I = _ from e, a]
theorem tm_q_hour {I : Nat → Int32} {A : Nat → Nat → Int32} (h : tm_Inv I A) (sc : Nat) (a : Int32) : ∃ x I1 A1 sc1, g_X9_hour I A sc a = some (x, I1, A1, sc1) ∧ ∃ I2 A2, g_X10_hour I1 A1 a = some (x, I2, A2) ∧ tm_Inv I2 A2 := by
  obtain ⟨⟨T, s, U, V, t, hP⟩, hT, hS⟩ := id h
  obtain ⟨hW, hR, hC, hH, hrow, hrest⟩ := id hP
  have hv : ∀ v : Int32, tm_H (upd (upd (upd I 12 v) 4400 0) 4411 0) T := fun v => tm_H_of hH ((tm_g44 0 0).trans (tm_12_44 v))
  have hSB := tm_SBt hW (fun p hp => (hrow.1 p hp).2) hrow.2.2.1
  by_cases ka : tm_ok (T 5) a
  · obtain ⟨q, hq, rfl⟩ := ka
    obtain ⟨I1, A1, e1, k1, f1, s1⟩ := tm_now9 hP hS
    obtain ⟨I2, A2, e2, k2, f2⟩ := tm_wm9 hW k1 hSB hq (tm_W_q hW q hq).2.2.1 (Nat.le_refl 60)
    have z2 := k2.2.2
    have f12 := tm_f9_t f1 f2
    obtain ⟨r1, r2, r3⟩ := tm_hand hP f12 0
    obtain ⟨A3, e3, k3, f3⟩ := tm_now10 hW r1 r2
    obtain ⟨I4, e4, f4⟩ := tm_ho10 (I := upd (upd (upd I2 12 0) 4400 0) 4411 0) hW k3 hSB hq
    refine ⟨tm_fo (tm_ff (tm_wm T (s 6) s (tm_Wt T) (tm_Et T) q (T (82 + 5 * q))) 60) 60, upd I2 12 0, A2, 2, ?_, I4, A3, ?_, tm_done h f12 z2 (f4) (f3)⟩
    · unfold g_X9_hour
      dsimp only [tw_let, g_X9_grant]
      rw [tm_9Quarrel_t hC hW hq, if_pos rfl, e1, Option.bind_some]
      dsimp only
      rw [tm_f2 k1.1 hW hq, show g_X3_winningMinute I1 A1 (nI q) (nI (T (82 + 5 * q))) (60 : Int32) = _ from e2, Option.bind_some]
    · unfold g_X10_hour g_X10_good
      dsimp only [tw_let, g_X10_no]
      rw [tm_10Quarrel_t r1 hW r3 hq, Option.bind_some, if_pos rfl, e3, Option.bind_some]
      rw [e4]
  · refine ⟨-1, upd I 12 1, A, sc, ?_, _, A, ?_, tm_ref h (w := 1) (by decide)⟩
    · unfold g_X9_hour
      dsimp only [tw_let, g_X9_refuse]
      rw [tm_9Quarrel_f hC hW ka, if_neg (by decide)]
    · unfold g_X10_hour g_X10_good
      dsimp only [tw_let, g_X10_no]
      rw [tm_10Quarrel_f hR hW ka, Option.bind_some, if_neg (by decide)]
/-- the latest end -/
def tm_le (r : tm_Res) : Int32 := if r.1 = -2 then 60 else r.2.1
def tm_lg (f : Nat → Int32) : Nat → Int32 × Int32
  | 0 => (0, -1)
  | p + 1 => if f p ≤ (tm_lg f p).2 then tm_lg f p else (nI p, f p)
theorem tm_lo9 {I : Nat → Int32} {A : Nat → Nat → Int32} {T : Nat → Nat} {B : Nat} {h W E : Nat → Nat} (hW : tm_W T) (hK : tm_K9 I A T B h W E) (hSB : tm_SB T B h W E) {q : Nat} (hq : q < T 5) : ∃ I1 A1, g_X3_latestPlace I A (nI q) = some ((tm_lg (fun p => tm_le (tm_res T B h W E q p (T (83 + 5 * q)))) (T 1)).1, I1, A1) ∧ tm_K9 I1 A1 T B h W E ∧ tm_f9 I A I1 A1 := by
  have h1 := tm_W_b1 hW
  have hqq := tm_W_q hW q hq
  have L : ∃ r, g_X3_latestPlace_L1 (nI q) 4096 (0 : Int32) (-1 : Int32) (nI 0) I A = some r ∧ (r.1 = (tm_lg (fun p => tm_le (tm_res T B h W E q p (T (83 + 5 * q)))) (T 1)).1 ∧ tm_K9 r.2.1 r.2.2 T B h W E ∧ tm_f9 I A r.2.1 r.2.2) := by
    refine tm_lr (fun n i (s : Int32 × Int32 × (Nat → Int32) × (Nat → Nat → Int32)) => g_X3_latestPlace_L1 (nI q) n s.1 s.2.1 i s.2.2.1 s.2.2.2) (T 1) 0 (Nat.zero_le _) (fun i s => (s.1, s.2.1) = tm_lg (fun p => tm_le (tm_res T B h W E q p (T (83 + 5 * q)))) i ∧ tm_K9 s.2.2.1 s.2.2.2 T B h W E ∧ tm_f9 I A s.2.2.1 s.2.2.2) _ ?_ ?_ (s := ((0 : Int32), (-1 : Int32), I, A)) ⟨rfl, hK, tm_f9_r I A⟩ (m := 4096) (by omega)
    · rintro n ⟨v, w, I1, A1⟩ ⟨a, b, c⟩
      dsimp only at a b c
      refine ⟨(v, I1, A1), ?_, by rw [← a], b, c⟩
      show g_X3_latestPlace_L1 (nI q) (n + 1) v w (nI (T 1)) I1 A1 = _
      rw [g_X3_latestPlace_L1, tm_cn1 b.1, if_pos (nI_le (Nat.le_refl _) (by omega))]
    · rintro n i ⟨v, w, I1, A1⟩ _ hi _ ⟨a, b, c⟩
      dsimp only at a b c
      obtain ⟨I2, A2, e1, e2, e3, e4, -⟩ := tm_rn9 hW b hSB hq hi (by omega : T (83 + 5 * q) < 60)
      refine Or.inr ⟨((tm_lg (fun p => tm_le (tm_res T B h W E q p (T (83 + 5 * q)))) (i + 1)).1, (tm_lg (fun p => tm_le (tm_res T B h W E q p (T (83 + 5 * q)))) (i + 1)).2, I2, A2), ⟨rfl, e3, tm_f9_t c e4⟩, ?_⟩
      show g_X3_latestPlace_L1 (nI q) (n + 1) v w (nI i) I1 A1 = g_X3_latestPlace_L1 (nI q) n _ _ (nI (i + 1)) I2 A2
      rw [g_X3_latestPlace_L1, tm_cn1 b.1, if_neg (nI_ge hi (by omega)), tm_f3 b.1 hW hq, e1, Option.bind_some]
      dsimp only
      rw [tm_ifs, Option.bind_some, e2.1, e2.2.1, ← nI_succ, tm_lg, ← a]
      show ((if tm_le (tm_res T B h W E q i (T (83 + 5 * q))) ≤ w then some (v, w) else some (nI i, tm_le (tm_res T B h W E q i (T (83 + 5 * q))))).bind _) = _
      by_cases g : tm_le (tm_res T B h W E q i (T (83 + 5 * q))) ≤ w
      · rw [if_pos g, if_pos g, Option.bind_some]
      · rw [if_neg g, if_neg g, Option.bind_some]
  obtain ⟨⟨v, I1, A1⟩, e, a, b⟩ := L
  dsimp only at a b
  refine ⟨I1, A1, ?_, b⟩
  unfold g_X3_latestPlace
  rw [show g_X3_latestPlace_L1 (nI q) 4096 (0 : Int32) (-1 : Int32) (0 : Int32) I A = _ from e, Option.bind_some, a]
theorem tm_lo10 {I : Nat → Int32} {A : Nat → Nat → Int32} {T : Nat → Nat} {B : Nat} {h W E : Nat → Nat} (hW : tm_W T) (hK : tm_K10 A T B h W E) (hSB : tm_SB T B h W E) {q : Nat} (hq : q < T 5) : ∃ I1, g_X10_longest_L1 (nI q) A 4096 (0 : Int32) (-1 : Int32) (0 : Int32) I = some ((tm_lg (fun p => tm_le (tm_res T B h W E q p (T (83 + 5 * q)))) (T 1)).1, I1) ∧ ∀ k, k < 4425 → I1 k = I k := by
  have h1 := tm_W_b1 hW
  have h5 := tm_W_b5 hW
  have hqq := tm_W_q hW q hq
  have L : ∃ r, g_X10_longest_L1 (nI q) A 4096 (0 : Int32) (-1 : Int32) (nI 0) I = some r ∧ (r.1 = (tm_lg (fun p => tm_le (tm_res T B h W E q p (T (83 + 5 * q)))) (T 1)).1 ∧ ∀ k, k < 4425 → r.2 k = I k) := by
    refine tm_lr (fun n i (s : Int32 × Int32 × (Nat → Int32)) => g_X10_longest_L1 (nI q) A n s.1 s.2.1 i s.2.2) (T 1) 0 (Nat.zero_le _) (fun i s => (s.1, s.2.1) = tm_lg (fun p => tm_le (tm_res T B h W E q p (T (83 + 5 * q)))) i ∧ ∀ k, k < 4425 → s.2.2 k = I k) _ ?_ ?_ (s := ((0 : Int32), (-1 : Int32), I)) ⟨rfl, fun _ _ => rfl⟩ (m := 4096) (by omega)
    · rintro n ⟨v, w, I1⟩ ⟨a, b⟩
      dsimp only at a b
      refine ⟨(v, I1), ?_, by rw [← a], b⟩
      show g_X10_longest_L1 (nI q) A (n + 1) v w (nI (T 1)) I1 = _
      rw [g_X10_longest_L1, tm_r_c1 hK.1, Option.bind_some, if_pos (nI_le (Nat.le_refl _) (by omega))]
    · rintro n i ⟨v, w, I1⟩ _ hi _ ⟨a, b⟩
      dsimp only at a b
      obtain ⟨I2, e1, e2, e3⟩ := tm_rn10 (I := I1) hW hK hSB hq hi (by omega : T (83 + 5 * q) < 60)
      refine Or.inr ⟨((tm_lg (fun p => tm_le (tm_res T B h W E q p (T (83 + 5 * q)))) (i + 1)).1, (tm_lg (fun p => tm_le (tm_res T B h W E q p (T (83 + 5 * q)))) (i + 1)).2, I2), ⟨rfl, fun k hk => (e3 k (by omega)).trans (b k hk)⟩, ?_⟩
      show g_X10_longest_L1 (nI q) A (n + 1) v w (nI i) I1 = g_X10_longest_L1 (nI q) A n _ _ (nI (i + 1)) I2
      rw [g_X10_longest_L1, tm_r_c1 hK.1, Option.bind_some, if_neg (nI_ge hi (by omega)), tm_r_q3 hK.1 (by omega), Option.bind_some, e1, Option.bind_some, tm_ifs, Option.bind_some, e2.1, e2.2.1, ← nI_succ, tm_lg, ← a]
      show ((if w < tm_le (tm_res T B h W E q i (T (83 + 5 * q))) then some (nI i, tm_le (tm_res T B h W E q i (T (83 + 5 * q)))) else some (v, w)).bind _) = _
      by_cases g : tm_le (tm_res T B h W E q i (T (83 + 5 * q))) ≤ w
      · rw [if_neg (tm_nlt g), if_pos g, Option.bind_some]
      · have g2 : w < tm_le (tm_res T B h W E q i (T (83 + 5 * q))) := by
          rw [Int32.le_iff_toInt_le] at g
          rw [Int32.lt_iff_toInt_lt]
          omega
        rw [if_pos g2, if_neg g, Option.bind_some]
  obtain ⟨⟨v, I1⟩, e, a, b⟩ := L
  dsimp only at a b
  refine ⟨I1, ?_, b⟩
  rw [show g_X10_longest_L1 (nI q) A 4096 (0 : Int32) (-1 : Int32) (0 : Int32) I = _ from e, a]
theorem tm_q_longest {I : Nat → Int32} {A : Nat → Nat → Int32} (h : tm_Inv I A) (sc : Nat) (a : Int32) : ∃ x I1 A1 sc1, g_X9_longest I A sc a = some (x, I1, A1, sc1) ∧ ∃ I2 A2, g_X10_longest I1 A1 a = some (x, I2, A2) ∧ tm_Inv I2 A2 := by
  obtain ⟨⟨T, s, U, V, t, hP⟩, hT, hS⟩ := id h
  obtain ⟨hW, hR, hC, hH, hrow, hrest⟩ := id hP
  have hv : ∀ v : Int32, tm_H (upd (upd (upd I 12 v) 4400 0) 4411 0) T := fun v => tm_H_of hH ((tm_g44 0 0).trans (tm_12_44 v))
  have hSB := tm_SBt hW (fun p hp => (hrow.1 p hp).2) hrow.2.2.1
  by_cases ka : tm_ok (T 5) a
  · obtain ⟨q, hq, rfl⟩ := ka
    obtain ⟨I1, A1, e1, k1, f1, s1⟩ := tm_now9 hP hS
    obtain ⟨I2, A2, e2, k2, f2⟩ := tm_lo9 hW k1 hSB hq
    have z2 := k2.2.2
    have f12 := tm_f9_t f1 f2
    obtain ⟨r1, r2, r3⟩ := tm_hand hP f12 0
    obtain ⟨A3, e3, k3, f3⟩ := tm_now10 hW r1 r2
    obtain ⟨I4, e4, f4⟩ := tm_lo10 (I := upd (upd (upd I2 12 0) 4400 0) 4411 0) hW k3 hSB hq
    refine ⟨(tm_lg (fun p => tm_le (tm_res T (s 6) s (tm_Wt T) (tm_Et T) q p (T (83 + 5 * q)))) (T 1)).1, upd I2 12 0, A2, 2, ?_, I4, A3, ?_, tm_done h f12 z2 (f4) (f3)⟩
    · unfold g_X9_longest
      dsimp only [tw_let, g_X9_grant]
      rw [tm_9Quarrel_t hC hW hq, if_pos rfl, e1, Option.bind_some]
      dsimp only
      rw [e2, Option.bind_some]
    · unfold g_X10_longest g_X10_good
      dsimp only [tw_let, g_X10_no]
      rw [tm_10Quarrel_t r1 hW r3 hq, Option.bind_some, if_pos rfl, e3, Option.bind_some]
      rw [e4, Option.bind_some]
  · refine ⟨-1, upd I 12 1, A, sc, ?_, _, A, ?_, tm_ref h (w := 1) (by decide)⟩
    · unfold g_X9_longest
      dsimp only [tw_let, g_X9_refuse]
      rw [tm_9Quarrel_f hC hW ka, if_neg (by decide)]
    · unfold g_X10_longest g_X10_good
      dsimp only [tw_let, g_X10_no]
      rw [tm_10Quarrel_f hR hW ka, Option.bind_some, if_neg (by decide)]
