/-! MATHEMATICS, 24: stoppers, price: the reference; the calls -/
theorem tm_tr3 {A : Nat → Nat → Int32} {T : Nat → Nat} {B : Nat} {h W E : Nat → Nat} (hW : tm_W T) (hK : tm_K10 A T B h W E) {q set : Nat} (hq : q < T 5) (hs : set < 2 ^ T 3) : ∃ A1, g_X10_stoppersOf_L3 (nI q) (nI set) 4096 (0 : Int32) A = some A1 ∧ tm_K10 A1 T B (tm_hq h set (T (82 + 5 * q))) W E ∧ ∀ c, c < 52 → A1 c = A c := by
  have h3 := tm_W_b3 hW
  have h5 := tm_W_b5 hW
  have h26 : (2 : Nat) ^ T 3 ≤ 64 := Nat.pow_le_pow_right (n := 2) (by decide) h3
  have G : ∃ r, g_X10_stoppersOf_L3 (nI q) (nI set) 4096 (nI 0) A = some r ∧ ((∀ p, p < T 3 → r 52 p = nI (tm_hq h set (T (82 + 5 * q)) p)) ∧ (∀ p, T 3 ≤ p → r 52 p = A 52 p) ∧ ∀ c, c ≠ 52 → r c = A c) := by
    refine tm_lr (fun n i (s : Nat → Nat → Int32) => g_X10_stoppersOf_L3 (nI q) (nI set) n i s) (T 3) 0 (Nat.zero_le _) (fun i s => (∀ p, p < i → s 52 p = nI (tm_hq h set (T (82 + 5 * q)) p)) ∧ (∀ p, i ≤ p → s 52 p = A 52 p) ∧ ∀ c, c ≠ 52 → s c = A c) _ ?_ ?_ (s := A) ⟨fun p hp => absurd hp (Nat.not_lt_zero p), fun _ _ => rfl, fun _ _ => rfl⟩ (m := 4096) (by omega)
    · rintro n s ⟨a, b, c⟩
      refine ⟨s, ?_, a, b, c⟩
      show g_X10_stoppersOf_L3 (nI q) (nI set) (n + 1) (nI (T 3)) s = _
      rw [g_X10_stoppersOf_L3, tm_r_c3 (tm_R_of hK.1 (c 47 (by decide))), Option.bind_some, if_pos (nI_le (Nat.le_refl _) (by omega))]
    · rintro n i s _ hi _ ⟨a, b, c⟩
      have hR := tm_R_of hK.1 (c 47 (by decide))
      cases e : set.testBit i
      · refine Or.inr ⟨s, ⟨fun p hp => ?_, fun p hp => b p (by omega), c⟩, ?_⟩
        · by_cases g : p = i
          · subst g
            unfold tm_hq
            rw [e, if_neg (by decide), b p (Nat.le_refl _)]
            exact hK.2.1 p (by omega)
          · exact a p (by omega)
        · rw [g_X10_stoppersOf_L3, tm_r_c3 hR, Option.bind_some, if_neg (nI_ge hi (by omega)), tm_has (by omega) (by omega), e, if_neg (by decide), Option.bind_some, ← nI_succ]
      · refine Or.inr ⟨va_up s 52 (upd (s 52) i (nI (T (82 + 5 * q) + 1))), ⟨fun p hp => ?_, fun p hp => ?_, fun d hd => (tm_vn _ hd).trans (c d hd)⟩, ?_⟩
        · rw [tm_vs]
          by_cases g : p = i
          · subst g
            rw [tm_us]
            unfold tm_hq
            rw [e, if_pos rfl]
          · rw [tm_un _ g]
            exact a p (by omega)
        · rw [tm_vs, tm_un _ (by omega)]
          exact b p (by omega)
        · rw [g_X10_stoppersOf_L3, tm_r_c3 hR, Option.bind_some, if_neg (nI_ge hi (by omega)), tm_has (by omega) (by omega), e, if_pos rfl, tm_r_q2 hR (by omega), Option.bind_some, ← nI_succ, tm_st (by omega) (by decide), Option.bind_some, Option.bind_some, ← nI_succ]
  obtain ⟨A1, e, a, b, c⟩ := G
  refine ⟨A1, e, ⟨tm_R_of hK.1 (c 47 (by decide)), fun p hp => ?_, ?_, ?_⟩, fun d hd => c d (by omega)⟩
  · by_cases g : p < T 3
    · exact a p g
    · rw [b p (by omega)]
      unfold tm_hq
      rw [tm_hi hs (by omega), if_neg (by decide)]
      exact hK.2.1 p hp
  · rw [b 6 (by omega)]
    exact hK.2.2.1
  · rw [c 53 (by decide), c 54 (by decide)]
    exact hK.2.2.2
theorem tm_tr4 {A : Nat → Nat → Int32} {T : Nat → Nat} {B : Nat} {h W E : Nat → Nat} (hW : tm_W T) (hK : tm_K10 A T B h W E) {q set : Nat} (hq : q < T 5) (hs : set < 2 ^ T 3) : ∃ A1, g_X10_stoppersOf_L4 (nI q) (nI set) 4096 (0 : Int32) A = some A1 ∧ tm_K10 A1 T B (tm_hq h set (T (82 + 5 * q))) W E ∧ ∀ c, c < 52 → A1 c = A c := by
  have h3 := tm_W_b3 hW
  have h5 := tm_W_b5 hW
  have h26 : (2 : Nat) ^ T 3 ≤ 64 := Nat.pow_le_pow_right (n := 2) (by decide) h3
  have G : ∃ r, g_X10_stoppersOf_L4 (nI q) (nI set) 4096 (nI 0) A = some r ∧ ((∀ p, p < T 3 → r 52 p = nI (tm_hq h set (T (82 + 5 * q)) p)) ∧ (∀ p, T 3 ≤ p → r 52 p = A 52 p) ∧ ∀ c, c ≠ 52 → r c = A c) := by
    refine tm_lr (fun n i (s : Nat → Nat → Int32) => g_X10_stoppersOf_L4 (nI q) (nI set) n i s) (T 3) 0 (Nat.zero_le _) (fun i s => (∀ p, p < i → s 52 p = nI (tm_hq h set (T (82 + 5 * q)) p)) ∧ (∀ p, i ≤ p → s 52 p = A 52 p) ∧ ∀ c, c ≠ 52 → s c = A c) _ ?_ ?_ (s := A) ⟨fun p hp => absurd hp (Nat.not_lt_zero p), fun _ _ => rfl, fun _ _ => rfl⟩ (m := 4096) (by omega)
    · rintro n s ⟨a, b, c⟩
      refine ⟨s, ?_, a, b, c⟩
      show g_X10_stoppersOf_L4 (nI q) (nI set) (n + 1) (nI (T 3)) s = _
      rw [g_X10_stoppersOf_L4, tm_r_c3 (tm_R_of hK.1 (c 47 (by decide))), Option.bind_some, if_pos (nI_le (Nat.le_refl _) (by omega))]
    · rintro n i s _ hi _ ⟨a, b, c⟩
      have hR := tm_R_of hK.1 (c 47 (by decide))
      cases e : set.testBit i
      · refine Or.inr ⟨s, ⟨fun p hp => ?_, fun p hp => b p (by omega), c⟩, ?_⟩
        · by_cases g : p = i
          · subst g
            unfold tm_hq
            rw [e, if_neg (by decide), b p (Nat.le_refl _)]
            exact hK.2.1 p (by omega)
          · exact a p (by omega)
        · rw [g_X10_stoppersOf_L4, tm_r_c3 hR, Option.bind_some, if_neg (nI_ge hi (by omega)), tm_has (by omega) (by omega), e, if_neg (by decide), Option.bind_some, ← nI_succ]
      · refine Or.inr ⟨va_up s 52 (upd (s 52) i (nI (T (82 + 5 * q) + 1))), ⟨fun p hp => ?_, fun p hp => ?_, fun d hd => (tm_vn _ hd).trans (c d hd)⟩, ?_⟩
        · rw [tm_vs]
          by_cases g : p = i
          · subst g
            rw [tm_us]
            unfold tm_hq
            rw [e, if_pos rfl]
          · rw [tm_un _ g]
            exact a p (by omega)
        · rw [tm_vs, tm_un _ (by omega)]
          exact b p (by omega)
        · rw [g_X10_stoppersOf_L4, tm_r_c3 hR, Option.bind_some, if_neg (nI_ge hi (by omega)), tm_has (by omega) (by omega), e, if_pos rfl, tm_r_q2 hR (by omega), Option.bind_some, ← nI_succ, tm_st (by omega) (by decide), Option.bind_some, Option.bind_some, ← nI_succ]
  obtain ⟨A1, e, a, b, c⟩ := G
  refine ⟨A1, e, ⟨tm_R_of hK.1 (c 47 (by decide)), fun p hp => ?_, ?_, ?_⟩, fun d hd => c d (by omega)⟩
  · by_cases g : p < T 3
    · exact a p g
    · rw [b p (by omega)]
      unfold tm_hq
      rw [tm_hi hs (by omega), if_neg (by decide)]
      exact hK.2.1 p hp
  · rw [b 6 (by omega)]
    exact hK.2.2.1
  · rw [c 53 (by decide), c 54 (by decide)]
    exact hK.2.2.2
theorem tm_cs10 {I : Nat → Int32} {A : Nat → Nat → Int32} {T s : Nat → Nat} (hW : tm_W T) (hR : tm_R A T) {x y z : Int32} (hrow : tm_row T x y z (A 49) s) {q : Nat} (hq : q < T 5) : ∃ I1 A1, g_X10_stoppersOf I A (nI q) = some (tm_oi (tm_bm (tm_sk T (s 6) s (tm_Wt T) (tm_Et T) q) (tm_pr T (T 3)) (2 ^ T 3)), I1, A1) ∧ (∀ k, k < 4425 → I1 k = I k) ∧ ∀ c, c < 52 → A1 c = A c := by
  have h3 := tm_W_b3 hW
  have h26 : (2 : Nat) ^ T 3 ≤ 64 := Nat.pow_le_pow_right (n := 2) (by decide) h3
  have hml := tm_may_lt T s q
  have hSB := tm_SBt hW (fun p hp => (hrow.1 p hp).2) hrow.2.2.1
  have hqq := tm_W_q hW q hq
  have G : ∃ r, g_X10_stoppersOf_L2 (nI q) (nI (tm_may T s q)) 4096 (-2 : Int32) (nI 0) I A = some r ∧ (r.1 = tm_oi (tm_bm (tm_sk T (s 6) s (tm_Wt T) (tm_Et T) q) (tm_pr T (T 3)) (2 ^ T 3)) ∧ (∀ k, k < 4425 → r.2.1 k = I k) ∧ ∀ c, c < 52 → r.2.2 c = A c) := by
    refine tm_lr (fun n i (v : Int32 × (Nat → Int32) × (Nat → Nat → Int32)) => g_X10_stoppersOf_L2 (nI q) (nI (tm_may T s q)) n v.1 i v.2.1 v.2.2) (2 ^ T 3) 0 (Nat.zero_le _) (fun i r => r.1 = tm_oi (tm_bm (tm_sk T (s 6) s (tm_Wt T) (tm_Et T) q) (tm_pr T (T 3)) i) ∧ (∀ k, k < 4425 → r.2.1 k = I k) ∧ ∀ c, c < 52 → r.2.2 c = A c) _ ?_ ?_ (s := ((-2 : Int32), I, A)) ⟨rfl, fun _ _ => rfl, fun _ _ => rfl⟩ (m := 4096) (by omega)
    · rintro n ⟨v, I1, A1⟩ ⟨a, b, c⟩
      dsimp only at a b c
      refine ⟨(v, I1, A1), ?_, a, b, c⟩
      show g_X10_stoppersOf_L2 (nI q) (nI (tm_may T s q)) (n + 1) v (nI (2 ^ T 3)) I1 A1 = _
      rw [g_X10_stoppersOf_L2, tm_r_c3 (tm_R_of hR (c 47 (by decide))), Option.bind_some, tm_shl1 (by omega), if_pos (nI_le (Nat.le_refl _) (by omega))]
    · rintro n i ⟨v, I1, A1⟩ _ hi _ ⟨a, b, c⟩
      dsimp only at a b c
      have hR1 := tm_R_of hR (c 47 (by decide))
      have hrow1 : tm_row T x y z (A1 49) s := by rw [c 49 (by decide)]; exact hrow
      have hd : tm_dn i (tm_may T s q) < 2 ^ T 3 := tm_dn_lt hi
      obtain ⟨A2, e2, k2, f2⟩ := tm_now10 hW hR1 hrow1
      obtain ⟨A3, e3, k3, f3⟩ := tm_tr3 hW k2 hq hi
      obtain ⟨A4, e4, k4, f4⟩ := tm_tr4 hW k2 hq hi
      obtain ⟨I3, e5, x5, f5⟩ := tm_rt10 (I := I1) hW k3 (tm_SB_q hSB hqq.2.2.1) hq
      obtain ⟨I4, e6, x6, f6⟩ := tm_rt10 (I := I1) hW k4 (tm_SB_q hSB hqq.2.2.1) hq
      by_cases g : tm_dn i (tm_may T s q) = 0
      · cases e : tm_bm (tm_sk T (s 6) s (tm_Wt T) (tm_Et T) q) (tm_pr T (T 3)) i with
        | none =>
          refine Or.inr ⟨(tm_oi (tm_bm (tm_sk T (s 6) s (tm_Wt T) (tm_Et T) q) (tm_pr T (T 3)) (i + 1)), I3, A3), ⟨rfl, fun k hk => (f5 k (by omega)).trans (b k hk), fun d hd => (f3 d hd).trans ((f2 d hd).trans (c d hd))⟩, ?_⟩
          show g_X10_stoppersOf_L2 (nI q) (nI (tm_may T s q)) (n + 1) v (nI i) I1 A1 = g_X10_stoppersOf_L2 (nI q) (nI (tm_may T s q)) n _ (nI (i + 1)) I3 A3
          rw [g_X10_stoppersOf_L2, tm_r_c3 hR1, Option.bind_some, tm_shl1 (k := T 3) (by omega), if_neg (nI_ge hi (by omega)), tm_dnI, if_pos ((tm_z (by omega)).mpr g), a, e, tm_oi_n, if_pos (by decide), e2, Option.bind_some, e3, Option.bind_some, e5, Option.bind_some, x5.1, ← nI_succ i, tm_bm, e]
          dsimp only
          by_cases g4 : (tm_res T (s 6) (tm_hq s i (T (82 + 5 * q))) (tm_Wt T) (tm_Et T) q (T (82 + 5 * q)) (T (83 + 5 * q))).1 = 0
          · rw [if_pos g4, Option.bind_some, if_pos (show tm_sk T (s 6) s (tm_Wt T) (tm_Et T) q i = true from decide_eq_true ⟨g, g4⟩), tm_oi_s]
          · rw [if_neg g4, Option.bind_some, if_neg (by rw [show tm_sk T (s 6) s (tm_Wt T) (tm_Et T) q i = false from decide_eq_false (fun q => g4 q.2)]; decide), tm_oi_n]
        | some b' =>
          have hb := tm_bm_lt _ _ _ _ e
          have hbo := of_decide_eq_true (tm_bm_ok _ _ _ _ e)
          have p1 := tm_pr_le hW b' (T 3) h3
          have p2 := tm_pr_le hW i (T 3) h3
          have S0 : g_X10_stoppersOf_L2 (nI q) (nI (tm_may T s q)) (n + 1) v (nI i) I1 A1 = (if nI (tm_pr T (T 3) i) < nI (tm_pr T (T 3) b') then (if (tm_res T (s 6) (tm_hq s i (T (82 + 5 * q))) (tm_Wt T) (tm_Et T) q (T (82 + 5 * q)) (T (83 + 5 * q))).1 = 0 then (some (nI i, I4, A4)) else (some (nI b', I4, A4))) else (some (nI b', I1, A1))).bind fun (x26, I27, A28) => g_X10_stoppersOf_L2 (nI q) (nI (tm_may T s q)) n x26 (nI (i + 1)) I27 A28 := by
            rw [g_X10_stoppersOf_L2, tm_r_c3 hR1, Option.bind_some, tm_shl1 (k := T 3) (by omega), if_neg (nI_ge hi (by omega)), tm_dnI, if_pos ((tm_z (by omega)).mpr g), a, e, tm_oi_s, if_neg (nI_pos (by omega)), tm_pr10 hR1 hW (by omega) (tm_may_h g), Option.bind_some, tm_pr10 hR1 hW (by omega) (tm_may_h hbo.1), Option.bind_some, e2, Option.bind_some, e4, Option.bind_some, e6, Option.bind_some, x6.1, ← nI_succ i]
          by_cases g5 : tm_pr T (T 3) i < tm_pr T (T 3) b'
          · refine Or.inr ⟨(tm_oi (tm_bm (tm_sk T (s 6) s (tm_Wt T) (tm_Et T) q) (tm_pr T (T 3)) (i + 1)), I4, A4), ⟨rfl, fun k hk => (f6 k (by omega)).trans (b k hk), fun d hd => (f4 d hd).trans ((f2 d hd).trans (c d hd))⟩, ?_⟩
            show g_X10_stoppersOf_L2 (nI q) (nI (tm_may T s q)) (n + 1) v (nI i) I1 A1 = g_X10_stoppersOf_L2 (nI q) (nI (tm_may T s q)) n _ (nI (i + 1)) I4 A4
            rw [S0, if_pos (nI_lt g5 (by omega)), tm_bm, e]
            dsimp only
            by_cases g4 : (tm_res T (s 6) (tm_hq s i (T (82 + 5 * q))) (tm_Wt T) (tm_Et T) q (T (82 + 5 * q)) (T (83 + 5 * q))).1 = 0
            · rw [if_pos g4, Option.bind_some, if_pos ⟨(decide_eq_true ⟨g, g4⟩ : tm_sk T (s 6) s (tm_Wt T) (tm_Et T) q i = true), g5⟩, tm_oi_s]
            · rw [if_neg g4, Option.bind_some, if_neg (fun r => g4 (of_decide_eq_true r.1).2), tm_oi_s]
          · refine Or.inr ⟨(tm_oi (tm_bm (tm_sk T (s 6) s (tm_Wt T) (tm_Et T) q) (tm_pr T (T 3)) (i + 1)), I1, A1), ⟨rfl, b, c⟩, ?_⟩
            show g_X10_stoppersOf_L2 (nI q) (nI (tm_may T s q)) (n + 1) v (nI i) I1 A1 = g_X10_stoppersOf_L2 (nI q) (nI (tm_may T s q)) n _ (nI (i + 1)) I1 A1
            rw [S0, if_neg (nI_nlt (by omega) (by omega)), Option.bind_some, tm_bm, e]
            dsimp only
            rw [if_neg (fun r => g5 r.2), tm_oi_s]
      · refine Or.inr ⟨(tm_oi (tm_bm (tm_sk T (s 6) s (tm_Wt T) (tm_Et T) q) (tm_pr T (T 3)) (i + 1)), I1, A1), ⟨rfl, b, c⟩, ?_⟩
        show g_X10_stoppersOf_L2 (nI q) (nI (tm_may T s q)) (n + 1) v (nI i) I1 A1 = g_X10_stoppersOf_L2 (nI q) (nI (tm_may T s q)) n _ (nI (i + 1)) I1 A1
        rw [g_X10_stoppersOf_L2, tm_r_c3 hR1, Option.bind_some, tm_shl1 (k := T 3) (by omega), if_neg (nI_ge hi (by omega)), tm_dnI, if_neg (fun r => g ((tm_z (by omega)).mp r)), Option.bind_some, a, tm_bm_no (ok := tm_sk T (s 6) s (tm_Wt T) (tm_Et T) q) (c := tm_pr T (T 3)) (decide_eq_false (fun r => g r.1)), ← nI_succ i]
  obtain ⟨⟨v, I1, A1⟩, e, a, b⟩ := G
  dsimp only at a b
  refine ⟨I1, A1, ?_, b⟩
  unfold g_X10_stoppersOf
  rw [tm_rf_10 hW hR hrow hq, Option.bind_some, show g_X10_stoppersOf_L2 (nI q) (nI (tm_may T s q)) 4096 (-2 : Int32) (0 : Int32) I A = _ from e, Option.bind_some, a]
theorem tm_q_stoppers {I : Nat → Int32} {A : Nat → Nat → Int32} (h : tm_Inv I A) (sc : Nat) (a : Int32) : ∃ x I1 A1 sc1, g_X9_stoppers I A sc a = some (x, I1, A1, sc1) ∧ ∃ I2 A2, g_X10_stoppers I1 A1 a = some (x, I2, A2) ∧ tm_Inv I2 A2 := by
  obtain ⟨⟨T, s, U, V, t, hP⟩, hT, hS⟩ := id h
  obtain ⟨hW, hR, hC, hH, hrow, hrest⟩ := id hP
  have hv : ∀ v : Int32, tm_H (upd (upd (upd I 12 v) 4400 0) 4411 0) T := fun v => tm_H_of hH ((tm_g44 0 0).trans (tm_12_44 v))
  have hSB := tm_SBt hW (fun p hp => (hrow.1 p hp).2) hrow.2.2.1
  by_cases ka : tm_ok (T 5) a
  · obtain ⟨q, hq, rfl⟩ := ka
    obtain ⟨I1, A1, e1, k1, f1, s1⟩ := tm_now9 hP hS
    obtain ⟨I2, A2, e2, k2, f2⟩ := tm_cs9 hW k1 hSB hq
    have z2 := k2.2.2
    have f12 := tm_f9_t f1 f2
    obtain ⟨r1, r2, r3⟩ := tm_hand hP f12 0
    obtain ⟨I4, A4, e4, f4, f5⟩ := tm_cs10 (I := upd (upd (upd I2 12 0) 4400 0) 4411 0) hW r1 r2 hq
    refine ⟨tm_oi (tm_bm (tm_sk T (s 6) s (tm_Wt T) (tm_Et T) q) (tm_pr T (T 3)) (2 ^ T 3)), upd I2 12 0, A2, 2, ?_, I4, A4, ?_, tm_done h f12 z2 (f4) (f5)⟩
    · unfold g_X9_stoppers
      dsimp only [tw_let, g_X9_grant]
      rw [tm_9Quarrel_t hC hW hq, if_pos rfl, e1, Option.bind_some]
      dsimp only
      rw [e2, Option.bind_some]
    · unfold g_X10_stoppers g_X10_good
      dsimp only [tw_let, g_X10_no]
      rw [tm_10Quarrel_t r1 hW r3 hq, Option.bind_some, if_pos rfl]
      rw [e4, Option.bind_some]
  · refine ⟨-1, upd I 12 1, A, sc, ?_, _, A, ?_, tm_ref h (w := 1) (by decide)⟩
    · unfold g_X9_stoppers
      dsimp only [tw_let, g_X9_refuse]
      rw [tm_9Quarrel_f hC hW ka, if_neg (by decide)]
    · unfold g_X10_stoppers g_X10_good
      dsimp only [tw_let, g_X10_no]
      rw [tm_10Quarrel_f hR hW ka, Option.bind_some, if_neg (by decide)]
theorem tm_q_price {I : Nat → Int32} {A : Nat → Nat → Int32} (h : tm_Inv I A) (sc : Nat) (a : Int32) : ∃ x I1 A1 sc1, g_X9_price I A sc a = some (x, I1, A1, sc1) ∧ ∃ I2 A2, g_X10_price I1 A1 a = some (x, I2, A2) ∧ tm_Inv I2 A2 := by
  obtain ⟨⟨T, s, U, V, t, hP⟩, hT, hS⟩ := id h
  obtain ⟨hW, hR, hC, hH, hrow, hrest⟩ := id hP
  have hv : ∀ v : Int32, tm_H (upd (upd (upd I 12 v) 4400 0) 4411 0) T := fun v => tm_H_of hH ((tm_g44 0 0).trans (tm_12_44 v))
  have hSB := tm_SBt hW (fun p hp => (hrow.1 p hp).2) hrow.2.2.1
  by_cases ka : tm_ok (T 5) a
  · obtain ⟨q, hq, rfl⟩ := ka
    obtain ⟨I1, A1, e1, k1, f1, s1⟩ := tm_now9 hP hS
    obtain ⟨I2, A2, e2, k2, f2⟩ := tm_cs9 hW k1 hSB hq
    have z2 := k2.2.2
    have f12 := tm_f9_t f1 f2
    obtain ⟨r1, r2, r3⟩ := tm_hand hP f12 0
    obtain ⟨I4, A4, e4, f4, f5⟩ := tm_cs10 (I := upd (upd (upd I2 12 0) 4400 0) 4411 0) hW r1 r2 hq
    cases eb : tm_bm (tm_sk T (s 6) s (tm_Wt T) (tm_Et T) q) (tm_pr T (T 3)) (2 ^ T 3) with
    | none =>
      rw [eb] at e2 e4
      refine ⟨-2, upd I2 12 0, A2, 2, ?_, I4, A4, ?_, tm_done h f12 z2 (f4) (f5)⟩
      · unfold g_X9_price
        dsimp only [tw_let, g_X9_grant]
        rw [tm_9Quarrel_t hC hW hq, if_pos rfl, e1, Option.bind_some]
        dsimp only
        rw [e2, Option.bind_some]
        dsimp only
        rw [tm_oi_n, if_pos rfl, Option.bind_some]
      · unfold g_X10_price g_X10_good
        dsimp only [tw_let, g_X10_no]
        rw [tm_10Quarrel_t r1 hW r3 hq, Option.bind_some, if_pos rfl]
        rw [e4, Option.bind_some]
        dsimp only
        rw [tm_oi_n, if_neg (by decide)]
    | some b =>
      rw [eb] at e2 e4
      have h3 := tm_W_b3 hW
      have h26 : (2 : Nat) ^ T 3 ≤ 64 := Nat.pow_le_pow_right (n := 2) (by decide) h3
      have hb := tm_bm_lt _ _ _ _ eb
      have hbo := of_decide_eq_true (tm_bm_ok _ _ _ _ eb)
      obtain ⟨vb, w1, w2⟩ := tm_prx A2 k2.1 hW b (by omega)
      refine ⟨nI (tm_pr T (T 3) b), upd I2 12 0, A2, 2, ?_, I4, A4, ?_, tm_done h f12 z2 (f4) (f5)⟩
      · unfold g_X9_price
        dsimp only [tw_let, g_X9_grant]
        rw [tm_9Quarrel_t hC hW hq, if_pos rfl, e1, Option.bind_some]
        dsimp only
        rw [e2, Option.bind_some]
        dsimp only
        rw [tm_oi_s, if_neg (tm_nm2 (by omega)), w1, Option.bind_some, Option.bind_some, w2 (tm_may_h hbo.1)]
      · unfold g_X10_price g_X10_good
        dsimp only [tw_let, g_X10_no]
        rw [tm_10Quarrel_t r1 hW r3 hq, Option.bind_some, if_pos rfl]
        rw [e4, Option.bind_some]
        dsimp only
        rw [tm_oi_s, if_pos (nI_pos' (by omega)), tm_pr10 (tm_R_of r1 (f5 47 (by decide))) hW (by omega) (tm_may_h hbo.1), Option.bind_some]
  · refine ⟨-1, upd I 12 1, A, sc, ?_, _, A, ?_, tm_ref h (w := 1) (by decide)⟩
    · unfold g_X9_price
      dsimp only [tw_let, g_X9_refuse]
      rw [tm_9Quarrel_f hC hW ka, if_neg (by decide)]
    · unfold g_X10_price g_X10_good
      dsimp only [tw_let, g_X10_no]
      rw [tm_10Quarrel_f hR hW ka, Option.bind_some, if_neg (by decide)]
