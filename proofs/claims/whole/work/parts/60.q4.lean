/-! MATHEMATICS, 11: the calls that look, 4 -/
theorem tm_lb9 {x i : Nat} (hx : x < 2 ^ 31) (hi : i < 32) (hb : x.testBit i = true) (hn : ∀ j, j < i → x.testBit j = false) : g_X9_lowestBit (nI x) = some (nI i) := by
  unfold g_X9_lowestBit
  refine tm_lp (fun n i (_ : Unit) => g_X9_lowestBit_L1 (nI x) (fun _ => some (-2 : Int32)) n i) i 0 (fun _ => ()) (some (nI i)) (Nat.zero_le _) ?_ ?_ (m := 4096) (by omega)
  · intro n
    show g_X9_lowestBit_L1 (nI x) _ (n + 1) (nI i) = _
    rw [g_X9_lowestBit_L1, if_neg (show ¬ (32 : Int32) ≤ nI i from nI_ge (b := 32) hi (by decide)), if_neg (fun q => by rw [(tm_b0 hx hi).mp q] at hb; cases hb)]
  · intro n j _ hj
    show g_X9_lowestBit_L1 (nI x) _ (n + 1) (nI j) = g_X9_lowestBit_L1 (nI x) _ n (nI (j + 1))
    rw [g_X9_lowestBit_L1, if_neg (show ¬ (32 : Int32) ≤ nI j from nI_ge (b := 32) (by omega) (by decide)), if_pos ((tm_b0 hx (by omega)).mpr (hn j hj)), ← nI_succ]
theorem tm_lb0 : g_X9_lowestBit (0 : Int32) = some (-2) := by
  unfold g_X9_lowestBit
  refine tm_lp (fun n i (_ : Unit) => g_X9_lowestBit_L1 (0 : Int32) (fun _ => some (-2 : Int32)) n i) 32 0 (fun _ => ()) (some (-2)) (by decide) ?_ ?_ (m := 4096) (by decide)
  · intro n
    show g_X9_lowestBit_L1 (0 : Int32) _ (n + 1) (nI 32) = _
    rw [g_X9_lowestBit_L1]
    exact if_pos (by decide)
  · intro n j _ hj
    show g_X9_lowestBit_L1 (nI 0) _ (n + 1) (nI j) = g_X9_lowestBit_L1 (nI 0) _ n (nI (j + 1))
    rw [g_X9_lowestBit_L1, if_neg (show ¬ (32 : Int32) ≤ nI j from nI_ge (b := 32) (by omega) (by decide)), if_pos ((tm_b0 (by decide) (by omega)).mpr (Nat.zero_testBit j)), ← nI_succ]
theorem tm_first (x : Nat) {n : Nat} (hx : x < 2 ^ n) : x = 0 ∨ ∃ i, i < n ∧ x.testBit i = true ∧ ∀ j, j < i → x.testBit j = false := by
  by_cases h : ∃ i, x.testBit i = true
  · obtain ⟨i, h1, h2⟩ := pk_least (fun i => x.testBit i = true) h
    refine Or.inr ⟨i, Nat.lt_of_not_le fun q => ?_, h1, fun j hj => ?_⟩
    · rw [tm_hi hx q] at h1
      cases h1
    · cases e : x.testBit j
      · rfl
      · exact absurd e (h2 j hj)
  · refine Or.inl (Nat.eq_of_testBit_eq fun i => ?_)
    rw [Nat.zero_testBit]
    cases e : x.testBit i
    · rfl
    · exact absurd ⟨i, e⟩ h
theorem tm_q_third {I : Nat → Int32} {A : Nat → Nat → Int32} (h : tm_Inv I A) (sc : Nat) (a : Int32) : ∃ x I1 A1 sc1, g_X9_third I A sc a = some (x, I1, A1, sc1) ∧ ∃ I2 A2, g_X10_third I1 A1 a = some (x, I2, A2) ∧ tm_Inv I2 A2 := by
  obtain ⟨⟨T, s, U, V, t, hP⟩, hT, hS⟩ := id h
  obtain ⟨hW, hR, hC, hH, hrow, hrest⟩ := id hP
  have hv : ∀ v : Int32, tm_H (upd (upd (upd I 12 v) 4400 0) 4411 0) T := fun v => tm_H_of hH ((tm_g44 0 0).trans (tm_12_44 v))
  have hSB := tm_SBt hW (fun p hp => (hrow.1 p hp).2) hrow.2.2.1
  have h3 := tm_W_b3 hW
  have h26 : (2 : Nat) ^ T 3 ≤ 64 := Nat.pow_le_pow_right (n := 2) (by decide) h3
  by_cases ka : tm_ok (T 5) a
  · obtain ⟨q, hq, rfl⟩ := ka
    obtain ⟨I1, A1, e1, k1, f1, s1⟩ := tm_now9 hP hS
    obtain ⟨I2, A2, e2, x2, k2, f2, -⟩ := tm_rt9 hW k1 hSB hq
    have f12 := tm_f9_t f1 f2
    obtain ⟨r1, r2, r3⟩ := tm_hand hP f12 0
    obtain ⟨A3, e3, k3, f3⟩ := tm_now10 hW r1 r2
    obtain ⟨I4, e4, x4, f4⟩ := tm_rt10 (I := upd (upd (upd I2 12 0) 4400 0) 4411 0) hW k3 hSB hq
    have hlt := tm_res_lt T (s 6) s (tm_Wt T) (tm_Et T) q (T (82 + 5 * q)) (T (83 + 5 * q))
    generalize hr : tm_res T (s 6) s (tm_Wt T) (tm_Et T) q (T (82 + 5 * q)) (T (83 + 5 * q)) = r at x2 x4 hlt
    have hdl : tm_dn r.2.2.2.1 r.2.2.2.2.1 < 2 ^ T 3 := tm_dn_lt hlt
    have R : ∃ x, g_X9_lowestBit (I2 3906) = some x ∧ g_X10_third_L1 I4 A3 (fun _ => some ((-2 : Int32), I4, A3)) 4096 (0 : Int32) = some (x, I4, A3) := by
      have hno : r.1 ≠ 0 → g_X10_third_L1 I4 A3 (fun _ => some ((-2 : Int32), I4, A3)) 4096 (nI 0) = some (-2, I4, A3) := fun g => by
        rw [show (4096 : Nat) = 4095 + 1 from rfl, g_X10_third_L1, tm_r_c3 k3.1, Option.bind_some, x4.1, if_neg g]
        split <;> rfl
      have hz : tm_dn r.2.2.2.1 r.2.2.2.2.1 = 0 → r.1 = 0 → g_X10_third_L1 I4 A3 (fun _ => some ((-2 : Int32), I4, A3)) 4096 (nI 0) = some (-2, I4, A3) := fun g0 g => by
        refine tm_lp (fun n i (_ : Unit) => g_X10_third_L1 I4 A3 (fun _ => some ((-2 : Int32), I4, A3)) n i) (T 3) 0 (fun _ => ()) _ (Nat.zero_le _) ?_ ?_ (m := 4096) (by omega)
        · intro n
          show g_X10_third_L1 I4 A3 _ (n + 1) (nI (T 3)) = _
          rw [g_X10_third_L1, tm_r_c3 k3.1, Option.bind_some, if_pos (nI_le (Nat.le_refl _) (by omega))]
        · intro n j _ hj
          show g_X10_third_L1 I4 A3 _ (n + 1) (nI j) = g_X10_third_L1 I4 A3 _ n (nI (j + 1))
          rw [g_X10_third_L1, tm_r_c3 k3.1, Option.bind_some, if_neg (nI_ge hj (by omega)), x4.1, if_pos g, x4.2.2.2.1, x4.2.2.2.2 g, tm_dnI, g0, tm_has (by decide) (by omega), Nat.zero_testBit, if_neg (by decide), ← nI_succ]
      by_cases g : r.1 = 0
      · rw [x2.2.2.2.2.1 g]
        rcases tm_first _ hdl with g0 | ⟨i, hi, hb, hn⟩
        · refine ⟨-2, ?_, hz g0 g⟩
          rw [g0]
          exact tm_lb0
        · refine ⟨nI i, tm_lb9 (by omega) (by omega) hb hn, ?_⟩
          refine tm_lp (fun n i (_ : Unit) => g_X10_third_L1 I4 A3 (fun _ => some ((-2 : Int32), I4, A3)) n i) i 0 (fun _ => ()) _ (Nat.zero_le _) ?_ ?_ (m := 4096) (by omega)
          · intro n
            show g_X10_third_L1 I4 A3 _ (n + 1) (nI i) = _
            rw [g_X10_third_L1, tm_r_c3 k3.1, Option.bind_some, if_neg (nI_ge hi (by omega)), x4.1, if_pos g, x4.2.2.2.1, x4.2.2.2.2 g, tm_dnI, tm_has (by omega) (by omega), hb, if_pos rfl]
          · intro n j _ hj
            show g_X10_third_L1 I4 A3 _ (n + 1) (nI j) = g_X10_third_L1 I4 A3 _ n (nI (j + 1))
            rw [g_X10_third_L1, tm_r_c3 k3.1, Option.bind_some, if_neg (nI_ge (by omega) (by omega)), x4.1, if_pos g, x4.2.2.2.1, x4.2.2.2.2 g, tm_dnI, tm_has (by omega) (by omega), hn j hj, if_neg (by decide), ← nI_succ]
      · rw [x2.2.2.2.2.2 g]
        exact ⟨-2, tm_lb0, hno g⟩
    obtain ⟨x, y1, y2⟩ := R
    refine ⟨x, upd I2 12 0, A2, 2, ?_, I4, A3, ?_, tm_done h f12 k2.2.2 (fun k hk => f4 k (by omega)) f3⟩
    · unfold g_X9_third g_X9_runsNow
      dsimp only [tw_let, g_X9_grant]
      rw [tm_9Quarrel_t hC hW hq, if_pos rfl, e1, Option.bind_some]
      dsimp only
      rw [e2, Option.bind_some]
      dsimp only
      rw [Option.bind_some]
      dsimp only
      rw [if_pos rfl, y1, Option.bind_some]
    · unfold g_X10_third g_X10_good g_X10_goOver
      dsimp only [tw_let, g_X10_no]
      rw [tm_10Quarrel_t r1 hW r3 hq, Option.bind_some, if_pos rfl, e3, Option.bind_some, e4, Option.bind_some, Option.bind_some]
      dsimp only
      rw [if_pos rfl, y2]
  · refine ⟨-1, upd I 12 1, A, sc, ?_, _, A, ?_, tm_ref h (w := 1) (by decide)⟩
    · unfold g_X9_third g_X9_runsNow
      dsimp only [tw_let, g_X9_deny]
      rw [tm_9Quarrel_f hC hW ka, if_neg (by decide), Option.bind_some]
      dsimp only
      rw [if_neg (by decide)]
    · unfold g_X10_third g_X10_good g_X10_goOver
      dsimp only [tw_let, g_X10_no]
      rw [tm_10Quarrel_f hR hW ka, Option.bind_some, if_neg (by decide), Option.bind_some]
      dsimp only
      rw [if_neg (by decide)]
theorem tm_q_sight {I : Nat → Int32} {A : Nat → Nat → Int32} (h : tm_Inv I A) (a b : Int32) : ∃ x I1, g_X9_sight I A a b = (x, I1) ∧ ∃ I2, g_X10_sight I1 A a b = some (x, I2) ∧ tm_Inv I2 A := by
  obtain ⟨⟨T, s, U, V, t, hW, hR, hC, hH, hrow, hrest⟩, hT, hS⟩ := id h
  have hv : ∀ v : Int32, tm_H (upd (upd (upd I 12 v) 4400 0) 4411 0) T := fun v => tm_H_of hH ((tm_g44 0 0).trans (tm_12_44 v))
  have hb := tm_W_b2 hW
  by_cases ka : tm_ok (T 2) a
  · obtain ⟨k, hk, rfl⟩ := ka
    by_cases kb : tm_ok 3 b
    · obtain ⟨w, hw, rfl⟩ := kb
      have iw : g_X10_in (nI w) (0 : Int32) (2 : Int32) = true := (tm_in_k (c := 2) (by decide)).mpr ⟨w, by omega, rfl⟩
      have hst := tm_C_st hC k hk
      have R : ∃ x, g_X9_sight I A (nI k) (nI w) = (x, upd I 12 0) ∧ g_X10_sight (upd I 12 0) A (nI k) (nI w) = some (x, upd (upd (upd I 12 0) 4400 0) 4411 0) := by
        unfold g_X9_sight g_X10_sight g_X10_good
        dsimp only [tw_let, g_X9_grant]
        rw [tm_9Sight_t hC hW hk, if_pos rfl, if_neg (nI_pos (by omega)), if_pos (show nI w ≤ (2 : Int32) from nI_le (b := 2) (by omega) (by decide)), tm_10Sight_t hR hW (hv 0) hk, Option.bind_some, if_pos rfl, if_pos iw]
        rcases (by omega : w = 0 ∨ w = 1 ∨ w = 2) with e | e | e <;> subst e
        · refine ⟨nI (T (10 + 2 * k)), ?_, ?_⟩
          · rw [if_neg (by decide), if_pos (by decide), tm_get (by omega) (by decide), hst.1]
          · rw [if_neg (by decide), show ((10 : Int32) + ((2 : Int32) * nI k)) + nI 0 = nI (10 + 2 * k + 0) from tm_i_sw (by omega) (by decide), tm_ld (by omega) (by decide), Option.bind_some, hR _ (by omega)]
            rfl
        · refine ⟨nI (T (11 + 2 * k)), ?_, ?_⟩
          · rw [if_neg (by decide), if_neg (by decide), tm_get (by omega) (by decide), hst.2]
          · rw [if_neg (by decide), show ((10 : Int32) + ((2 : Int32) * nI k)) + nI 1 = nI (10 + 2 * k + 1) from tm_i_sw (by omega) (by decide), tm_ld (by omega) (by decide), Option.bind_some, hR _ (by omega), show 10 + 2 * k + 1 = 11 + 2 * k by omega]
        · refine ⟨((I 3300) >>> (nI k &&& 31)) &&& (1 : Int32), ?_, ?_⟩
          · rw [if_pos (by decide)]
          · rw [if_pos (by decide), show tw_ld 8 (A 49) (6 : Int32) = _ from tm_ld (i := 6) (by decide) (by decide), Option.bind_some, hrow.2.1, hrow.2.2.2.1]
      obtain ⟨x, y1, y2⟩ := R
      exact ⟨x, _, y1, _, y2, tm_gr0 h⟩
    · have iwf : ¬ g_X10_in b (0 : Int32) (2 : Int32) = true := fun q => kb ((tm_in_k (c := 2) (by decide)).mp q)
      refine ⟨-1, upd I 12 1, ?_, _, ?_, tm_ref h (w := 1) (by decide)⟩
      · unfold g_X9_sight
        dsimp only [tw_let, g_X9_refuse]
        rw [tm_9Sight_t hC hW hk, if_pos rfl]
        by_cases g : b < 0
        · rw [if_pos g]
        · rw [if_neg g, if_neg (fun q => iwf (by unfold g_X10_in; rw [if_neg g, if_neg (fun r => absurd q (tm_nle r))]))]
      · unfold g_X10_sight g_X10_good
        dsimp only [tw_let, g_X10_no]
        rw [tm_10Sight_t hR hW (hv 1) hk, Option.bind_some, if_pos rfl, if_neg iwf]
  · refine ⟨-1, upd I 12 1, ?_, _, ?_, tm_ref h (w := 1) (by decide)⟩
    · unfold g_X9_sight
      dsimp only [tw_let, g_X9_refuse]
      rw [tm_9Sight_f hC hW ka, if_neg (by decide)]
    · unfold g_X10_sight g_X10_good
      dsimp only [tw_let, g_X10_no]
      rw [tm_10Sight_f hR hW ka, Option.bind_some, if_neg (by decide)]
theorem tm_q_quarrel {I : Nat → Int32} {A : Nat → Nat → Int32} (h : tm_Inv I A) (a b : Int32) : ∃ x I1, g_X9_quarrel I A a b = (x, I1) ∧ ∃ I2, g_X10_quarrel I1 A a b = some (x, I2) ∧ tm_Inv I2 A := by
  obtain ⟨⟨T, s, U, V, t, hW, hR, hC, hH, hrow, hrest⟩, hT, hS⟩ := id h
  have hv : ∀ v : Int32, tm_H (upd (upd (upd I 12 v) 4400 0) 4411 0) T := fun v => tm_H_of hH ((tm_g44 0 0).trans (tm_12_44 v))
  have hb := tm_W_b5 hW
  by_cases ka : tm_ok (T 5) a
  · obtain ⟨k, hk, rfl⟩ := ka
    by_cases kb : tm_ok 5 b
    · obtain ⟨w, hw, rfl⟩ := kb
      have iw : g_X10_in (nI w) (0 : Int32) (4 : Int32) = true := (tm_in_k (c := 4) (by decide)).mpr ⟨w, by omega, rfl⟩
      refine ⟨nI (T (80 + 5 * k + w)), upd I 12 0, ?_, _, ?_, tm_gr0 h⟩
      · unfold g_X9_quarrel
        dsimp only [tw_let, g_X9_grant]
        rw [tm_9Quarrel_t hC hW hk, if_pos rfl, if_neg (nI_pos (by omega)), if_pos (show nI w < (5 : Int32) from nI_lt (b := 5) (by omega) (by decide)), tm_fct hC hW hk hw]
      · unfold g_X10_quarrel g_X10_good
        dsimp only [tw_let]
        rw [tm_10Quarrel_t hR hW (hv 0) hk, Option.bind_some, if_pos rfl, if_pos iw, tm_r_qw hR (by omega) hw, Option.bind_some]
    · have iwf : ¬ g_X10_in b (0 : Int32) (4 : Int32) = true := fun q => kb ((tm_in_k (c := 4) (by decide)).mp q)
      refine ⟨-1, upd I 12 1, ?_, _, ?_, tm_ref h (w := 1) (by decide)⟩
      · unfold g_X9_quarrel
        dsimp only [tw_let, g_X9_refuse]
        rw [tm_9Quarrel_t hC hW hk, if_pos rfl]
        by_cases g : b < 0
        · rw [if_pos g]
        · rw [if_neg g, if_neg (fun q => iwf (by unfold g_X10_in; rw [if_neg g, if_neg (fun r => absurd q (by rw [Int32.lt_iff_toInt_lt] at *; rw [show (5 : Int32).toInt = 5 from rfl, show (4 : Int32).toInt = 4 from rfl] at *; omega))]))]
      · unfold g_X10_quarrel g_X10_good
        dsimp only [tw_let, g_X10_no]
        rw [tm_10Quarrel_t hR hW (hv 1) hk, Option.bind_some, if_pos rfl, if_neg iwf]
  · refine ⟨-1, upd I 12 1, ?_, _, ?_, tm_ref h (w := 1) (by decide)⟩
    · unfold g_X9_quarrel
      dsimp only [tw_let, g_X9_refuse]
      rw [tm_9Quarrel_f hC hW ka, if_neg (by decide)]
    · unfold g_X10_quarrel g_X10_good
      dsimp only [tw_let, g_X10_no]
      rw [tm_10Quarrel_f hR hW ka, Option.bind_some, if_neg (by decide)]
