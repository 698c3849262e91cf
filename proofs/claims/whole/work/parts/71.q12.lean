/-! MATHEMATICS, 22: draws, wins; feed -/
def tm_rb (T : Nat → Nat) (B : Nat) (h W E : Nat → Nat) (q z : Nat) : tm_Res := tm_run (tm_sn (tm_wt T B h (T (82 + 5 * q))) (tm_two T q)) (fun s => tm_ey E s (T 3)) (tm_gain T W q) (nI (T (84 + 5 * q))) (fun m => decide (tm_sd z (m - T (83 + 5 * q) + 1) % 100 < T 0)) (60 - T (83 + 5 * q)) (T (83 + 5 * q)) 0 0 0 0
def tm_nz (T : Nat → Nat) (B : Nat) (h W E : Nat → Nat) (q z : Nat) : Nat := tm_sd z ((tm_rb T B h W E q z).2.2.2.2.2 - T (83 + 5 * q))
theorem tm_nz_lt {T : Nat → Nat} {B : Nat} {h W E : Nat → Nat} {q z : Nat} (hz : z < 65537) : tm_nz T B h W E q z < 65537 := tm_sd_lt hz _
theorem tm_rb_how (T : Nat → Nat) (B : Nat) (h W E : Nat → Nat) (q z : Nat) : (tm_rb T B h W E q z).1 = 0 ∨ (tm_rb T B h W E q z).1 = 1 ∨ (tm_rb T B h W E q z).1 = 2 ∨ (tm_rb T B h W E q z).1 = -2 := tm_run_how _ _ _ _ _ _
theorem tm_wb9 {I : Nat → Int32} {A : Nat → Nat → Int32} {T : Nat → Nat} {B : Nat} {h W E : Nat → Nat} (hW : tm_W T) (hC : tm_C A T) (hS : tm_CS I A T B h W E) (hSB : tm_SB T B h W E) {q z : Nat} (hq : q < T 5) (hz : z < 65537) (hI : I 3907 = nI z) : ∃ I1 A1, g_X1_runWithBoys I A (nI q) = some (I1, A1) ∧ tm_X9 I1 (tm_rb T B h W E q z) ∧ tm_C A1 T ∧ tm_CS I1 A1 T B h W E ∧ I1 3907 = nI (tm_nz T B h W E q z) ∧ tm_f9 I A I1 A1 := by
  have hqq := tm_W_q hW q hq
  obtain ⟨A1, a1, a2, a3⟩ := tm_watch hC hW hS hSB hqq.2.2.1
  have hC1 : tm_C A1 T := tm_C_of hC fun c c1 _ => a3 c (by omega)
  have hS1 : tm_CS I A1 T B h W E := tm_CS_of hS rfl rfl (a3 37 (by decide)) (a3 38 (by decide))
  obtain ⟨I1, e0, e1, e2, e3, e4, e5, e6, e7, e8, e9⟩ := tm_go (bd := T 0) hC1 hW (fun p hp => (hS1.2.2 p hp).1) (fun p hp => (hS1.2.2 p hp).2) (fun p hp => (hSB.2.2 p hp).2) a2 (fun m => tm_wt_lt B h _ m) hq (by omega : T (83 + 5 * q) < 60) (tm_W_b0 hW) hz hI (r := tm_rb T B h W E q z) rfl
  refine ⟨I1, A1, ?_, ⟨e1, e2, e3, e4, e5, e6⟩, hC1, tm_CS_of hS1 (e9 3601 (by decide)) (e9 3602 (by decide)) rfl rfl, e7, fun k hk => e9 k (by omega), fun c hc => a3 c (by omega)⟩
  unfold g_X1_runWithBoys
  rw [tm_f2 hC hW hq, a1, Option.bind_some, tm_f3 hC1 hW hq, tm_cn0 hC1, e0, Option.bind_some]
theorem tm_wb10 {I : Nat → Int32} {A : Nat → Nat → Int32} {T : Nat → Nat} {B : Nat} {h W E : Nat → Nat} (hW : tm_W T) (hK : tm_K10 A T B h W E) (hSB : tm_SB T B h W E) {q z : Nat} (hq : q < T 5) (hz : z < 65537) (h0 : I 4430 = -1) (h1 : I 4431 = nI z) : ∃ I1, g_X10_runWithBoys I A (nI q) = some I1 ∧ tm_X10 I1 (tm_rb T B h W E q z) ∧ I1 4430 = -1 ∧ I1 4431 = nI (tm_nz T B h W E q z) ∧ ∀ k, k < 4425 ∨ 4431 < k → I1 k = I k := by
  have hqq := tm_W_q hW q hq
  have h5 := tm_W_b5 hW
  have hb0 := tm_W_b0 hW
  obtain ⟨I1, e0, e1, e2, e3, e4, e5, e6, e7⟩ := tm_run10 (I := I) (a4 := 1) hK.1 hW hK.2 hSB hq hqq.2.2.1 (by omega : T (83 + 5 * q) < 60) (fun m => decide (tm_sd z (m - T (83 + 5 * q) + 1) % 100 < T 0)) (fun m x y => x = -1 ∧ y = nI (tm_sd z (m - T (83 + 5 * q)))) ⟨h0, by rw [Nat.sub_self]; exact h1⟩ (fun m J hm hm2 ⟨d1, d2⟩ => by
    have hw := tm_sd_lt hz (m - T (83 + 5 * q))
    have x1 : ((75 : Int32) * nI (tm_sd z (m - T (83 + 5 * q)))) + (74 : Int32) = nI (75 * tm_sd z (m - T (83 + 5 * q)) + 74) := by
      rw [show (75 : Int32) * nI (tm_sd z (m - T (83 + 5 * q))) = nI (75 * tm_sd z (m - T (83 + 5 * q))) from pk_mul 75 _]
      exact nI_add _ 74
    have x2 : nI (75 * tm_sd z (m - T (83 + 5 * q)) + 74) - nI (75 * tm_sd z (m - T (83 + 5 * q)) + 74) / (65537 : Int32) * (65537 : Int32) = nI (tm_sd z (m - T (83 + 5 * q) + 1)) := pk_rem (d := 65537) (by omega) (by decide) (by decide)
    have hw2 := tm_sd_lt hz (m - T (83 + 5 * q) + 1)
    have x3 : nI (tm_sd z (m - T (83 + 5 * q) + 1)) - nI (tm_sd z (m - T (83 + 5 * q) + 1)) / (100 : Int32) * (100 : Int32) = nI (tm_sd z (m - T (83 + 5 * q) + 1) % 100) := pk_rem (d := 100) (by omega) (by decide) (by decide)
    have hw3 : tm_sd z (m - T (83 + 5 * q) + 1) % 100 < 100 := Nat.mod_lt _ (by decide)
    refine ⟨upd J 4431 (nI (tm_sd z (m - T (83 + 5 * q) + 1))), ?_, ⟨?_, ?_⟩, fun k hk => tm_un _ hk⟩
    · rw [if_neg (by decide)]
      unfold g_X10_comesBoy
      rw [d1, if_pos (by decide), tm_r_c0 hK.1, Option.bind_some, d2, x1, x2, x3]
      by_cases g : tm_sd z (m - T (83 + 5 * q) + 1) % 100 < T 0
      · rw [if_neg (nI_ge g (by omega)), Option.bind_some, decide_eq_true g]
        rfl
      · rw [if_pos (nI_le (by omega) (by omega)), Option.bind_some, decide_eq_false g]
        rfl
    · rw [tm_un _ (by decide)]
      exact d1
    · rw [tm_us, show m + 1 - T (83 + 5 * q) = m - T (83 + 5 * q) + 1 by omega]) (r := tm_rb T B h W E q z) rfl
  refine ⟨I1, ?_, ⟨e1, e2, e3, e4, e5⟩, e6.1, e6.2, e7⟩
  unfold g_X10_runWithBoys
  rw [tm_r_q2 hK.1 (by omega), Option.bind_some, tm_r_q3 hK.1 (by omega), Option.bind_some, e0, Option.bind_some]
theorem tm_65 {x : Int32} : g_X10_in x (0 : Int32) (65536 : Int32) = true ↔ tm_ok 65537 x := tm_in_k (c := 65536) (by decide)
theorem tm_q_endsBy {I : Nat → Int32} {A : Nat → Nat → Int32} (h : tm_Inv I A) (sc : Nat) (a : Int32) (b : Int32) : ∃ x I1 A1 sc1, g_X9_endsBy I A sc a b = some (x, I1, A1, sc1) ∧ ∃ I2 A2, g_X10_endsBy I1 A1 a b = some (x, I2, A2) ∧ tm_Inv I2 A2 := by
  obtain ⟨⟨T, s, U, V, t, hP⟩, hT, hS⟩ := id h
  obtain ⟨hW, hR, hC, hH, hrow, hrest⟩ := id hP
  have hv : ∀ v : Int32, tm_H (upd (upd (upd I 12 v) 4400 0) 4411 0) T := fun v => tm_H_of hH ((tm_g44 0 0).trans (tm_12_44 v))
  have hSB := tm_SBt hW (fun p hp => (hrow.1 p hp).2) hrow.2.2.1
  by_cases ka : tm_ok (T 5) a
  · obtain ⟨q, hq, rfl⟩ := ka
    by_cases kb : tm_ok 65537 b
    · have kb2 := tm_65.mpr kb
      obtain ⟨z, hz, rfl⟩ := kb
      obtain ⟨I1, A1, e1, k1, f1, s1⟩ := tm_now9 hP hS
      have kS : tm_CS (upd I1 3907 (nI z)) A1 T (s 6) s (tm_Wt T) (tm_Et T) := tm_CS_of k1.2.1 (tm_un _ (by decide)) (tm_un _ (by decide)) rfl rfl
      obtain ⟨I2, A2, e2, x2, k2, k3, k4, f2⟩ := tm_wb9 hW k1.1 kS hSB hq hz (tm_us _ _ _)
      have f12 : tm_f9 I A I2 A2 := tm_f9_t f1 (tm_f9_t ⟨fun k hk => tm_un _ (by omega), fun _ _ => rfl⟩ f2)
      obtain ⟨r1, r2, r3⟩ := tm_hand hP f12 0
      obtain ⟨A3, e3, k5, f3⟩ := tm_now10 hW r1 r2
      obtain ⟨I4, e4, x4, -, -, f4⟩ := tm_wb10 (I := upd (upd (upd (upd (upd I2 12 0) 4400 0) 4411 0) 4430 (-1)) 4431 (nI z)) hW k5 hSB hq hz (by rw [tm_un _ (by decide), tm_us]) (tm_us _ _ _)
      generalize hr : tm_rb T (s 6) s (tm_Wt T) (tm_Et T) q z = r at x2 x4
      refine ⟨r.1, upd I2 12 0, A2, 2, ?_, I4, A3, ?_, tm_done h f12 ⟨_, tm_nz_lt hz, k4⟩ (fun k hk => (f4 k (by omega)).trans (by rw [tm_un _ (by omega), tm_un _ (by omega)])) f3⟩
      · unfold g_X9_endsBy g_X9_runsBy
        dsimp only [tw_let, g_X9_grant]
        rw [tm_9Quarrel_t hC hW hq, if_pos rfl, if_neg (nI_pos (by omega)), if_pos (show nI z < (65537 : Int32) from nI_lt (b := 65537) hz (by decide)), e1, Option.bind_some]
        dsimp only
        rw [e2, Option.bind_some]
        dsimp only
        rw [Option.bind_some]
        dsimp only
        rw [if_pos rfl, x2.1]
      · unfold g_X10_endsBy g_X10_good g_X10_drawWhy
        dsimp only [tw_let, g_X10_no]
        rw [tm_10Quarrel_t r1 hW r3 hq, Option.bind_some, kb2, if_pos rfl, if_neg (by decide), Option.bind_some, show g_X10_why (tw_b true) (1 : Int32) = 0 by decide, if_pos rfl, e3, Option.bind_some, Option.bind_some]
        dsimp only
        rw [if_pos rfl, e4, Option.bind_some, x4.1]
    · have kb2 : ¬ g_X10_in b (0 : Int32) (65536 : Int32) = true := fun q => kb (tm_65.mp q)
      have e9 : (if b < 0 then some (false, upd I 12 2, A) else (if b < (65537 : Int32) then ((g_X9_showNow I A).bind fun (I7, A8) => (g_X1_runWithBoys (upd I7 3907 b) A8 (nI q)).bind fun (I10, A11) => some (true, I10, A11)) else some (false, upd I 12 2, A))) = some (false, upd I 12 2, A) := by
        by_cases g : b < 0
        · rw [if_pos g]
        · rw [if_neg g, if_neg (show ¬ b < (65537 : Int32) from tm_nlt (tm_ok_f (c := 65537) (by decide) kb g))]
      refine ⟨-1, upd I 12 2, A, sc, ?_, _, A, ?_, tm_ref h (w := 2) (by decide)⟩
      · unfold g_X9_endsBy g_X9_runsBy
        dsimp only [tw_let, g_X9_deny]
        rw [tm_9Quarrel_t hC hW hq, if_pos rfl, e9, Option.bind_some]
        dsimp only
        rw [if_neg (by decide)]
      · unfold g_X10_endsBy g_X10_good g_X10_drawWhy
        dsimp only [tw_let, g_X10_no]
        rw [tm_10Quarrel_t hR hW (hv 2) hq, Option.bind_some, if_neg kb2, Option.bind_some, show g_X10_why (tw_b true) (0 : Int32) = 2 by decide, if_neg (by decide), Option.bind_some]
        dsimp only
        rw [if_neg (by decide)]
  · refine ⟨-1, upd I 12 1, A, sc, ?_, _, A, ?_, tm_ref h (w := 1) (by decide)⟩
    · unfold g_X9_endsBy g_X9_runsBy
      dsimp only [tw_let, g_X9_deny]
      rw [tm_9Quarrel_f hC hW ka, if_neg (by decide), Option.bind_some]
      dsimp only
      rw [if_neg (by decide)]
    · unfold g_X10_endsBy g_X10_good g_X10_drawWhy
      dsimp only [tw_let, g_X10_no]
      rw [tm_10Quarrel_f hR hW ka, Option.bind_some, show (if g_X10_in b (0 : Int32) (65536 : Int32) = true then (if (1 : Int32) = 0 then some (0 : Int32) else some (1 : Int32)) else some (0 : Int32)) = some (if g_X10_in b (0 : Int32) (65536 : Int32) = true then (1 : Int32) else 0) by split <;> rfl, Option.bind_some, show ∀ v : Int32, g_X10_why (tw_b false) v = 1 from fun _ => rfl, if_neg (by decide), Option.bind_some]
      dsimp only
      rw [if_neg (by decide)]
theorem tm_q_endsByAt {I : Nat → Int32} {A : Nat → Nat → Int32} (h : tm_Inv I A) (sc : Nat) (a : Int32) (b : Int32) : ∃ x I1 A1 sc1, g_X9_endsByAt I A sc a b = some (x, I1, A1, sc1) ∧ ∃ I2 A2, g_X10_endsByAt I1 A1 a b = some (x, I2, A2) ∧ tm_Inv I2 A2 := by
  obtain ⟨⟨T, s, U, V, t, hP⟩, hT, hS⟩ := id h
  obtain ⟨hW, hR, hC, hH, hrow, hrest⟩ := id hP
  have hv : ∀ v : Int32, tm_H (upd (upd (upd I 12 v) 4400 0) 4411 0) T := fun v => tm_H_of hH ((tm_g44 0 0).trans (tm_12_44 v))
  have hSB := tm_SBt hW (fun p hp => (hrow.1 p hp).2) hrow.2.2.1
  by_cases ka : tm_ok (T 5) a
  · obtain ⟨q, hq, rfl⟩ := ka
    by_cases kb : tm_ok 65537 b
    · have kb2 := tm_65.mpr kb
      obtain ⟨z, hz, rfl⟩ := kb
      obtain ⟨I1, A1, e1, k1, f1, s1⟩ := tm_now9 hP hS
      have kS : tm_CS (upd I1 3907 (nI z)) A1 T (s 6) s (tm_Wt T) (tm_Et T) := tm_CS_of k1.2.1 (tm_un _ (by decide)) (tm_un _ (by decide)) rfl rfl
      obtain ⟨I2, A2, e2, x2, k2, k3, k4, f2⟩ := tm_wb9 hW k1.1 kS hSB hq hz (tm_us _ _ _)
      have f12 : tm_f9 I A I2 A2 := tm_f9_t f1 (tm_f9_t ⟨fun k hk => tm_un _ (by omega), fun _ _ => rfl⟩ f2)
      obtain ⟨r1, r2, r3⟩ := tm_hand hP f12 0
      obtain ⟨A3, e3, k5, f3⟩ := tm_now10 hW r1 r2
      obtain ⟨I4, e4, x4, -, -, f4⟩ := tm_wb10 (I := upd (upd (upd (upd (upd I2 12 0) 4400 0) 4411 0) 4430 (-1)) 4431 (nI z)) hW k5 hSB hq hz (by rw [tm_un _ (by decide), tm_us]) (tm_us _ _ _)
      generalize hr : tm_rb T (s 6) s (tm_Wt T) (tm_Et T) q z = r at x2 x4
      refine ⟨r.2.1, upd I2 12 0, A2, 2, ?_, I4, A3, ?_, tm_done h f12 ⟨_, tm_nz_lt hz, k4⟩ (fun k hk => (f4 k (by omega)).trans (by rw [tm_un _ (by omega), tm_un _ (by omega)])) f3⟩
      · unfold g_X9_endsByAt g_X9_runsBy
        dsimp only [tw_let, g_X9_grant]
        rw [tm_9Quarrel_t hC hW hq, if_pos rfl, if_neg (nI_pos (by omega)), if_pos (show nI z < (65537 : Int32) from nI_lt (b := 65537) hz (by decide)), e1, Option.bind_some]
        dsimp only
        rw [e2, Option.bind_some]
        dsimp only
        rw [Option.bind_some]
        dsimp only
        rw [if_pos rfl, x2.2.1]
      · unfold g_X10_endsByAt g_X10_good g_X10_drawWhy
        dsimp only [tw_let, g_X10_no]
        rw [tm_10Quarrel_t r1 hW r3 hq, Option.bind_some, kb2, if_pos rfl, if_neg (by decide), Option.bind_some, show g_X10_why (tw_b true) (1 : Int32) = 0 by decide, if_pos rfl, e3, Option.bind_some, Option.bind_some]
        dsimp only
        rw [if_pos rfl, e4, Option.bind_some, x4.2.1]
    · have kb2 : ¬ g_X10_in b (0 : Int32) (65536 : Int32) = true := fun q => kb (tm_65.mp q)
      have e9 : (if b < 0 then some (false, upd I 12 2, A) else (if b < (65537 : Int32) then ((g_X9_showNow I A).bind fun (I7, A8) => (g_X1_runWithBoys (upd I7 3907 b) A8 (nI q)).bind fun (I10, A11) => some (true, I10, A11)) else some (false, upd I 12 2, A))) = some (false, upd I 12 2, A) := by
        by_cases g : b < 0
        · rw [if_pos g]
        · rw [if_neg g, if_neg (show ¬ b < (65537 : Int32) from tm_nlt (tm_ok_f (c := 65537) (by decide) kb g))]
      refine ⟨-1, upd I 12 2, A, sc, ?_, _, A, ?_, tm_ref h (w := 2) (by decide)⟩
      · unfold g_X9_endsByAt g_X9_runsBy
        dsimp only [tw_let, g_X9_deny]
        rw [tm_9Quarrel_t hC hW hq, if_pos rfl, e9, Option.bind_some]
        dsimp only
        rw [if_neg (by decide)]
      · unfold g_X10_endsByAt g_X10_good g_X10_drawWhy
        dsimp only [tw_let, g_X10_no]
        rw [tm_10Quarrel_t hR hW (hv 2) hq, Option.bind_some, if_neg kb2, Option.bind_some, show g_X10_why (tw_b true) (0 : Int32) = 2 by decide, if_neg (by decide), Option.bind_some]
        dsimp only
        rw [if_neg (by decide)]
  · refine ⟨-1, upd I 12 1, A, sc, ?_, _, A, ?_, tm_ref h (w := 1) (by decide)⟩
    · unfold g_X9_endsByAt g_X9_runsBy
      dsimp only [tw_let, g_X9_deny]
      rw [tm_9Quarrel_f hC hW ka, if_neg (by decide), Option.bind_some]
      dsimp only
      rw [if_neg (by decide)]
    · unfold g_X10_endsByAt g_X10_good g_X10_drawWhy
      dsimp only [tw_let, g_X10_no]
      rw [tm_10Quarrel_f hR hW ka, Option.bind_some, show (if g_X10_in b (0 : Int32) (65536 : Int32) = true then (if (1 : Int32) = 0 then some (0 : Int32) else some (1 : Int32)) else some (0 : Int32)) = some (if g_X10_in b (0 : Int32) (65536 : Int32) = true then (1 : Int32) else 0) by split <;> rfl, Option.bind_some, show ∀ v : Int32, g_X10_why (tw_b false) v = 1 from fun _ => rfl, if_neg (by decide), Option.bind_some]
      dsimp only
      rw [if_neg (by decide)]
/-- so many one behind the other -/
def tm_zs (T : Nat → Nat) (B : Nat) (h W E : Nat → Nat) (q z : Nat) : Nat → Nat
  | 0 => z
  | i + 1 => tm_nz T B h W E q (tm_zs T B h W E q z i)
theorem tm_zs_lt {T : Nat → Nat} {B : Nat} {h W E : Nat → Nat} {q z : Nat} (hz : z < 65537) : ∀ i, tm_zs T B h W E q z i < 65537
  | 0 => hz
  | i + 1 => tm_nz_lt (tm_zs_lt hz i)
def tm_wi (T : Nat → Nat) (B : Nat) (h W E : Nat → Nat) (q z i : Nat) : Nat := (tm_won (tm_rb T B h W E q (tm_zs T B h W E q z i))).toNat
theorem tm_wi9 {I : Nat → Int32} {A : Nat → Nat → Int32} {T : Nat → Nat} {B : Nat} {h W E : Nat → Nat} (hW : tm_W T) (hC : tm_C A T) (hS : tm_CS I A T B h W E) (hSB : tm_SB T B h W E) {q z n : Nat} (hq : q < T 5) (hz : z < 65537) (hn : n ≤ 30) (hI : I 3907 = nI z) : ∃ I1 A1, g_X9_wins_L1 (nI q) (nI n) 4096 (0 : Int32) (0 : Int32) I A = some (nI (tm_sm (tm_wi T B h W E q z) n), I1, A1) ∧ tm_Sd I1 ∧ tm_f9 I A I1 A1 := by
  have L : ∃ r, g_X9_wins_L1 (nI q) (nI n) 4096 (0 : Int32) (nI 0) I A = some r ∧ (r.1 = nI (tm_sm (tm_wi T B h W E q z) n) ∧ tm_Sd r.2.1 ∧ tm_f9 I A r.2.1 r.2.2) := by
    refine tm_lr (fun k i (s : Int32 × (Nat → Int32) × (Nat → Nat → Int32)) => g_X9_wins_L1 (nI q) (nI n) k s.1 i s.2.1 s.2.2) n 0 (Nat.zero_le _) (fun i s => s.1 = nI (tm_sm (tm_wi T B h W E q z) i) ∧ tm_C s.2.2 T ∧ tm_CS s.2.1 s.2.2 T B h W E ∧ s.2.1 3907 = nI (tm_zs T B h W E q z i) ∧ tm_f9 I A s.2.1 s.2.2) _ ?_ ?_ (s := ((0 : Int32), I, A)) ⟨rfl, hC, hS, hI, tm_f9_r I A⟩ (m := 4096) (by omega)
    · rintro k ⟨v, I1, A1⟩ ⟨a, b, c, d, e⟩
      refine ⟨(v, I1, A1), ?_, a, ⟨_, tm_zs_lt hz n, d⟩, e⟩
      show g_X9_wins_L1 (nI q) (nI n) (k + 1) v (nI n) I1 A1 = _
      rw [g_X9_wins_L1, if_pos (nI_le (Nat.le_refl _) (by omega))]
    · rintro k i ⟨v, I1, A1⟩ _ hi _ ⟨a, b, c, d, e⟩
      dsimp only at a b c d e
      obtain ⟨I2, A2, e1, x1, k1, k2, k3, f1⟩ := tm_wb9 hW b c hSB hq (tm_zs_lt hz i) d
      refine Or.inr ⟨(nI (tm_sm (tm_wi T B h W E q z) (i + 1)), I2, A2), ⟨rfl, k1, k2, k3, tm_f9_t e f1⟩, ?_⟩
      show g_X9_wins_L1 (nI q) (nI n) (k + 1) v (nI i) I1 A1 = g_X9_wins_L1 (nI q) (nI n) k (nI (tm_sm (tm_wi T B h W E q z) i + tm_wi T B h W E q z i)) (nI (i + 1)) I2 A2
      rw [g_X9_wins_L1, if_neg (nI_ge hi (by omega)), e1, Option.bind_some]
      dsimp only
      rw [tm_won9 x1 (tm_rb_how _ _ _ _ _ _ _), a, ← nI_succ i]
      unfold tm_wi
      cases tm_won (tm_rb T B h W E q (tm_zs T B h W E q z i))
      · rw [if_neg (by decide), Option.bind_some]
        rfl
      · rw [if_pos rfl, Option.bind_some, ← nI_succ]
        rfl
  obtain ⟨⟨v, I1, A1⟩, e, a, b⟩ := L
  dsimp only at a b
  refine ⟨I1, A1, ?_, b⟩
  rw [show g_X9_wins_L1 (nI q) (nI n) 4096 (0 : Int32) (0 : Int32) I A = _ from e, a]
theorem tm_wi10 {I : Nat → Int32} {A : Nat → Nat → Int32} {T : Nat → Nat} {B : Nat} {h W E : Nat → Nat} (hW : tm_W T) (hK : tm_K10 A T B h W E) (hSB : tm_SB T B h W E) {q z n : Nat} (hq : q < T 5) (hz : z < 65537) (hn : n ≤ 30) (h0 : I 4430 = -1) (h1 : I 4431 = nI z) : ∃ I1, g_X10_wins_L1 (nI q) (nI n) A 4096 (0 : Int32) (0 : Int32) I = some (nI (tm_sm (tm_wi T B h W E q z) n), I1) ∧ ∀ k, k < 4425 → I1 k = I k := by
  have L : ∃ r, g_X10_wins_L1 (nI q) (nI n) A 4096 (0 : Int32) (nI 0) I = some r ∧ (r.1 = nI (tm_sm (tm_wi T B h W E q z) n) ∧ ∀ k, k < 4425 → r.2 k = I k) := by
    refine tm_lr (fun k i (s : Int32 × (Nat → Int32)) => g_X10_wins_L1 (nI q) (nI n) A k s.1 i s.2) n 0 (Nat.zero_le _) (fun i s => s.1 = nI (tm_sm (tm_wi T B h W E q z) i) ∧ s.2 4430 = -1 ∧ s.2 4431 = nI (tm_zs T B h W E q z i) ∧ ∀ k, k < 4425 → s.2 k = I k) _ ?_ ?_ (s := ((0 : Int32), I)) ⟨rfl, h0, h1, fun _ _ => rfl⟩ (m := 4096) (by omega)
    · rintro k ⟨v, I1⟩ ⟨a, b, c, d⟩
      refine ⟨(v, I1), ?_, a, d⟩
      show g_X10_wins_L1 (nI q) (nI n) A (k + 1) v (nI n) I1 = _
      rw [g_X10_wins_L1, if_pos (nI_le (Nat.le_refl _) (by omega))]
    · rintro k i ⟨v, I1⟩ _ hi _ ⟨a, b, c, d⟩
      dsimp only at a b c d
      obtain ⟨I2, e1, x1, k1, k2, f1⟩ := tm_wb10 hW hK hSB hq (tm_zs_lt hz i) b c
      refine Or.inr ⟨(nI (tm_sm (tm_wi T B h W E q z) (i + 1)), I2), ⟨rfl, k1, k2, fun k hk => (f1 k (by omega)).trans (d k hk)⟩, ?_⟩
      show g_X10_wins_L1 (nI q) (nI n) A (k + 1) v (nI i) I1 = g_X10_wins_L1 (nI q) (nI n) A k (nI (tm_sm (tm_wi T B h W E q z) i + tm_wi T B h W E q z i)) (nI (i + 1)) I2
      rw [g_X10_wins_L1, if_neg (nI_ge hi (by omega)), e1, Option.bind_some, tm_won10 x1, a, ← nI_succ i]
      unfold tm_wi
      cases tm_won (tm_rb T B h W E q (tm_zs T B h W E q z i))
      · rw [if_neg (by decide), Option.bind_some, show (0 : Int32) = nI 0 from rfl, nI_add]
        rfl
      · rw [if_pos rfl, Option.bind_some, show (1 : Int32) = nI 1 from rfl, nI_add]
        rfl
  obtain ⟨⟨v, I1⟩, e, a, b⟩ := L
  dsimp only at a b
  refine ⟨I1, ?_, b⟩
  rw [show g_X10_wins_L1 (nI q) (nI n) A 4096 (0 : Int32) (0 : Int32) I = _ from e, a]
theorem tm_q_wins {I : Nat → Int32} {A : Nat → Nat → Int32} (h : tm_Inv I A) (sc : Nat) (a : Int32) (b : Int32) (c : Int32) : ∃ x I1 A1 sc1, g_X9_wins I A sc a b c = some (x, I1, A1, sc1) ∧ ∃ I2 A2, g_X10_wins I1 A1 a b c = some (x, I2, A2) ∧ tm_Inv I2 A2 := by
  obtain ⟨⟨T, s, U, V, t, hP⟩, hT, hS⟩ := id h
  obtain ⟨hW, hR, hC, hH, hrow, hrest⟩ := id hP
  have hv : ∀ v : Int32, tm_H (upd (upd (upd I 12 v) 4400 0) 4411 0) T := fun v => tm_H_of hH ((tm_g44 0 0).trans (tm_12_44 v))
  have hSB := tm_SBt hW (fun p hp => (hrow.1 p hp).2) hrow.2.2.1
  by_cases ka : tm_ok (T 5) a
  · obtain ⟨q, hq, rfl⟩ := ka
    by_cases kb : tm_ok 65537 b
    · have kb2 := tm_65.mpr kb
      obtain ⟨z, hz, rfl⟩ := kb
      by_cases kc : tm_ok 31 c
      · have kc2 : g_X10_in c (0 : Int32) (30 : Int32) = true := (tm_in_k (c := 30) (by decide)).mpr kc
        obtain ⟨n, hn, rfl⟩ := kc
        obtain ⟨I1, A1, e1, k1, f1, s1⟩ := tm_now9 hP hS
        have kS : tm_CS (upd I1 3907 (nI z)) A1 T (s 6) s (tm_Wt T) (tm_Et T) := tm_CS_of k1.2.1 (tm_un _ (by decide)) (tm_un _ (by decide)) rfl rfl
        obtain ⟨I2, A2, e2, z2, f2⟩ := tm_wi9 hW k1.1 kS hSB hq hz (by omega : n ≤ 30) (tm_us _ _ _)
        have f12 : tm_f9 I A I2 A2 := tm_f9_t f1 (tm_f9_t ⟨fun k hk => tm_un _ (by omega), fun _ _ => rfl⟩ f2)
        obtain ⟨r1, r2, r3⟩ := tm_hand hP f12 0
        obtain ⟨A3, e3, k5, f3⟩ := tm_now10 hW r1 r2
        obtain ⟨I4, e4, f4⟩ := tm_wi10 (I := upd (upd (upd (upd (upd I2 12 0) 4400 0) 4411 0) 4430 (-1)) 4431 (nI z)) hW k5 hSB hq hz (by omega : n ≤ 30) (by rw [tm_un _ (by decide), tm_us]) (tm_us _ _ _)
        refine ⟨nI (tm_sm (tm_wi T (s 6) s (tm_Wt T) (tm_Et T) q z) n), upd I2 12 0, A2, 2, ?_, I4, A3, ?_, tm_done h f12 z2 (fun k hk => (f4 k hk).trans (by rw [tm_un _ (by omega), tm_un _ (by omega)])) f3⟩
        · unfold g_X9_wins
          dsimp only [tw_let, g_X9_grant]
          rw [tm_9Quarrel_t hC hW hq, if_pos rfl, if_neg (nI_pos (by omega)), if_neg (show ¬ (65537 : Int32) ≤ nI z from nI_ge (b := 65537) hz (by decide)), if_neg (nI_pos (by omega)), if_pos (show nI n ≤ (30 : Int32) from nI_le (b := 30) (by omega) (by decide)), e1, Option.bind_some]
          dsimp only
          rw [e2, Option.bind_some]
        · unfold g_X10_wins g_X10_good g_X10_drawWhy
          dsimp only [tw_let, g_X10_no]
          rw [tm_10Quarrel_t r1 hW r3 hq, Option.bind_some, kb2, if_pos rfl, kc2, if_neg (by decide), Option.bind_some, show g_X10_why (tw_b true) (1 : Int32) = 0 by decide, if_pos rfl, e3, Option.bind_some, Option.bind_some]
          dsimp only
          rw [if_pos rfl, e4, Option.bind_some]
      · have kc2 : g_X10_in c (0 : Int32) (30 : Int32) = false := by
          cases e : g_X10_in c (0 : Int32) (30 : Int32)
          · rfl
          · exact absurd ((tm_in_k (c := 30) (by decide)).mp e) kc
        have kc3 : ¬ c < 0 → ¬ c ≤ (30 : Int32) := fun g q => by
          have e : g_X10_in c (0 : Int32) (30 : Int32) = true := by
            unfold g_X10_in
            rw [if_neg g]
            exact if_neg (tm_nlt q)
          rw [kc2] at e
          cases e
        refine ⟨-1, upd I 12 2, A, sc, ?_, _, A, ?_, tm_ref h (w := 2) (by decide)⟩
        · unfold g_X9_wins
          dsimp only [tw_let, g_X9_refuse]
          rw [tm_9Quarrel_t hC hW hq, if_pos rfl, if_neg (nI_pos (by omega)), if_neg (show ¬ (65537 : Int32) ≤ nI z from nI_ge (b := 65537) hz (by decide))]
          by_cases g : c < 0
          · rw [if_pos g]
          · rw [if_neg g, if_neg (kc3 g)]
        · unfold g_X10_wins g_X10_good g_X10_drawWhy
          dsimp only [tw_let, g_X10_no]
          rw [tm_10Quarrel_t hR hW (hv 2) hq, Option.bind_some, kb2, if_pos rfl, kc2, if_pos (by decide), Option.bind_some, show g_X10_why (tw_b true) (0 : Int32) = 2 by decide, if_neg (by decide), Option.bind_some]
          dsimp only
          rw [if_neg (by decide)]
    · have kb2 : ¬ g_X10_in b (0 : Int32) (65536 : Int32) = true := fun q => kb (tm_65.mp q)
      refine ⟨-1, upd I 12 2, A, sc, ?_, _, A, ?_, tm_ref h (w := 2) (by decide)⟩
      · unfold g_X9_wins
        dsimp only [tw_let, g_X9_refuse]
        rw [tm_9Quarrel_t hC hW hq, if_pos rfl]
        by_cases g : b < 0
        · rw [if_pos g]
        · rw [if_neg g, if_pos (show (65537 : Int32) ≤ b from tm_ok_f (c := 65537) (by decide) kb g)]
      · unfold g_X10_wins g_X10_good g_X10_drawWhy
        dsimp only [tw_let, g_X10_no]
        rw [tm_10Quarrel_t hR hW (hv 2) hq, Option.bind_some, if_neg kb2, Option.bind_some, show g_X10_why (tw_b true) (0 : Int32) = 2 by decide, if_neg (by decide), Option.bind_some]
        dsimp only
        rw [if_neg (by decide)]
  · refine ⟨-1, upd I 12 1, A, sc, ?_, _, A, ?_, tm_ref h (w := 1) (by decide)⟩
    · unfold g_X9_wins
      dsimp only [tw_let, g_X9_refuse]
      rw [tm_9Quarrel_f hC hW ka, if_neg (by decide)]
    · unfold g_X10_wins g_X10_good g_X10_drawWhy
      dsimp only [tw_let, g_X10_no]
      rw [tm_10Quarrel_f hR hW ka, Option.bind_some, show (if g_X10_in b (0 : Int32) (65536 : Int32) = true then (if tw_b (g_X10_in c (0 : Int32) (30 : Int32)) = 0 then some (0 : Int32) else some (1 : Int32)) else some (0 : Int32)) = some (if g_X10_in b (0 : Int32) (65536 : Int32) = true then (if tw_b (g_X10_in c (0 : Int32) (30 : Int32)) = 0 then (0 : Int32) else 1) else 0) by split <;> (first | rfl | (split <;> rfl)), Option.bind_some, show ∀ v : Int32, g_X10_why (tw_b false) v = 1 from fun _ => rfl, if_neg (by decide), Option.bind_some]
      dsimp only
      rw [if_neg (by decide)]
