/-! MATHEMATICS, 33: the call lasts -/
theorem tm_GG_le {e : Nat → Nat} {c K : Nat} (hc : c ≤ 100) (m : Nat) : tm_GG e c K m ≤ 100 ^ m := by
  rw [← tm_GG_0 (e := e) hc m]
  unfold tm_GG
  refine (tm_sm_mono fun i _ => ?_).1
  have e1 : (if tm_sv e i 0 = true then tm_wg c i m else 0) = tm_wg c i m := if_pos rfl
  rw [e1]
  split <;> omega
theorem tm_q_lasts {I : Nat → Int32} {L : Nat → Int64} {A : Nat → Nat → Int32} (h : tm_Inv I A) (sc : Nat) (a b c : Int32) : ∃ x I1 L1 A1 sc1, g_X9_lasts I L A sc a b c = some (x, I1, L1, A1, sc1) ∧ ∃ I2 A2, g_X10_lasts I1 A1 a b c = some (x, I2, A2) ∧ tm_Inv I2 A2 := by
  obtain ⟨⟨T, s, U, V, t, hP⟩, hT, hS⟩ := id h
  obtain ⟨hW, hR, hC, hH, hrow, hrest⟩ := id hP
  have hv : ∀ v : Int32, tm_H (upd (upd (upd I 12 v) 4400 0) 4411 0) T := fun v => tm_H_of hH ((tm_g44 0 0).trans (tm_12_44 v))
  have hSB := tm_SBt hW (fun p hp => (hrow.1 p hp).2) hrow.2.2.1
  have hc := tm_W_b0 hW
  by_cases ka : tm_ok (T 5) a
  · obtain ⟨q, hq, rfl⟩ := ka
    by_cases kb : tm_ok 7 b
    · have kb2 := tm_06.mpr kb
      obtain ⟨n, hn7, rfl⟩ := kb
      have hn : n ≤ 6 := by omega
      obtain ⟨I1, A1, e1, k1, f1, s1⟩ := tm_now9 hP hS
      obtain ⟨L2, A2, e2, l1, l2, f2⟩ := tm_we9 (L := L) hW k1 hSB hq hn
      have f12 : tm_f9 I A I1 A2 := tm_f9_t f1 ⟨fun _ _ => rfl, fun c hc => f2 c (by omega)⟩
      obtain ⟨r1, r2, r3⟩ := tm_hand hP f12 0
      obtain ⟨A3, e3, k3, f3⟩ := tm_now10 hW r1 r2
      obtain ⟨I4, e4, f4⟩ := tm_la10 (I := upd (upd (upd I1 12 0) 4400 0) 4411 0) hW k3 hSB hq hn
      have hKn : tm_Kq T (tm_Wt T) q n ≤ n := by
        have := tm_KK_le (tm_wn (tm_gain T (tm_Wt T) q) (nI (T (84 + 5 * q)))) (min n (60 - T (83 + 5 * q)))
        unfold tm_Kq
        omega
      have b1 : (100 : Nat) ^ 6 < 2 ^ 62 := by decide
      have b2 : (100 : Nat) ^ tm_Kq T (tm_Wt T) q n ≤ 100 ^ 6 := Nat.pow_le_pow_right (by decide) (by omega)
      have b3 : (100 : Nat) ^ n ≤ 100 ^ 6 := Nat.pow_le_pow_right (by decide) hn
      have p1 : 0 < (100 : Nat) ^ tm_Kq T (tm_Wt T) q n := Nat.pow_pos (by decide)
      have p2 : 0 < (100 : Nat) ^ n := Nat.pow_pos (by decide)
      have p3 : 0 < (100 : Nat) ^ (n - tm_Kq T (tm_Wt T) q n) := Nat.pow_pos (by decide)
      have g1 := tm_GG_le (e := tm_ee T (s 6) s (tm_Wt T) (tm_Et T) q) (K := tm_Kq T (tm_Wt T) q n) hc (tm_Kq T (tm_Wt T) q n)
      have g2 := tm_GG_le (e := tm_ee T (s 6) s (tm_Wt T) (tm_Et T) q) (K := tm_Kq T (tm_Wt T) q n) hc n
      have eq1 := tm_GG_e (e := tm_ee T (s 6) s (tm_Wt T) (tm_Et T) q) (K := tm_Kq T (tm_Wt T) q n) hc (n - tm_Kq T (tm_Wt T) q n)
      have eq2 : tm_Kq T (tm_Wt T) q n + (n - tm_Kq T (tm_Wt T) q n) = n := by omega
      have eq3 : (100 : Nat) ^ n = 100 ^ tm_Kq T (tm_Wt T) q n * 100 ^ (n - tm_Kq T (tm_Wt T) q n) := by rw [← Nat.pow_add, eq2]
      rw [eq2] at eq1
      refine ⟨tm_lw (tm_GG (tm_ee T (s 6) s (tm_Wt T) (tm_Et T) q) (T 0) (tm_Kq T (tm_Wt T) q n) (tm_Kq T (tm_Wt T) q n)) (100 ^ tm_Kq T (tm_Wt T) q n) c, upd I1 12 0, L2, A2, 2, ?_, I4, A3, ?_, tm_done h f12 k1.2.2 f4 f3⟩
      · unfold g_X9_lasts
        dsimp only [tw_let, g_X9_refuse]
        rw [tm_9Quarrel_t hC hW hq, if_pos rfl, if_neg (nI_pos (by omega)), if_pos (show nI n ≤ (6 : Int32) from nI_le (b := 6) hn (by decide)), e1, Option.bind_some]
        dsimp only
        rw [e2, Option.bind_some]
        dsimp only
        rw [l1, l2, tm_lt9 (by omega) (by omega) p1, Option.bind_some]
      · unfold g_X10_lasts g_X10_good
        dsimp only [tw_let, g_X10_no]
        rw [tm_10Quarrel_t r1 hW r3 hq, Option.bind_some, kb2, tm_why_tt, if_pos rfl, e3, Option.bind_some, e4, Option.bind_some]
        dsimp only
        rw [tm_lt10 (by omega) (by omega) p2, Option.bind_some, eq1, eq3, tm_lw_s p1 p3]
    · have kb2 : g_X10_in b (0 : Int32) (6 : Int32) = false := by
        cases e : g_X10_in b (0 : Int32) (6 : Int32)
        · rfl
        · exact absurd (tm_06.mp e) kb
      refine ⟨(-1 : Int32).toInt64, upd I 12 2, L, A, sc, ?_, _, A, ?_, tm_ref h (w := 2) (by decide)⟩
      · unfold g_X9_lasts
        dsimp only [tw_let, g_X9_refuse]
        rw [tm_9Quarrel_t hC hW hq, if_pos rfl]
        by_cases g : b < 0
        · rw [if_pos g]
        · have g7 := tm_ok_f (by decide) kb g
          rw [if_neg g, if_neg (fun q => by
            rw [Int32.le_iff_toInt_le] at q g7
            have z1 : (nI 7).toInt = 7 := by decide
            have z2 : (6 : Int32).toInt = 6 := by decide
            omega)]
      · unfold g_X10_lasts g_X10_good
        dsimp only [tw_let, g_X10_no]
        rw [tm_10Quarrel_t hR hW (hv 2) hq, Option.bind_some, kb2, tm_why_tf, if_neg (by decide)]
  · refine ⟨(-1 : Int32).toInt64, upd I 12 1, L, A, sc, ?_, _, A, ?_, tm_ref h (w := 1) (by decide)⟩
    · unfold g_X9_lasts
      dsimp only [tw_let, g_X9_refuse]
      rw [tm_9Quarrel_f hC hW ka, if_neg (by decide)]
    · unfold g_X10_lasts g_X10_good
      dsimp only [tw_let, g_X10_no]
      rw [tm_10Quarrel_f hR hW ka, Option.bind_some, tm_why_f, if_neg (by decide)]
