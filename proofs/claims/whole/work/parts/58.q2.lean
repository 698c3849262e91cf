/-! MATHEMATICS, 9: the calls that look, 2 -/
theorem tm_why_tt : g_X10_why (tw_b true) (tw_b true) = 0 := by decide
theorem tm_why_tf : g_X10_why (tw_b true) (tw_b false) = 2 := by decide
theorem tm_why_f (b : Bool) : g_X10_why (tw_b false) (tw_b b) = 1 := rfl
theorem tm_hand {I I1 : Nat → Int32} {A A1 : Nat → Nat → Int32} {T s : Nat → Nat} {U V t : Nat} (hP : tm_P I A T s U V t) (f : tm_f9 I A I1 A1) (v : Int32) : tm_R A1 T ∧ tm_row T (I 3300) (I 3301) (I 3302) (A1 49) s ∧ tm_H (upd (upd (upd I1 12 v) 4400 0) 4411 0) T := by
  obtain ⟨hW, hR, hC, hH, hrow, -⟩ := hP
  refine ⟨tm_R_of hR (f.2 47 (by decide)), by rw [f.2 49 (by decide)]; exact hrow, tm_H_of hH ?_⟩
  rw [tm_g44, tm_12_44, f.1 4414 (by decide)]
theorem tm_done {I Ia I2 : Nat → Int32} {A A1 A2 : Nat → Nat → Int32} (h : tm_Inv I A) (f : tm_f9 I A Ia A1) (hs : tm_Sd Ia) (f3 : ∀ k, k < 4425 → I2 k = upd (upd (upd Ia 12 0) 4400 0) 4411 0 k) (f4 : ∀ c, c < 52 → A2 c = A1 c) : tm_Inv I2 A2 := tm_gr h f.1 f.2 hs f3 f4
theorem tm_K9_up {I : Nat → Int32} {A : Nat → Nat → Int32} {T : Nat → Nat} {B : Nat} {h W E : Nat → Nat} (k : tm_K9 I A T B h W E) : tm_Sd I := k.2.2
theorem tm_q_at {I : Nat → Int32} {A : Nat → Nat → Int32} (h : tm_Inv I A) (sc : Nat) (a : Int32) (b : Int32) : ∃ x I1 A1 sc1, g_X9_at I A sc a b = some (x, I1, A1, sc1) ∧ ∃ I2 A2, g_X10_at I1 A1 a b = some (x, I2, A2) ∧ tm_Inv I2 A2 := by
  obtain ⟨⟨T, s, U, V, t, hP⟩, hT, hS⟩ := id h
  obtain ⟨hW, hR, hC, hH, hrow, hrest⟩ := id hP
  have hv : ∀ v : Int32, tm_H (upd (upd (upd I 12 v) 4400 0) 4411 0) T := fun v => tm_H_of hH ((tm_g44 0 0).trans (tm_12_44 v))
  have hSB := tm_SBt hW (fun p hp => (hrow.1 p hp).2) hrow.2.2.1
  by_cases ka : tm_ok (T 3) a
  · obtain ⟨p, hp, rfl⟩ := ka
    by_cases kb : tm_ok 60 b
    · obtain ⟨m, hm, rfl⟩ := kb
      obtain ⟨I1, A1, e1, k1, f1, s1⟩ := tm_now9 hP hS
      obtain ⟨r1, r2, r3⟩ := tm_hand hP f1 0
      obtain ⟨A2, e2, k2, f2⟩ := tm_now10 hW r1 r2
      refine ⟨nI (tm_pl T s p m), upd I1 12 0, A1, 2, ?_, _, A2, ?_, tm_done h f1 k1.2.2 (fun _ _ => rfl) f2⟩
      · unfold g_X9_at
        dsimp only [tw_let, g_X9_grant]
        rw [tm_9Person_t hC hW hp, if_pos rfl, tm_9min_t hm, if_pos rfl, e1, Option.bind_some]
        dsimp only
        rw [tm_spot k1.1 hW k1.2.1 hSB.2.1 hp hm]
      · unfold g_X10_at g_X10_good
        dsimp only [tw_let, g_X10_no]
        rw [tm_10Person_t r1 hW r3 hp, Option.bind_some, tm_10min_t hm, tm_why_tt, if_pos rfl, e2, Option.bind_some, tm_plc k2.1 hW k2.2 hSB.2.1 hp hm, Option.bind_some]
    · refine ⟨-1, upd I 12 2, A, sc, ?_, _, A, ?_, tm_ref h (w := 2) (by decide)⟩
      · unfold g_X9_at
        dsimp only [tw_let, g_X9_refuse]
        rw [tm_9Person_t hC hW hp, if_pos rfl, tm_9min_f kb, if_neg (by decide)]
      · unfold g_X10_at g_X10_good
        dsimp only [tw_let, g_X10_no]
        rw [tm_10Person_t hR hW (hv 2) hp, Option.bind_some, tm_10min_f kb, tm_why_tf, if_neg (by decide)]
  · refine ⟨-1, upd I 12 1, A, sc, ?_, _, A, ?_, tm_ref h (w := 1) (by decide)⟩
    · unfold g_X9_at
      dsimp only [tw_let, g_X9_refuse]
      rw [tm_9Person_f hC hW ka, if_neg (by decide)]
    · unfold g_X10_at g_X10_good
      dsimp only [tw_let, g_X10_no]
      rw [tm_10Person_f hR hW ka, Option.bind_some, tm_why_f, if_neg (by decide)]
theorem tm_q_into {I : Nat → Int32} {A : Nat → Nat → Int32} (h : tm_Inv I A) (sc : Nat) (a : Int32) : ∃ x I1 A1 sc1, g_X9_into I A sc a = some (x, I1, A1, sc1) ∧ ∃ I2 A2, g_X10_into I1 A1 a = some (x, I2, A2) ∧ tm_Inv I2 A2 := by
  obtain ⟨⟨T, s, U, V, t, hP⟩, hT, hS⟩ := id h
  obtain ⟨hW, hR, hC, hH, hrow, hrest⟩ := id hP
  have hv : ∀ v : Int32, tm_H (upd (upd (upd I 12 v) 4400 0) 4411 0) T := fun v => tm_H_of hH ((tm_g44 0 0).trans (tm_12_44 v))
  have hSB := tm_SBt hW (fun p hp => (hrow.1 p hp).2) hrow.2.2.1
  by_cases ka : tm_ok (T 1) a
  · obtain ⟨p, hp, rfl⟩ := ka
    obtain ⟨I1, A1, e1, k1, f1, s1⟩ := tm_now9 hP hS
    obtain ⟨r1, r2, r3⟩ := tm_hand hP f1 0
    obtain ⟨A2, e2, k2, f2⟩ := tm_now10 hW r1 r2
    refine ⟨nI (tm_vwk T (s 6) p (T 2)), upd I1 12 0, A1, 2, ?_, _, A2, ?_, tm_done h f1 k1.2.2 (fun _ _ => rfl) f2⟩
    · unfold g_X9_into
      dsimp only [tw_let, g_X9_grant]
      rw [tm_9Place_t hC hW hp, if_pos rfl, e1, Option.bind_some]
      dsimp only
      rw [tm_vw k1.1 hW k1.2.1.1 hSB.1 hp, Option.bind_some]
    · unfold g_X10_into g_X10_good
      dsimp only [tw_let, g_X10_no]
      rw [tm_10Place_t r1 hW r3 hp, Option.bind_some, if_pos rfl, e2, Option.bind_some, tm_io k2.1 hW k2.2.2.1 hSB.1 hp, Option.bind_some]
  · refine ⟨-1, upd I 12 1, A, sc, ?_, _, A, ?_, tm_ref h (w := 1) (by decide)⟩
    · unfold g_X9_into
      dsimp only [tw_let, g_X9_refuse]
      rw [tm_9Place_f hC hW ka, if_neg (by decide)]
    · unfold g_X10_into g_X10_good
      dsimp only [tw_let, g_X10_no]
      rw [tm_10Place_f hR hW ka, Option.bind_some, if_neg (by decide)]
theorem tm_q_watchers {I : Nat → Int32} {A : Nat → Nat → Int32} (h : tm_Inv I A) (sc : Nat) (a : Int32) (b : Int32) : ∃ x I1 A1 sc1, g_X9_watchers I A sc a b = some (x, I1, A1, sc1) ∧ ∃ I2 A2, g_X10_watchers I1 A1 a b = some (x, I2, A2) ∧ tm_Inv I2 A2 := by
  obtain ⟨⟨T, s, U, V, t, hP⟩, hT, hS⟩ := id h
  obtain ⟨hW, hR, hC, hH, hrow, hrest⟩ := id hP
  have hv : ∀ v : Int32, tm_H (upd (upd (upd I 12 v) 4400 0) 4411 0) T := fun v => tm_H_of hH ((tm_g44 0 0).trans (tm_12_44 v))
  have hSB := tm_SBt hW (fun p hp => (hrow.1 p hp).2) hrow.2.2.1
  by_cases ka : tm_ok (T 1) a
  · obtain ⟨p, hp, rfl⟩ := ka
    by_cases kb : tm_ok 60 b
    · obtain ⟨m, hm, rfl⟩ := kb
      obtain ⟨I1, A1, e1, k1, f1, s1⟩ := tm_now9 hP hS
      obtain ⟨r1, r2, r3⟩ := tm_hand hP f1 0
      obtain ⟨A2, e2, k2, f2⟩ := tm_now10 hW r1 r2
      have hwl := tm_wt_lt (T := T) (s 6) s p m
      refine ⟨nI (tm_wt T (s 6) s p m), upd I1 12 0, A1, 2, ?_, _, A2, ?_, tm_done h f1 k1.2.2 (fun _ _ => rfl) f2⟩
      · unfold g_X9_watchers g_X9_mayNotLook
        dsimp only [tw_let, g_X9_grant]
        rw [tm_9Place_t hC hW hp, if_pos rfl, tm_9min_t hm, if_pos rfl, e1, Option.bind_some]
        dsimp only
        rw [Option.bind_some]
        dsimp only
        rw [if_neg (by decide)]
        rw [tm_seers k1.1 hW k1.2.1 hSB hp hm, Option.bind_some]
      · unfold g_X10_watchers g_X10_good
        dsimp only [tw_let, g_X10_no]
        rw [tm_10Place_t r1 hW r3 hp, Option.bind_some, tm_10min_t hm, tm_why_tt, if_pos rfl, e2, Option.bind_some]
        rw [tm_wo k2.1 hW k2.2 hSB hp hm, Option.bind_some]
    · refine ⟨-1, upd I 12 2, A, sc, ?_, _, A, ?_, tm_ref h (w := 2) (by decide)⟩
      · unfold g_X9_watchers g_X9_mayNotLook
        rw [tm_9Place_t hC hW hp, if_pos rfl, tm_9min_f kb, if_neg (by decide), Option.bind_some]
        dsimp only
        rw [if_pos rfl]
      · unfold g_X10_watchers g_X10_good
        dsimp only [tw_let, g_X10_no]
        rw [tm_10Place_t hR hW (hv 2) hp, Option.bind_some, tm_10min_f kb, tm_why_tf, if_neg (by decide)]
  · refine ⟨-1, upd I 12 1, A, sc, ?_, _, A, ?_, tm_ref h (w := 1) (by decide)⟩
    · unfold g_X9_watchers g_X9_mayNotLook
      rw [tm_9Place_f hC hW ka, if_neg (by decide), Option.bind_some]
      dsimp only
      rw [if_pos rfl]
    · unfold g_X10_watchers g_X10_good
      dsimp only [tw_let, g_X10_no]
      rw [tm_10Place_f hR hW ka, Option.bind_some, tm_why_f, if_neg (by decide)]
theorem tm_q_eyes {I : Nat → Int32} {A : Nat → Nat → Int32} (h : tm_Inv I A) (sc : Nat) (a : Int32) (b : Int32) : ∃ x I1 A1 sc1, g_X9_eyes I A sc a b = some (x, I1, A1, sc1) ∧ ∃ I2 A2, g_X10_eyes I1 A1 a b = some (x, I2, A2) ∧ tm_Inv I2 A2 := by
  obtain ⟨⟨T, s, U, V, t, hP⟩, hT, hS⟩ := id h
  obtain ⟨hW, hR, hC, hH, hrow, hrest⟩ := id hP
  have hv : ∀ v : Int32, tm_H (upd (upd (upd I 12 v) 4400 0) 4411 0) T := fun v => tm_H_of hH ((tm_g44 0 0).trans (tm_12_44 v))
  have hSB := tm_SBt hW (fun p hp => (hrow.1 p hp).2) hrow.2.2.1
  by_cases ka : tm_ok (T 1) a
  · obtain ⟨p, hp, rfl⟩ := ka
    by_cases kb : tm_ok 60 b
    · obtain ⟨m, hm, rfl⟩ := kb
      obtain ⟨I1, A1, e1, k1, f1, s1⟩ := tm_now9 hP hS
      obtain ⟨r1, r2, r3⟩ := tm_hand hP f1 0
      obtain ⟨A2, e2, k2, f2⟩ := tm_now10 hW r1 r2
      have hwl := tm_wt_lt (T := T) (s 6) s p m
      refine ⟨nI (tm_ey (tm_Et T) (tm_wt T (s 6) s p m) (T 3)), upd I1 12 0, A1, 2, ?_, _, A2, ?_, tm_done h f1 k1.2.2 (fun _ _ => rfl) f2⟩
      · unfold g_X9_eyes g_X9_mayNotLook
        dsimp only [tw_let, g_X9_grant]
        rw [tm_9Place_t hC hW hp, if_pos rfl, tm_9min_t hm, if_pos rfl, e1, Option.bind_some]
        dsimp only
        rw [Option.bind_some]
        dsimp only
        rw [if_neg (by decide)]
        rw [tm_seers k1.1 hW k1.2.1 hSB hp hm, Option.bind_some, tm_eye9 hW (fun p hp => (k1.2.1.2.2 p hp).2) hwl, Option.bind_some]
      · unfold g_X10_eyes g_X10_good
        dsimp only [tw_let, g_X10_no]
        rw [tm_10Place_t r1 hW r3 hp, Option.bind_some, tm_10min_t hm, tm_why_tt, if_pos rfl, e2, Option.bind_some]
        have h3 := tm_W_b3 hW
        have hw2 : tm_wt T (s 6) s p m < 64 := tm_bs6 _ h3
        rw [tm_wo k2.1 hW k2.2 hSB hp hm, Option.bind_some, tm_eye10 k2.1 hW (fun p hp => (k2.2.2.2 p hp).2) (by omega), Option.bind_some]
    · refine ⟨-1, upd I 12 2, A, sc, ?_, _, A, ?_, tm_ref h (w := 2) (by decide)⟩
      · unfold g_X9_eyes g_X9_mayNotLook
        rw [tm_9Place_t hC hW hp, if_pos rfl, tm_9min_f kb, if_neg (by decide), Option.bind_some]
        dsimp only
        rw [if_pos rfl]
      · unfold g_X10_eyes g_X10_good
        dsimp only [tw_let, g_X10_no]
        rw [tm_10Place_t hR hW (hv 2) hp, Option.bind_some, tm_10min_f kb, tm_why_tf, if_neg (by decide)]
  · refine ⟨-1, upd I 12 1, A, sc, ?_, _, A, ?_, tm_ref h (w := 1) (by decide)⟩
    · unfold g_X9_eyes g_X9_mayNotLook
      rw [tm_9Place_f hC hW ka, if_neg (by decide), Option.bind_some]
      dsimp only
      rw [if_pos rfl]
    · unfold g_X10_eyes g_X10_good
      dsimp only [tw_let, g_X10_no]
      rw [tm_10Place_f hR hW ka, Option.bind_some, tm_why_f, if_neg (by decide)]
theorem tm_q_ends {I : Nat → Int32} {A : Nat → Nat → Int32} (h : tm_Inv I A) (sc : Nat) (a : Int32) : ∃ x I1 A1 sc1, g_X9_ends I A sc a = some (x, I1, A1, sc1) ∧ ∃ I2 A2, g_X10_ends I1 A1 a = some (x, I2, A2) ∧ tm_Inv I2 A2 := by
  obtain ⟨⟨T, s, U, V, t, hP⟩, hT, hS⟩ := id h
  obtain ⟨hW, hR, hC, hH, hrow, hrest⟩ := id hP
  have hv : ∀ v : Int32, tm_H (upd (upd (upd I 12 v) 4400 0) 4411 0) T := fun v => tm_H_of hH ((tm_g44 0 0).trans (tm_12_44 v))
  have hSB := tm_SBt hW (fun p hp => (hrow.1 p hp).2) hrow.2.2.1
  by_cases ka : tm_ok (T 5) a
  · obtain ⟨q, hq, rfl⟩ := ka
    obtain ⟨I1, A1, e1, k1, f1, s1⟩ := tm_now9 hP hS
    obtain ⟨I2, A2, e2, x2, k2, f2, -⟩ := tm_rt9 hW k1 hSB hq
    have f12 := tm_f9_t f1 f2
    obtain ⟨r1, r2, r3⟩ := tm_hand hP f12 0
    obtain ⟨A3, e3, k3, f3⟩ := tm_now10 hW r1 r2
    obtain ⟨I4, e4, x4, f4⟩ := tm_rt10 (I := upd (upd (upd I2 12 0) 4400 0) 4411 0) hW k3 hSB hq
    generalize hr : tm_res T (s 6) s (tm_Wt T) (tm_Et T) q (T (82 + 5 * q)) (T (83 + 5 * q)) = r at x2 x4
    have hr0 := hr
    refine ⟨r.1, upd I2 12 0, A2, 2, ?_, I4, A3, ?_, tm_done h f12 k2.2.2 (fun k hk => f4 k (by omega)) f3⟩
    · unfold g_X9_ends g_X9_runsNow
      dsimp only [tw_let, g_X9_grant]
      rw [tm_9Quarrel_t hC hW hq, if_pos rfl, e1, Option.bind_some]
      dsimp only
      rw [e2, Option.bind_some]
      dsimp only
      rw [Option.bind_some]
      dsimp only
      rw [if_pos rfl]
      rw [x2.1]
    · unfold g_X10_ends g_X10_good g_X10_goOver
      dsimp only [tw_let, g_X10_no]
      rw [tm_10Quarrel_t r1 hW r3 hq, Option.bind_some, if_pos rfl, e3, Option.bind_some, e4, Option.bind_some, Option.bind_some]
      dsimp only
      rw [if_pos rfl]
      rw [x4.1]
  · refine ⟨-1, upd I 12 1, A, sc, ?_, _, A, ?_, tm_ref h (w := 1) (by decide)⟩
    · unfold g_X9_ends g_X9_runsNow
      dsimp only [tw_let, g_X9_deny]
      rw [tm_9Quarrel_f hC hW ka, if_neg (by decide), Option.bind_some]
      dsimp only
      rw [if_neg (by decide)]
    · unfold g_X10_ends g_X10_good g_X10_goOver
      dsimp only [tw_let, g_X10_no]
      rw [tm_10Quarrel_f hR hW ka, Option.bind_some, if_neg (by decide), Option.bind_some]
      dsimp only
      rw [if_neg (by decide)]
theorem tm_q_endsAt {I : Nat → Int32} {A : Nat → Nat → Int32} (h : tm_Inv I A) (sc : Nat) (a : Int32) : ∃ x I1 A1 sc1, g_X9_endsAt I A sc a = some (x, I1, A1, sc1) ∧ ∃ I2 A2, g_X10_endsAt I1 A1 a = some (x, I2, A2) ∧ tm_Inv I2 A2 := by
  obtain ⟨⟨T, s, U, V, t, hP⟩, hT, hS⟩ := id h
  obtain ⟨hW, hR, hC, hH, hrow, hrest⟩ := id hP
  have hv : ∀ v : Int32, tm_H (upd (upd (upd I 12 v) 4400 0) 4411 0) T := fun v => tm_H_of hH ((tm_g44 0 0).trans (tm_12_44 v))
  have hSB := tm_SBt hW (fun p hp => (hrow.1 p hp).2) hrow.2.2.1
  by_cases ka : tm_ok (T 5) a
  · obtain ⟨q, hq, rfl⟩ := ka
    obtain ⟨I1, A1, e1, k1, f1, s1⟩ := tm_now9 hP hS
    obtain ⟨I2, A2, e2, x2, k2, f2, -⟩ := tm_rt9 hW k1 hSB hq
    have f12 := tm_f9_t f1 f2
    obtain ⟨r1, r2, r3⟩ := tm_hand hP f12 0
    obtain ⟨A3, e3, k3, f3⟩ := tm_now10 hW r1 r2
    obtain ⟨I4, e4, x4, f4⟩ := tm_rt10 (I := upd (upd (upd I2 12 0) 4400 0) 4411 0) hW k3 hSB hq
    generalize hr : tm_res T (s 6) s (tm_Wt T) (tm_Et T) q (T (82 + 5 * q)) (T (83 + 5 * q)) = r at x2 x4
    have hr0 := hr
    refine ⟨r.2.1, upd I2 12 0, A2, 2, ?_, I4, A3, ?_, tm_done h f12 k2.2.2 (fun k hk => f4 k (by omega)) f3⟩
    · unfold g_X9_endsAt g_X9_runsNow
      dsimp only [tw_let, g_X9_grant]
      rw [tm_9Quarrel_t hC hW hq, if_pos rfl, e1, Option.bind_some]
      dsimp only
      rw [e2, Option.bind_some]
      dsimp only
      rw [Option.bind_some]
      dsimp only
      rw [if_pos rfl]
      rw [x2.2.1]
    · unfold g_X10_endsAt g_X10_good g_X10_goOver
      dsimp only [tw_let, g_X10_no]
      rw [tm_10Quarrel_t r1 hW r3 hq, Option.bind_some, if_pos rfl, e3, Option.bind_some, e4, Option.bind_some, Option.bind_some]
      dsimp only
      rw [if_pos rfl]
      rw [x4.2.1]
  · refine ⟨-1, upd I 12 1, A, sc, ?_, _, A, ?_, tm_ref h (w := 1) (by decide)⟩
    · unfold g_X9_endsAt g_X9_runsNow
      dsimp only [tw_let, g_X9_deny]
      rw [tm_9Quarrel_f hC hW ka, if_neg (by decide), Option.bind_some]
      dsimp only
      rw [if_neg (by decide)]
    · unfold g_X10_endsAt g_X10_good g_X10_goOver
      dsimp only [tw_let, g_X10_no]
      rw [tm_10Quarrel_f hR hW ka, Option.bind_some, if_neg (by decide), Option.bind_some]
      dsimp only
      rw [if_neg (by decide)]
theorem tm_q_lead {I : Nat → Int32} {A : Nat → Nat → Int32} (h : tm_Inv I A) (sc : Nat) (a : Int32) : ∃ x I1 A1 sc1, g_X9_lead I A sc a = some (x, I1, A1, sc1) ∧ ∃ I2 A2, g_X10_lead I1 A1 a = some (x, I2, A2) ∧ tm_Inv I2 A2 := by
  obtain ⟨⟨T, s, U, V, t, hP⟩, hT, hS⟩ := id h
  obtain ⟨hW, hR, hC, hH, hrow, hrest⟩ := id hP
  have hv : ∀ v : Int32, tm_H (upd (upd (upd I 12 v) 4400 0) 4411 0) T := fun v => tm_H_of hH ((tm_g44 0 0).trans (tm_12_44 v))
  have hSB := tm_SBt hW (fun p hp => (hrow.1 p hp).2) hrow.2.2.1
  by_cases ka : tm_ok (T 5) a
  · obtain ⟨q, hq, rfl⟩ := ka
    obtain ⟨I1, A1, e1, k1, f1, s1⟩ := tm_now9 hP hS
    obtain ⟨I2, A2, e2, x2, k2, f2, -⟩ := tm_rt9 hW k1 hSB hq
    have f12 := tm_f9_t f1 f2
    obtain ⟨r1, r2, r3⟩ := tm_hand hP f12 0
    obtain ⟨A3, e3, k3, f3⟩ := tm_now10 hW r1 r2
    obtain ⟨I4, e4, x4, f4⟩ := tm_rt10 (I := upd (upd (upd I2 12 0) 4400 0) 4411 0) hW k3 hSB hq
    generalize hr : tm_res T (s 6) s (tm_Wt T) (tm_Et T) q (T (82 + 5 * q)) (T (83 + 5 * q)) = r at x2 x4
    have hr0 := hr
    refine ⟨r.2.2.1 + 1000, upd I2 12 0, A2, 2, ?_, I4, A3, ?_, tm_done h f12 k2.2.2 (fun k hk => f4 k (by omega)) f3⟩
    · unfold g_X9_lead g_X9_runsNow
      dsimp only [tw_let, g_X9_grant]
      rw [tm_9Quarrel_t hC hW hq, if_pos rfl, e1, Option.bind_some]
      dsimp only
      rw [e2, Option.bind_some]
      dsimp only
      rw [Option.bind_some]
      dsimp only
      rw [if_pos rfl]
      rw [x2.2.2.1]
    · unfold g_X10_lead g_X10_good g_X10_goOver
      dsimp only [tw_let, g_X10_no]
      rw [tm_10Quarrel_t r1 hW r3 hq, Option.bind_some, if_pos rfl, e3, Option.bind_some, e4, Option.bind_some, Option.bind_some]
      dsimp only
      rw [if_pos rfl]
      rw [x4.2.2.1]
  · refine ⟨-1, upd I 12 1, A, sc, ?_, _, A, ?_, tm_ref h (w := 1) (by decide)⟩
    · unfold g_X9_lead g_X9_runsNow
      dsimp only [tw_let, g_X9_deny]
      rw [tm_9Quarrel_f hC hW ka, if_neg (by decide), Option.bind_some]
      dsimp only
      rw [if_neg (by decide)]
    · unfold g_X10_lead g_X10_good g_X10_goOver
      dsimp only [tw_let, g_X10_no]
      rw [tm_10Quarrel_f hR hW ka, Option.bind_some, if_neg (by decide), Option.bind_some]
      dsimp only
      rw [if_neg (by decide)]
theorem tm_q_seen {I : Nat → Int32} {A : Nat → Nat → Int32} (h : tm_Inv I A) (sc : Nat) (a : Int32) : ∃ x I1 A1 sc1, g_X9_seen I A sc a = some (x, I1, A1, sc1) ∧ ∃ I2 A2, g_X10_seen I1 A1 a = some (x, I2, A2) ∧ tm_Inv I2 A2 := by
  obtain ⟨⟨T, s, U, V, t, hP⟩, hT, hS⟩ := id h
  obtain ⟨hW, hR, hC, hH, hrow, hrest⟩ := id hP
  have hv : ∀ v : Int32, tm_H (upd (upd (upd I 12 v) 4400 0) 4411 0) T := fun v => tm_H_of hH ((tm_g44 0 0).trans (tm_12_44 v))
  have hSB := tm_SBt hW (fun p hp => (hrow.1 p hp).2) hrow.2.2.1
  by_cases ka : tm_ok (T 5) a
  · obtain ⟨q, hq, rfl⟩ := ka
    obtain ⟨I1, A1, e1, k1, f1, s1⟩ := tm_now9 hP hS
    obtain ⟨I2, A2, e2, x2, k2, f2, -⟩ := tm_rt9 hW k1 hSB hq
    have f12 := tm_f9_t f1 f2
    obtain ⟨r1, r2, r3⟩ := tm_hand hP f12 0
    obtain ⟨A3, e3, k3, f3⟩ := tm_now10 hW r1 r2
    obtain ⟨I4, e4, x4, f4⟩ := tm_rt10 (I := upd (upd (upd I2 12 0) 4400 0) 4411 0) hW k3 hSB hq
    generalize hr : tm_res T (s 6) s (tm_Wt T) (tm_Et T) q (T (82 + 5 * q)) (T (83 + 5 * q)) = r at x2 x4
    have hr0 := hr
    refine ⟨nI r.2.2.2.1, upd I2 12 0, A2, 2, ?_, I4, A3, ?_, tm_done h f12 k2.2.2 (fun k hk => f4 k (by omega)) f3⟩
    · unfold g_X9_seen g_X9_runsNow
      dsimp only [tw_let, g_X9_grant]
      rw [tm_9Quarrel_t hC hW hq, if_pos rfl, e1, Option.bind_some]
      dsimp only
      rw [e2, Option.bind_some]
      dsimp only
      rw [Option.bind_some]
      dsimp only
      rw [if_pos rfl]
      rw [x2.2.2.2.1]
    · unfold g_X10_seen g_X10_good g_X10_goOver
      dsimp only [tw_let, g_X10_no]
      rw [tm_10Quarrel_t r1 hW r3 hq, Option.bind_some, if_pos rfl, e3, Option.bind_some, e4, Option.bind_some, Option.bind_some]
      dsimp only
      rw [if_pos rfl]
      rw [x4.2.2.2.1]
  · refine ⟨-1, upd I 12 1, A, sc, ?_, _, A, ?_, tm_ref h (w := 1) (by decide)⟩
    · unfold g_X9_seen g_X9_runsNow
      dsimp only [tw_let, g_X9_deny]
      rw [tm_9Quarrel_f hC hW ka, if_neg (by decide), Option.bind_some]
      dsimp only
      rw [if_neg (by decide)]
    · unfold g_X10_seen g_X10_good g_X10_goOver
      dsimp only [tw_let, g_X10_no]
      rw [tm_10Quarrel_f hR hW ka, Option.bind_some, if_neg (by decide), Option.bind_some]
      dsimp only
      rw [if_neg (by decide)]
