/-! MATHEMATICS, 16: two who speak; lowest terms; swings, three -/
theorem tm_heat {I : Nat → Int32} {A : Nat → Nat → Int32} (h : tm_Inv I A) (a : Int32) : (∃ k, k < 10 ∧ a = nI k ∧ g_X9_mayNotHeat I A a = (false, I) ∧ ∀ v : Int32, g_X10_why (upd (upd (upd I 12 v) 4400 0) 4411 0 4414) (tw_b (g_X10_in a (0 : Int32) (9 : Int32))) = 0) ∨ ∃ w : Int32, w ≠ 4 ∧ w ≠ 0 ∧ g_X9_mayNotHeat I A a = (true, upd I 12 w) ∧ ∀ v : Int32, g_X10_why (upd (upd (upd I 12 v) 4400 0) 4411 0 4414) (tw_b (g_X10_in a (0 : Int32) (9 : Int32))) = w := by
  obtain ⟨⟨T, s, U, V, t, hW, hR, hC, hH, hrow, hrest⟩, hT, hS⟩ := h
  have hv : ∀ v : Int32, upd (upd (upd I 12 v) 4400 0) 4411 0 4414 = if T 1 = 0 then (0 : Int32) else 1 := fun v => tm_H_of hH ((tm_g44 0 0).trans (tm_12_44 v))
  unfold g_X9_mayNotHeat
  by_cases h0 : T 1 = 0
  · refine Or.inr ⟨1, by decide, by decide, ?_, fun v => ?_⟩
    · rw [tm_town_f hC h0, if_neg (by decide)]
    · rw [hv v, if_pos h0]
      rfl
  · by_cases k : tm_ok 10 a
    · have i9 : g_X10_in a (0 : Int32) (9 : Int32) = true := (tm_in_k (c := 9) (by decide)).mpr k
      obtain ⟨j, hj, rfl⟩ := k
      refine Or.inl ⟨j, hj, rfl, ?_, fun v => ?_⟩
      · rw [tm_town_t hC hW h0, if_pos rfl, if_neg (nI_pos (by omega)), if_pos (show nI j ≤ (9 : Int32) from nI_le (b := 9) (by omega) (by decide))]
      · rw [hv v, if_neg h0, i9]
        decide
    · have i9 : g_X10_in a (0 : Int32) (9 : Int32) = false := by
        cases e : g_X10_in a (0 : Int32) (9 : Int32)
        · rfl
        · exact absurd ((tm_in_k (c := 9) (by decide)).mp e) k
      refine Or.inr ⟨2, by decide, by decide, ?_, fun v => ?_⟩
      · rw [tm_town_t hC hW h0, if_pos rfl]
        by_cases g : a < 0
        · rw [if_pos g]
        · rw [if_neg g, if_neg]
          intro q
          refine k ((tm_in_k (c := 9) (by decide)).mp ?_)
          unfold g_X10_in
          rw [if_neg g]
          exact if_neg (tm_nlt q)
      · rw [hv v, if_neg h0, i9]
        decide
theorem tm_q_says {I : Nat → Int32} {A : Nat → Nat → Int32} (h : tm_Inv I A) (a b c d : Int32) : ∃ x I1, g_X9_says I A a b c d = (x, I1) ∧ ∃ I2, g_X10_says I1 a b c d = (x, I2) ∧ tm_Inv I2 A := by
  rcases tm_heat h a with ⟨k, hk, rfl, e1, e2⟩ | ⟨w, hw, hw0, e1, e2⟩
  · by_cases g : d = 0
    · refine ⟨g_X9_due (nI k) b c, upd I 12 0, ?_, _, ?_, tm_gr0 h⟩
      · unfold g_X9_says
        dsimp only [tw_let, g_X9_grant]
        rw [e1]
        dsimp only
        rw [if_neg (by decide), if_pos g]
      · unfold g_X10_says g_X10_good
        dsimp only [tw_let]
        rw [e2 0, if_pos rfl, if_pos g]
        rfl
    · refine ⟨g_X9_due (nI k) c b, upd I 12 0, ?_, _, ?_, tm_gr0 h⟩
      · unfold g_X9_says
        dsimp only [tw_let, g_X9_grant]
        rw [e1]
        dsimp only
        rw [if_neg (by decide), if_neg g]
      · unfold g_X10_says g_X10_good
        dsimp only [tw_let]
        rw [e2 0, if_pos rfl, if_neg g]
        rfl
  · refine ⟨-100, upd I 12 w, ?_, _, ?_, tm_ref h hw⟩
    · unfold g_X9_says
      dsimp only [tw_let]
      rw [e1]
      dsimp only
      rw [if_pos rfl]
    · unfold g_X10_says g_X10_good
      dsimp only [tw_let]
      rw [e2 w, if_neg hw0]
def tm_r1 (k : Nat) : Int32 := if k < 2 then 0 else 1
def tm_r2 (k : Nat) : Int32 := if k % 2 = 1 then 1 else 0
def tm_rs (a : Int32) (k : Nat) : Bool := g_X9_isRest a (tm_r1 k) (tm_r2 k)
def tm_rc (a : Int32) (k : Nat) : Nat := tm_sm (fun k => (tm_rs a k).toNat) k
def tm_rv (k : Nat) : Int32 := nI (10 * (k / 2) + k % 2)
theorem tm_4 {P : Nat → Prop} (h0 : P 0) (h1 : P 1) (h2 : P 2) (h3 : P 3) {k : Nat} (hk : k < 4) : P k := by
  rcases (by omega : k = 0 ∨ k = 1 ∨ k = 2 ∨ k = 3) with e | e | e | e <;> subst e <;> assumption
theorem tm_r1_9 {k : Nat} (hk : k < 4) : (if nI k < (2 : Int32) then (some (0 : Int32)) else (some (1 : Int32))) = some (tm_r1 k) := tm_4 (P := fun k => (if nI k < (2 : Int32) then (some (0 : Int32)) else (some (1 : Int32))) = some (tm_r1 k)) (by decide) (by decide) (by decide) (by decide) hk
theorem tm_r1_10 {k : Nat} (hk : k < 4) : (if nI k ≤ (1 : Int32) then (some (0 : Int32)) else (some (1 : Int32))) = some (tm_r1 k) := tm_4 (P := fun k => (if nI k ≤ (1 : Int32) then (some (0 : Int32)) else (some (1 : Int32))) = some (tm_r1 k)) (by decide) (by decide) (by decide) (by decide) hk
theorem tm_r2_9 {k : Nat} (hk : k < 4) : (if (nI k - nI k / (2 : Int32) * (2 : Int32)) = (1 : Int32) then (some (1 : Int32)) else (some (0 : Int32))) = some (tm_r2 k) := tm_4 (P := fun k => (if (nI k - nI k / (2 : Int32) * (2 : Int32)) = (1 : Int32) then (some (1 : Int32)) else (some (0 : Int32))) = some (tm_r2 k)) (by decide) (by decide) (by decide) (by decide) hk
theorem tm_rv9 {k : Nat} (hk : k < 4) : (if nI k < (2 : Int32) then (some (0 : Int32)) else (some (10 : Int32))).map (fun x => x + (nI k - nI k / (2 : Int32) * (2 : Int32))) = some (tm_rv k) := tm_4 (P := fun k => (if nI k < (2 : Int32) then (some (0 : Int32)) else (some (10 : Int32))).map (fun x => x + (nI k - nI k / (2 : Int32) * (2 : Int32))) = some (tm_rv k)) (by decide) (by decide) (by decide) (by decide) hk
theorem tm_rv10 {k : Nat} (hk : k < 4) : ((10 : Int32) * (nI k / (2 : Int32))) + (nI k - nI k / (2 : Int32) * (2 : Int32)) = tm_rv k := tm_4 (P := fun k => ((10 : Int32) * (nI k / (2 : Int32))) + (nI k - nI k / (2 : Int32) * (2 : Int32)) = tm_rv k) (by decide) (by decide) (by decide) (by decide) hk
theorem tm_rs9 (a : Int32) : g_X9_rests_L1 a 4096 (0 : Int32) (0 : Int32) = some (nI (tm_rc a 4)) := by
  refine tm_lp (fun n i (v : Int32) => g_X9_rests_L1 a n v i) 4 0 (fun k => nI (tm_rc a k)) _ (by decide) ?_ ?_ (m := 4096) (by decide)
  · intro n
    show g_X9_rests_L1 a (n + 1) _ (nI 4) = _
    rw [g_X9_rests_L1]
    exact if_pos (by decide)
  · intro n k _ hk
    show g_X9_rests_L1 a (n + 1) (nI (tm_rc a k)) (nI k) = g_X9_rests_L1 a n (nI (tm_rc a k + (tm_rs a k).toNat)) (nI (k + 1))
    rw [g_X9_rests_L1, if_neg (tm_ge4 hk), tm_r1_9 hk, Option.bind_some, tm_r2_9 hk, Option.bind_some, show g_X9_isRest a (tm_r1 k) (tm_r2 k) = tm_rs a k from rfl, ← nI_succ k]
    cases tm_rs a k
    · rw [if_neg (by decide), Option.bind_some]
      rfl
    · rw [if_pos rfl, Option.bind_some, ← nI_succ]
      rfl
theorem tm_rf9 (a : Int32) (I : Nat → Int32) : g_X9_rest_L1 a I (fun _ => tw_let (g_X9_grant I (-2 : Int32)) fun (x19, I20) => some (x19, I20)) 4096 (0 : Int32) = some (if tm_ff (tm_rs a) 4 < 4 then tm_rv (tm_ff (tm_rs a) 4) else -2, upd I 12 0) := by
  have hl := tm_ff_le (tm_rs a) 4
  refine tm_lp (fun n i (_ : Unit) => g_X9_rest_L1 a I (fun _ => tw_let (g_X9_grant I (-2 : Int32)) fun (x19, I20) => some (x19, I20)) n i) (tm_ff (tm_rs a) 4) 0 (fun _ => ()) _ (Nat.zero_le _) ?_ ?_ (m := 4096) (by omega)
  · intro n
    show g_X9_rest_L1 a I _ (n + 1) (nI (tm_ff (tm_rs a) 4)) = _
    by_cases g : tm_ff (tm_rs a) 4 < 4
    · rw [g_X9_rest_L1, if_neg (tm_ge4 g), tm_r1_9 g, Option.bind_some, tm_r2_9 g, Option.bind_some, if_pos (show g_X9_isRest a (tm_r1 (tm_ff (tm_rs a) 4)) (tm_r2 (tm_ff (tm_rs a) 4)) = true from tm_ff_yes (tm_rs a) 4 g), if_pos g]
      have e := tm_rv9 g
      rw [Option.map_eq_some_iff] at e
      obtain ⟨x, x1, x2⟩ := e
      rw [x1, Option.bind_some]
      dsimp only [tw_let, g_X9_grant]
      rw [x2]
    · rw [if_neg g, g_X9_rest_L1, show tm_ff (tm_rs a) 4 = 4 by omega]
      exact if_pos (by decide)
  · intro n k _ hk
    show g_X9_rest_L1 a I _ (n + 1) (nI k) = g_X9_rest_L1 a I _ n (nI (k + 1))
    have hk4 : k < 4 := by omega
    rw [g_X9_rest_L1, if_neg (tm_ge4 hk4), tm_r1_9 hk4, Option.bind_some, tm_r2_9 hk4, Option.bind_some, if_neg (by rw [show g_X9_isRest a (tm_r1 k) (tm_r2 k) = false from tm_ff_no (tm_rs a) 4 k hk]; decide), ← nI_succ]
theorem tm_ff_cnt (f : Nat → Bool) : ∀ n, tm_sm (fun k => (f k).toNat) n = 0 ↔ ¬ tm_ff f n < n
  | 0 => ⟨fun _ => Nat.lt_irrefl 0, fun _ => rfl⟩
  | n + 1 => by
    have ih := tm_ff_cnt f n
    have hl := tm_ff_le f n
    rw [tm_sm, tm_ff]
    by_cases g : tm_ff f n < n
    · rw [if_pos g]
      constructor
      · intro e
        exact absurd g (ih.mp (by omega))
      · intro e
        omega
    · rw [if_neg g]
      have e0 := ih.mpr g
      cases e : f n
      · rw [if_neg (by decide), e0]
        exact ⟨fun _ => Nat.lt_irrefl _, fun _ => rfl⟩
      · rw [if_pos rfl, e0]
        constructor
        · intro q
          cases q
        · intro q
          exact absurd (Nat.lt_succ_self n) q
theorem tm_due : g_X10_saysOf = g_X9_due := rfl
theorem tm_rs10 (a : Int32) (I : Nat → Int32) : ∃ I1, g_X10_seekRests I a = some (nI (tm_rc a 4), I1) ∧ I1 4436 = (if tm_ff (tm_rs a) 4 < 4 then tm_rv (tm_ff (tm_rs a) 4) else -2) ∧ ∀ k, k ≠ 4436 → I1 k = I k := by
  have L : ∃ r, g_X10_seekRests_L1 a 4096 (0 : Int32) (nI 0) (upd I 4436 (-2 : Int32)) = some r ∧ (r.1 = nI (tm_rc a 4) ∧ r.2 4436 = (if tm_ff (tm_rs a) 4 < 4 then tm_rv (tm_ff (tm_rs a) 4) else -2) ∧ ∀ k, k ≠ 4436 → r.2 k = I k) := by
    refine tm_lr (fun n i (s : Int32 × (Nat → Int32)) => g_X10_seekRests_L1 a n s.1 i s.2) 4 0 (by decide) (fun i s => s.1 = nI (tm_rc a i) ∧ s.2 4436 = (if tm_ff (tm_rs a) i < i then tm_rv (tm_ff (tm_rs a) i) else -2) ∧ ∀ k, k ≠ 4436 → s.2 k = I k) _ ?_ ?_ (s := ((0 : Int32), upd I 4436 (-2 : Int32))) ⟨rfl, (by dsimp only; rw [tm_us]; exact (if_neg (Nat.not_lt_zero _)).symm), fun k hk => tm_un _ hk⟩ (m := 4096) (by decide)
    · rintro n ⟨v, I1⟩ ⟨x, y, z⟩
      refine ⟨(v, I1), ?_, x, y, z⟩
      show g_X10_seekRests_L1 a (n + 1) v (nI 4) I1 = _
      rw [g_X10_seekRests_L1]
      exact if_pos (by decide)
    · rintro n k ⟨v, I1⟩ _ hk _ ⟨x, y, z⟩
      dsimp only at x y z
      have hc : tm_rc a k ≤ 4 := by
        have := tm_sm_le (f := fun k => (tm_rs a k).toNat) (c := 1) (n := k) (fun i _ => by have := tm_tb (tm_rs a i); omega)
        unfold tm_rc
        omega
      have hfc : tm_rc a k = 0 ↔ ¬ tm_ff (tm_rs a) k < k := tm_ff_cnt (tm_rs a) k
      subst x
      have S : g_X10_seekRests_L1 a (n + 1) (nI (tm_rc a k)) (nI k) I1 = if tm_rs a k = true then g_X10_seekRests_L1 a n (nI (tm_rc a k + 1)) (nI (k + 1)) (if tm_rc a k = 0 then upd I1 4436 (tm_rv k) else I1) else g_X10_seekRests_L1 a n (nI (tm_rc a k)) (nI (k + 1)) I1 := by
        have t1 : (if tm_r1 k = 0 then (some (1 : Int32)) else (some (0 : Int32))) = some (if tm_r1 k = 0 then (1 : Int32) else 0) := tm_ifs _ _ _
        have t2 : (if tm_r2 k = 0 then (some (1 : Int32)) else (some (0 : Int32))) = some (if tm_r2 k = 0 then (1 : Int32) else 0) := tm_ifs _ _ _
        rw [g_X10_seekRests_L1, if_neg (tm_ge4 hk), tm_r1_10 hk, Option.bind_some, tm_r2_9 hk, Option.bind_some, t1, Option.bind_some, t2, Option.bind_some, tm_rv10 hk, ← nI_succ k, ← nI_succ (tm_rc a k)]
        have hrs : tm_rs a k = if g_X9_due a (tm_r1 k) (tm_r2 k) < g_X9_due a (if tm_r1 k = 0 then (1 : Int32) else 0) (tm_r2 k) then false else if g_X9_due a (tm_r2 k) (tm_r1 k) < g_X9_due a (if tm_r2 k = 0 then (1 : Int32) else 0) (tm_r1 k) then false else true := rfl
        rw [tm_due]
        by_cases g1 : g_X9_due a (tm_r1 k) (tm_r2 k) < g_X9_due a (if tm_r1 k = 0 then (1 : Int32) else 0) (tm_r2 k)
        · rw [if_pos g1] at hrs
          rw [if_pos g1, Option.bind_some, hrs, if_neg (by decide)]
        · rw [if_neg g1] at hrs
          rw [if_neg g1]
          by_cases g2 : g_X9_due a (if tm_r2 k = 0 then (1 : Int32) else 0) (tm_r1 k) ≤ g_X9_due a (tm_r2 k) (tm_r1 k)
          · rw [if_neg (tm_nlt g2)] at hrs
            rw [if_pos g2, hrs, if_pos rfl]
            by_cases g3 : tm_rc a k = 0
            · rw [if_pos ((tm_z (by omega)).mpr g3), Option.bind_some, Option.bind_some, if_pos g3]
            · rw [if_neg (fun q => g3 ((tm_z (by omega)).mp q)), Option.bind_some, Option.bind_some, if_neg g3]
          · have g3 : g_X9_due a (tm_r2 k) (tm_r1 k) < g_X9_due a (if tm_r2 k = 0 then (1 : Int32) else 0) (tm_r1 k) := by
              rw [Int32.le_iff_toInt_le] at g2
              rw [Int32.lt_iff_toInt_lt]
              omega
            rw [if_pos g3] at hrs
            rw [if_neg g2, Option.bind_some, hrs, if_neg (by decide)]
      dsimp only
      rw [S]
      cases e : tm_rs a k
      · rw [if_neg (by decide)]
        refine Or.inr ⟨(nI (tm_rc a k), I1), ⟨?_, ?_, z⟩, rfl⟩
        · show nI (tm_rc a k) = nI (tm_rc a k + (tm_rs a k).toNat)
          rw [e]
          rfl
        · dsimp only
          rw [y, tm_ff, e]
          have hl := tm_ff_le (tm_rs a) k
          by_cases g : tm_ff (tm_rs a) k < k
          · rw [if_pos g, if_pos g, if_pos (by omega)]
          · rw [if_neg g, if_neg g, if_neg (show ¬ (false = true) by decide), if_neg (by omega)]
      · rw [if_pos rfl]
        refine Or.inr ⟨(nI (tm_rc a k + 1), if tm_rc a k = 0 then upd I1 4436 (tm_rv k) else I1), ⟨?_, ?_, fun j hj => ?_⟩, rfl⟩
        · show nI (tm_rc a k + 1) = nI (tm_rc a k + (tm_rs a k).toNat)
          rw [e]
          rfl
        · dsimp only
          rw [tm_ff, e]
          have hl := tm_ff_le (tm_rs a) k
          by_cases g : tm_ff (tm_rs a) k < k
          · rw [if_neg (fun q => absurd g (hfc.mp q)), y, if_pos g, if_pos g, if_pos (by omega)]
          · rw [if_pos (hfc.mpr g), tm_us, if_neg g, if_pos (show true = true from rfl), if_pos (by omega)]
        · dsimp only
          split
          · rw [tm_un _ hj, z j hj]
          · exact z j hj
  obtain ⟨⟨v, I1⟩, e, x, y⟩ := L
  dsimp only at x y
  refine ⟨I1, ?_, y⟩
  unfold g_X10_seekRests
  rw [show g_X10_seekRests_L1 a 4096 (0 : Int32) (0 : Int32) (upd I 4436 (-2 : Int32)) = _ from e, Option.bind_some, x]
theorem tm_q_rests {I : Nat → Int32} {A : Nat → Nat → Int32} (h : tm_Inv I A) (a : Int32) : ∃ x I1, g_X9_rests I A a = some (x, I1) ∧ ∃ I2, g_X10_rests I1 a = some (x, I2) ∧ tm_Inv I2 A := by
  rcases tm_heat h a with ⟨k, hk, rfl, e1, e2⟩ | ⟨w, hw, hw0, e1, e2⟩
  · obtain ⟨I3, x1, x2, x3⟩ := tm_rs10 (nI k) (upd (upd (upd I 12 0) 4400 0) 4411 0)
    refine ⟨nI (tm_rc (nI k) 4), upd I 12 0, ?_, I3, ?_, tm_gr h (fun _ _ => rfl) (fun _ _ => rfl) h.2.2 (fun k hk => x3 k (by omega)) (fun _ _ => rfl)⟩
    · unfold g_X9_rests
      dsimp only [tw_let, g_X9_grant]
      rw [e1]
      dsimp only
      rw [if_neg (by decide), tm_rs9, Option.bind_some]
    · unfold g_X10_rests g_X10_good
      dsimp only [tw_let, g_X10_no]
      rw [e2 0, if_pos rfl, x1, Option.bind_some]
  · refine ⟨-1, upd I 12 w, ?_, _, ?_, tm_ref h hw⟩
    · unfold g_X9_rests
      dsimp only [tw_let]
      rw [e1]
      dsimp only
      rw [if_pos rfl]
    · unfold g_X10_rests g_X10_good
      dsimp only [tw_let, g_X10_no]
      rw [e2 w, if_neg hw0]
theorem tm_q_rest {I : Nat → Int32} {A : Nat → Nat → Int32} (h : tm_Inv I A) (a : Int32) : ∃ x I1, g_X9_rest I A a = some (x, I1) ∧ ∃ I2, g_X10_rest I1 a = some (x, I2) ∧ tm_Inv I2 A := by
  rcases tm_heat h a with ⟨k, hk, rfl, e1, e2⟩ | ⟨w, hw, hw0, e1, e2⟩
  · obtain ⟨I3, x1, x2, x3⟩ := tm_rs10 (nI k) (upd (upd (upd I 12 0) 4400 0) 4411 0)
    refine ⟨if tm_ff (tm_rs (nI k)) 4 < 4 then tm_rv (tm_ff (tm_rs (nI k)) 4) else -2, upd I 12 0, ?_, I3, ?_, tm_gr h (fun _ _ => rfl) (fun _ _ => rfl) h.2.2 (fun k hk => x3 k (by omega)) (fun _ _ => rfl)⟩
    · unfold g_X9_rest
      rw [e1]
      dsimp only [tw_let]
      rw [if_neg (by decide)]
      exact tm_rf9 (nI k) I
    · unfold g_X10_rest g_X10_good
      dsimp only [tw_let, g_X10_no]
      rw [e2 0, if_pos rfl, x1, Option.bind_some]
      dsimp only
      rw [x2]
  · refine ⟨-1, upd I 12 w, ?_, _, ?_, tm_ref h hw⟩
    · unfold g_X9_rest
      rw [e1]
      dsimp only [tw_let]
      rw [if_pos rfl]
    · unfold g_X10_rest g_X10_good
      dsimp only [tw_let, g_X10_no]
      rw [e2 w, if_neg hw0]
