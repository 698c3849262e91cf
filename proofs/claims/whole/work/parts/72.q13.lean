/-! MATHEMATICS, 23: stoppers, price -/
theorem tm_bm_ok (ok : Nat → Bool) (c : Nat → Nat) : ∀ n b, tm_bm ok c n = some b → ok b = true
  | 0, b, h => by cases h
  | n + 1, b, h => by
    rw [tm_bm] at h
    cases e : tm_bm ok c n with
    | none =>
      rw [e] at h
      dsimp only at h
      split at h
      · next g =>
        cases h
        exact g
      · cases h
    | some b' =>
      rw [e] at h
      dsimp only at h
      split at h
      · next g =>
        cases h
        exact g.1
      · cases h
        exact tm_bm_ok ok c n _ e
def tm_hir (T s : Nat → Nat) (p : Nat) : Bool := decide (0 < T (29 + 4 * p)) && decide (s p = 0)
def tm_may (T s : Nat → Nat) (q : Nat) : Nat := tm_dn (tm_bs (tm_hir T s) (T 3)) (tm_two T q)
theorem tm_may_lt (T s : Nat → Nat) (q : Nat) : tm_may T s q < 2 ^ T 3 := tm_dn_lt (tm_bs_lt _ _)
theorem tm_rf_9 {I : Nat → Int32} {A : Nat → Nat → Int32} {T s : Nat → Nat} (hW : tm_W T) (hC : tm_C A T) (hI : I 3602 = nI (tm_pk s)) (hs : ∀ p, p < 6 → s p ≤ T 1) {q : Nat} (hq : q < T 5) : g_X3_readyFor I A (nI q) = some (nI (tm_may T s q)) := by
  have h3 := tm_W_b3 hW
  have h1 := tm_W_b1 hW
  unfold g_X3_readyFor
  rw [show g_X3_readyFor_L1 I A 4096 (0 : Int32) (0 : Int32) = some (nI (tm_bs (tm_hir T s) (T 3))) from ?_, Option.bind_some, tm_twoOf hC hW hq, tm_dnI]
  · rfl
  refine tm_lp (fun n i (v : Int32) => g_X3_readyFor_L1 I A n v i) (T 3) 0 (fun i => nI (tm_bs (tm_hir T s) i)) _ (Nat.zero_le _) ?_ ?_ (m := 4096) (by omega)
  · intro n
    show g_X3_readyFor_L1 I A (n + 1) _ (nI (T 3)) = _
    rw [g_X3_readyFor_L1, tm_cn3 hC, if_pos (nI_le (Nat.le_refl _) (by omega))]
  · intro n i _ hi
    have hsi := hs i (by omega)
    have e8 : s i < 8 := by omega
    show g_X3_readyFor_L1 I A (n + 1) (nI (tm_bs (tm_hir T s) i)) (nI i) = g_X3_readyFor_L1 I A n (nI (tm_bs (tm_hir T s) (i + 1))) (nI (i + 1))
    have K : (if (g_X0_sentTo (I 3602) (nI i)) = (-1 : Int32) then (some (0 : Int32)) else (some (1 : Int32))) = some (if s i = 0 then (0 : Int32) else 1) := by
      rw [hI, tm_sent (by omega) e8, tm_m1v e8]
      by_cases e : s i = 0
      · rw [if_pos e, if_pos e, if_pos rfl]
      · rw [if_neg e, if_neg e, if_neg (tm_nm1 (by omega))]
    rw [g_X3_readyFor_L1, tm_cn3 hC, if_neg (nI_ge hi (by omega)), K, Option.bind_some, tm_ch9 hC hW (by omega), ← nI_succ i, ← tm_acc (tm_hir T s i) (tm_hir T s) (i := i) (by omega) rfl]
    unfold tm_hir
    by_cases c1 : 0 < T (29 + 4 * i)
    · rw [decide_eq_true c1, if_pos rfl, Bool.true_and]
      by_cases c2 : s i = 0
      · rw [if_pos c2, if_pos rfl, Option.bind_some, decide_eq_true c2, if_pos rfl]
      · rw [if_neg c2, if_neg (by decide), Option.bind_some, decide_eq_false c2, if_neg (by decide)]
    · rw [decide_eq_false c1, if_neg (by decide), Option.bind_some, Bool.false_and, if_neg (by decide)]
theorem tm_rf_10 {A : Nat → Nat → Int32} {T s : Nat → Nat} (hW : tm_W T) (hR : tm_R A T) {x y z : Int32} (hrow : tm_row T x y z (A 49) s) {q : Nat} (hq : q < T 5) : g_X10_stoppersOf_L1 A (nI q) 4096 (0 : Int32) (0 : Int32) = some (nI (tm_may T s q)) := by
  have h3 := tm_W_b3 hW
  have h1 := tm_W_b1 hW
  have h5 := tm_W_b5 hW
  have hqq := tm_W_q hW q hq
  have e0 : tm_may T s q = tm_bs (fun p => tm_hir T s p && !(tm_two T q).testBit p) (T 3) := by
    refine tm_ext (n := T 3) (tm_may_lt T s q) (tm_bs_lt _ _) fun i hi => ?_
    unfold tm_may
    rw [tm_dnB, tm_bsB, tm_bsB, decide_eq_true hi, Bool.true_and, Bool.true_and]
  rw [e0]
  refine tm_lp (fun n i (v : Int32) => g_X10_stoppersOf_L1 A (nI q) n v i) (T 3) 0 (fun i => nI (tm_bs (fun p => tm_hir T s p && !(tm_two T q).testBit p) i)) _ (Nat.zero_le _) ?_ ?_ (m := 4096) (by omega)
  · intro n
    show g_X10_stoppersOf_L1 A (nI q) (n + 1) _ (nI (T 3)) = _
    rw [g_X10_stoppersOf_L1, tm_r_c3 hR, Option.bind_some, if_pos (nI_le (Nat.le_refl _) (by omega))]
  · intro n i _ hi
    have hsi := hrow.1 i (by omega)
    have htw : (tm_two T q).testBit i = (decide (T (80 + 5 * q) = i) || decide (T (81 + 5 * q) = i)) := by
      unfold tm_two
      rw [Nat.testBit_or, tm_twB, tm_twB]
    show g_X10_stoppersOf_L1 A (nI q) (n + 1) (nI (tm_bs (fun p => tm_hir T s p && !(tm_two T q).testBit p) i)) (nI i) = g_X10_stoppersOf_L1 A (nI q) n (nI (tm_bs (fun p => tm_hir T s p && !(tm_two T q).testBit p) (i + 1))) (nI (i + 1))
    rw [g_X10_stoppersOf_L1, tm_r_c3 hR, Option.bind_some, if_neg (nI_ge hi (by omega)), tm_ch10 hR hW (by omega), Option.bind_some, ← nI_succ i, ← tm_acc (tm_hir T s i && !(tm_two T q).testBit i) (fun p => tm_hir T s p && !(tm_two T q).testBit p) (i := i) (by omega) rfl, htw]
    unfold tm_hir
    by_cases c1 : 0 < T (29 + 4 * i)
    · rw [decide_eq_true c1, if_pos rfl, tm_ld (by omega : i < 8) (by decide), Option.bind_some, hsi.1, Bool.true_and]
      by_cases c2 : s i = 0
      · rw [if_pos ((tm_z (by omega)).mpr c2), tm_r_q0 hR (by omega), Option.bind_some, decide_eq_true c2, Bool.true_and]
        by_cases c3 : T (80 + 5 * q) = i
        · rw [if_pos (by rw [c3]), Option.bind_some, decide_eq_true c3, Bool.true_or, if_neg (by decide)]
        · rw [if_neg (fun g => c3 ((nI_eq (by omega) (by omega)).mp g).symm), tm_r_q1 hR (by omega), Option.bind_some, decide_eq_false c3, Bool.false_or]
          by_cases c4 : T (81 + 5 * q) = i
          · rw [if_pos (by rw [c4]), Option.bind_some, decide_eq_true c4, if_neg (by decide)]
          · rw [if_neg (fun g => c4 ((nI_eq (by omega) (by omega)).mp g).symm), Option.bind_some, decide_eq_false c4, if_pos (by decide)]
      · rw [if_neg (fun g => c2 ((tm_z (by omega)).mp g)), Option.bind_some, decide_eq_false c2, Bool.false_and, if_neg (by decide)]
    · rw [decide_eq_false c1, if_neg (by decide), Option.bind_some, Bool.false_and, Bool.false_and, if_neg (by decide)]
/-- prices -/
def tm_pr (T : Nat → Nat) (n set : Nat) : Nat := tm_sm (fun p => if set.testBit p = true then T (29 + 4 * p) - 1 else 0) n
theorem tm_pr_le {T : Nat → Nat} (hW : tm_W T) (set : Nat) : ∀ n, n ≤ 6 → tm_pr T n set ≤ 20 * n := fun n hn => by
  refine tm_sm_le fun i hi => ?_
  have := tm_W_h hW i (by omega)
  split <;> omega
theorem tm_prx (A : Nat → Nat → Int32) {T : Nat → Nat} (hC : tm_C A T) (hW : tm_W T) (set : Nat) (hs : set < 2 ^ 31) : ∃ v, g_X8_priceOf_2 A (nI set) = some v ∧ ((∀ p, p < T 3 → set.testBit p = true → 0 < T (29 + 4 * p)) → v = nI (tm_pr T (T 3) set)) := by
  have h3 := tm_W_b3 hW
  have L : ∃ v, g_X8_priceOf_2_L1 A (nI set) 4096 (0 : Int32) (nI 0) = some v ∧ ((∀ p, p < T 3 → set.testBit p = true → 0 < T (29 + 4 * p)) → v = nI (tm_pr T (T 3) set)) := by
    refine tm_lr (fun n i (s : Int32) => g_X8_priceOf_2_L1 A (nI set) n s i) (T 3) 0 (Nat.zero_le _) (fun i s => (∀ p, p < T 3 → set.testBit p = true → 0 < T (29 + 4 * p)) → s = nI (tm_pr T i set)) _ ?_ ?_ (s := (0 : Int32)) (fun _ => rfl) (m := 4096) (by omega)
    · intro n s a
      refine ⟨s, ?_, a⟩
      show g_X8_priceOf_2_L1 A (nI set) (n + 1) s (nI (T 3)) = _
      rw [g_X8_priceOf_2_L1, tm_cn3 hC, if_pos (nI_le (Nat.le_refl _) (by omega))]
    · intro n i s _ hi _ a
      have hpr := tm_W_h hW i (by omega)
      cases e : set.testBit i
      · refine Or.inr ⟨s + 0, fun h => ?_, ?_⟩
        · rw [a h, show (0 : Int32) = nI 0 from rfl, nI_add]
          show nI (tm_pr T i set + 0) = nI (tm_pr T i set + (if set.testBit i = true then T (29 + 4 * i) - 1 else 0))
          rw [e, if_neg (by decide)]
        · show g_X8_priceOf_2_L1 A (nI set) (n + 1) s (nI i) = g_X8_priceOf_2_L1 A (nI set) n (s + 0) (nI (i + 1))
          rw [g_X8_priceOf_2_L1, tm_cn3 hC, if_neg (nI_ge hi (by omega)), if_pos ((tm_b0 hs (by omega)).mpr e), Option.bind_some, ← nI_succ]
      · refine Or.inr ⟨s + tm_o (T (29 + 4 * i)), fun h => ?_, ?_⟩
        · have := h i hi e
          rw [a h]
          unfold tm_o
          rw [if_neg (by omega), nI_add]
          show nI (tm_pr T i set + _) = nI (tm_pr T i set + (if set.testBit i = true then T (29 + 4 * i) - 1 else 0))
          rw [e, if_pos rfl]
        · show g_X8_priceOf_2_L1 A (nI set) (n + 1) s (nI i) = g_X8_priceOf_2_L1 A (nI set) n _ (nI (i + 1))
          rw [g_X8_priceOf_2_L1, tm_cn3 hC, if_neg (nI_ge hi (by omega)), if_neg (fun q => by rw [(tm_b0 hs (by omega)).mp q] at e; cases e), Option.bind_some, tm_get (by omega) (by decide), tm_C_pr hC i (by omega), ← nI_succ]
  obtain ⟨v, e, a⟩ := L
  refine ⟨v, ?_, a⟩
  unfold g_X8_priceOf_2
  rw [show g_X8_priceOf_2_L1 A (nI set) 4096 (0 : Int32) (0 : Int32) = _ from e, Option.bind_some]
theorem tm_pr10 {A : Nat → Nat → Int32} {T : Nat → Nat} (hR : tm_R A T) (hW : tm_W T) {set : Nat} (hs : set < 2 ^ 31) (h : ∀ p, p < T 3 → set.testBit p = true → 0 < T (29 + 4 * p)) : g_X10_priceOf A (nI set) = some (nI (tm_pr T (T 3) set)) := by
  have h3 := tm_W_b3 hW
  unfold g_X10_priceOf
  rw [show g_X10_priceOf_L1 A (nI set) 4096 (0 : Int32) (0 : Int32) = some (nI (tm_pr T (T 3) set)) from ?_, Option.bind_some]
  refine tm_lp (fun n i (v : Int32) => g_X10_priceOf_L1 A (nI set) n v i) (T 3) 0 (fun i => nI (tm_pr T i set)) _ (Nat.zero_le _) ?_ ?_ (m := 4096) (by omega)
  · intro n
    show g_X10_priceOf_L1 A (nI set) (n + 1) _ (nI (T 3)) = _
    rw [g_X10_priceOf_L1, tm_r_c3 hR, Option.bind_some, if_pos (nI_le (Nat.le_refl _) (by omega))]
  · intro n i _ hi
    have hpr := tm_W_h hW i (by omega)
    show g_X10_priceOf_L1 A (nI set) (n + 1) (nI (tm_pr T i set)) (nI i) = g_X10_priceOf_L1 A (nI set) n (nI (tm_pr T i set + (if set.testBit i = true then T (29 + 4 * i) - 1 else 0))) (nI (i + 1))
    rw [g_X10_priceOf_L1, tm_r_c3 hR, Option.bind_some, if_neg (nI_ge hi (by omega)), tm_has hs (by omega), ← nI_succ i]
    cases e : set.testBit i
    · rw [if_neg (by decide), Option.bind_some, if_neg (by decide), show (0 : Int32) = nI 0 from rfl, nI_add]
    · have := h i hi e
      rw [if_pos rfl, tm_r_p3 hR (by omega), Option.bind_some, Option.bind_some, if_pos rfl, show nI (T (29 + 4 * i)) - 1 = nI (T (29 + 4 * i) - 1) from pk_sub (a := T (29 + 4 * i)) (b := 1) (by omega), nI_add]
/-- a set of people sent to a place -/
def tm_hq (h : Nat → Nat) (set t : Nat) : Nat → Nat := fun p => if set.testBit p = true then t + 1 else h p
theorem tm_SB_q {T : Nat → Nat} {B : Nat} {h W E : Nat → Nat} (hSB : tm_SB T B h W E) {set t : Nat} (ht : t < T 1) : tm_SB T B (tm_hq h set t) W E := by
  refine ⟨hSB.1, fun j hj => ?_, hSB.2.2⟩
  unfold tm_hq
  split
  · omega
  · exact hSB.2.1 j hj
theorem tm_sa9 {I : Nat → Int32} {h : Nat → Nat} (hI : I 3602 = nI (tm_pk h)) {set t : Nat} (hs : set < 2 ^ 31) (ht : t < 6) : ∃ I1, g_X3_sendAll I (nI set) (nI t) = some I1 ∧ I1 3602 = nI (tm_pk (tm_hq h set t)) ∧ ∀ k, k ≠ 3602 → I1 k = I k := by
  have L : ∃ r, g_X3_sendAll_L1 (nI set) (nI t) 4096 (nI 0) I = some r ∧ (r 3602 = nI (tm_pk (tm_hq h set t)) ∧ ∀ k, k ≠ 3602 → r k = I k) := by
    refine tm_lr (fun n i (s : Nat → Int32) => g_X3_sendAll_L1 (nI set) (nI t) n i s) 6 0 (by decide) (fun i s => s 3602 = nI (tm_pk (fun p => if p < i ∧ set.testBit p = true then t + 1 else h p)) ∧ ∀ k, k ≠ 3602 → s k = I k) _ ?_ ?_ (s := I) ⟨?_, fun _ _ => rfl⟩ (m := 4096) (by decide)
    · rintro n s ⟨a, b⟩
      refine ⟨s, ?_, ?_, b⟩
      · show g_X3_sendAll_L1 (nI set) (nI t) (n + 1) (nI 6) s = _
        rw [g_X3_sendAll_L1]
        exact if_pos (by decide)
      · rw [a, tm_pk_cong fun p hp => ?_]
        unfold tm_hq
        by_cases e : set.testBit p = true
        · rw [if_pos ⟨hp, e⟩, if_pos e]
        · rw [if_neg (fun q => e q.2), if_neg e]
    · rintro n i s _ hi _ ⟨a, b⟩
      cases e : set.testBit i
      · refine Or.inr ⟨s, ⟨?_, b⟩, ?_⟩
        · rw [a, tm_pk_cong fun p hp => ?_]
          by_cases q : p < i ∧ set.testBit p = true
          · rw [if_pos q, if_pos ⟨by omega, q.2⟩]
          · rw [if_neg q, if_neg]
            rintro ⟨q1, q2⟩
            by_cases q3 : p = i
            · rw [q3, e] at q2
              cases q2
            · exact q ⟨by omega, q2⟩
        · rw [g_X3_sendAll_L1, if_neg (tm_ge6 hi), if_pos ((tm_b0 hs (by omega)).mpr e), Option.bind_some, ← nI_succ]
      · refine Or.inr ⟨upd s 3602 (nI (tm_pk (fun p => if p < i + 1 ∧ set.testBit p = true then t + 1 else h p))), ⟨tm_us _ _ _, fun k hk => (tm_un _ hk).trans (b k hk)⟩, ?_⟩
        rw [g_X3_sendAll_L1, if_neg (tm_ge6 hi), if_neg (fun q => by rw [(tm_b0 hs (by omega)).mp q] at e; cases e), Option.bind_some, a, tm_sending hi (by omega : t + 1 < 8) (nI_succ t).symm, ← nI_succ, tm_pk_cong fun p hp => ?_]
        by_cases q3 : p = i
        · rw [if_pos q3, if_pos ⟨by omega, by rw [q3]; exact e⟩]
        · rw [if_neg q3]
          by_cases q : p < i ∧ set.testBit p = true
          · rw [if_pos q, if_pos ⟨by omega, q.2⟩]
          · rw [if_neg q, if_neg (fun r => q ⟨by omega, r.2⟩)]
    · rw [hI, tm_pk_cong fun p hp => ?_]
      rw [if_neg (fun q => by omega)]
  obtain ⟨I1, e, a⟩ := L
  refine ⟨I1, ?_, a⟩
  unfold g_X3_sendAll
  rw [show g_X3_sendAll_L1 (nI set) (nI t) 4096 (0 : Int32) I = _ from e, Option.bind_some]
/-- sets by which it is stopped -/
def tm_sk (T : Nat → Nat) (B : Nat) (h W E : Nat → Nat) (q set : Nat) : Bool := decide (tm_dn set (tm_may T h q) = 0 ∧ (tm_res T B (tm_hq h set (T (82 + 5 * q))) W E q (T (82 + 5 * q)) (T (83 + 5 * q))).1 = 0)
theorem tm_may_h {T h : Nat → Nat} {q set : Nat} (e : tm_dn set (tm_may T h q) = 0) : ∀ p, p < T 3 → set.testBit p = true → 0 < T (29 + 4 * p) := by
  intro p hp hb
  have g := tm_dn0.mp e p hb
  unfold tm_may at g
  rw [tm_dnB, tm_bsB, decide_eq_true hp, Bool.true_and] at g
  unfold tm_hir at g
  by_cases c : 0 < T (29 + 4 * p)
  · exact c
  · rw [decide_eq_false c] at g
    cases g
theorem tm_cs9 {I : Nat → Int32} {A : Nat → Nat → Int32} {T : Nat → Nat} {B : Nat} {h W E : Nat → Nat} (hW : tm_W T) (hK : tm_K9 I A T B h W E) (hSB : tm_SB T B h W E) {q : Nat} (hq : q < T 5) : ∃ I1 A1, g_X3_cheapestStoppers I A (nI q) = some (tm_oi (tm_bm (tm_sk T B h W E q) (tm_pr T (T 3)) (2 ^ T 3)), I1, A1) ∧ tm_K9 I1 A1 T B h W E ∧ tm_f9 I A I1 A1 := by
  have h3 := tm_W_b3 hW
  have h1 := tm_W_b1 hW
  have h26 : (2 : Nat) ^ T 3 ≤ 64 := Nat.pow_le_pow_right (n := 2) (by decide) h3
  have hml := tm_may_lt T h q
  have hqq := tm_W_q hW q hq
  rw [tm_bm_to (ok := tm_sk T B h W E q) (c := tm_pr T (T 3)) (n := tm_may T h q + 1) (by omega) (fun i h1 _ => decide_eq_false (by
    rintro ⟨g, -⟩
    have := tm_sub_le g
    omega))]
  have L : ∃ r, g_X3_cheapestStoppers_L1 I (nI q) (nI (tm_may T h q)) 4096 (-2 : Int32) (nI 0) I A = some r ∧ (r.1 = tm_oi (tm_bm (tm_sk T B h W E q) (tm_pr T (T 3)) (tm_may T h q + 1)) ∧ tm_K9 r.2.1 r.2.2 T B h W E ∧ tm_f9 I A r.2.1 r.2.2) := by
    refine tm_lr (fun n i (s : Int32 × (Nat → Int32) × (Nat → Nat → Int32)) => g_X3_cheapestStoppers_L1 I (nI q) (nI (tm_may T h q)) n s.1 i s.2.1 s.2.2) (tm_may T h q + 1) 0 (Nat.zero_le _) (fun i s => s.1 = tm_oi (tm_bm (tm_sk T B h W E q) (tm_pr T (T 3)) i) ∧ tm_K9 s.2.1 s.2.2 T B h W E ∧ tm_f9 I A s.2.1 s.2.2) _ ?_ ?_ (s := ((-2 : Int32), I, A)) ⟨rfl, hK, tm_f9_r I A⟩ (m := 4096) (by omega)
    · rintro n ⟨v, I1, A1⟩ ⟨a, b, c⟩
      refine ⟨(v, I1, A1), ?_, a, b, c⟩
      show g_X3_cheapestStoppers_L1 I (nI q) (nI (tm_may T h q)) (n + 1) v (nI (tm_may T h q + 1)) I1 A1 = _
      rw [g_X3_cheapestStoppers_L1, if_pos (nI_lt (by omega) (by omega))]
    · rintro n i ⟨v, I1, A1⟩ _ hi _ ⟨a, b, c⟩
      dsimp only at a b c
      have hil : i < 2 ^ T 3 := by omega
      have hd : tm_dn i (tm_may T h q) < 2 ^ T 3 := tm_dn_lt hil
      obtain ⟨vi, v1, v2⟩ := tm_prx A1 b.1 hW i (by omega)
      -- what is cheaper
      have K : ∃ x8 : Int32, (if v = (-2 : Int32) then (some (1 : Int32)) else ((g_X8_priceOf_2 A1 (nI i)).bind fun x10 => (g_X8_priceOf_2 A1 v).bind fun x12 => if x12 ≤ x10 then (some (0 : Int32)) else (some (1 : Int32)))) = some x8 ∧ (tm_dn i (tm_may T h q) = 0 → (x8 = 0 ↔ ∃ b', tm_bm (tm_sk T B h W E q) (tm_pr T (T 3)) i = some b' ∧ ¬ tm_pr T (T 3) i < tm_pr T (T 3) b')) := by
        rw [a]
        cases e : tm_bm (tm_sk T B h W E q) (tm_pr T (T 3)) i with
        | none =>
          refine ⟨1, by rw [tm_oi_n, if_pos rfl], fun _ => ⟨fun g => absurd g (by decide), ?_⟩⟩
          rintro ⟨b', g, -⟩
          cases g
        | some b' =>
          have hb := tm_bm_lt _ _ _ _ e
          have hbo := of_decide_eq_true (tm_bm_ok _ _ _ _ e)
          obtain ⟨vb, w1, w2⟩ := tm_prx A1 b.1 hW b' (by omega)
          rw [tm_oi_s, if_neg (tm_nm2 (by omega)), v1, Option.bind_some, w1, Option.bind_some, w2 (tm_may_h hbo.1), tm_ifs]
          refine ⟨_, rfl, fun g => ?_⟩
          rw [v2 (tm_may_h g)]
          have p1 := tm_pr_le hW b' (T 3) h3
          have p2 := tm_pr_le hW i (T 3) h3
          by_cases g2 : tm_pr T (T 3) b' ≤ tm_pr T (T 3) i
          · rw [if_pos (nI_le g2 (by omega))]
            exact ⟨fun _ => ⟨b', rfl, by omega⟩, fun _ => rfl⟩
          · rw [if_neg (nI_ge (by omega) (by omega))]
            refine ⟨fun g3 => absurd g3 (by decide), ?_⟩
            rintro ⟨b2, e2, g3⟩
            cases e2
            omega
      obtain ⟨x8, k1, k2⟩ := K
      have S0 : g_X3_cheapestStoppers_L1 I (nI q) (nI (tm_may T h q)) (n + 1) v (nI i) I1 A1 = (if nI (tm_dn i (tm_may T h q)) = 0 then (if x8 = 0 then (some (v, I1, A1)) else ((g_X3_sendAll I1 (nI i) (nI (T (82 + 5 * q)))).bind fun I21 => (g_X1_runAsTold I21 A1 (nI q)).bind fun (I23, A24) => (if (I23 3902) = 0 then (some (nI i)) else (some v)).bind fun x27 => some (x27, (upd I23 3602 (I 3602)), A24))) else (some (v, I1, A1))).bind fun (x16, I17, A18) => g_X3_cheapestStoppers_L1 I (nI q) (nI (tm_may T h q)) n x16 (nI (i + 1)) I17 A18 := by
        rw [g_X3_cheapestStoppers_L1, if_neg (nI_nlt (by omega) (by omega)), k1, Option.bind_some, tm_dnI, tm_f2 b.1 hW hq, nI_succ]
      by_cases g : tm_dn i (tm_may T h q) = 0
      · by_cases g2 : x8 = 0
        · obtain ⟨b', e, g3⟩ := (k2 g).mp g2
          refine Or.inr ⟨(tm_oi (tm_bm (tm_sk T B h W E q) (tm_pr T (T 3)) (i + 1)), I1, A1), ⟨rfl, b, c⟩, ?_⟩
          show g_X3_cheapestStoppers_L1 I (nI q) (nI (tm_may T h q)) (n + 1) v (nI i) I1 A1 = g_X3_cheapestStoppers_L1 I (nI q) (nI (tm_may T h q)) n _ (nI (i + 1)) I1 A1
          rw [S0, if_pos ((tm_z (by omega)).mpr g), if_pos g2, Option.bind_some, tm_bm, e, a, e]
          dsimp only
          rw [if_neg (fun q => g3 q.2)]
        · obtain ⟨I2, s1, s2, s3⟩ := tm_sa9 (I := I1) (t := T (82 + 5 * q)) (set := i) b.2.1.2.1 (by omega) (by omega)
          have kA : tm_K9 I2 A1 T B (tm_hq h i (T (82 + 5 * q))) W E := by
            obtain ⟨z, z1, z2⟩ := b.2.2
            exact ⟨b.1, ⟨(s3 _ (by decide)).trans b.2.1.1, s2, b.2.1.2.2⟩, z, z1, (s3 _ (by decide)).trans z2⟩
          obtain ⟨I3, A3, e1, x1, k3, f3, -⟩ := tm_rt9 hW kA (tm_SB_q hSB hqq.2.2.1) hq
          have kB := tm_K9_s k3 h
          rw [← hK.2.1.2.1] at kB
          have fB : tm_f9 I A (upd I3 3602 (I 3602)) A3 := tm_f9_t c (tm_f9_t ⟨fun k hk => s3 k (by omega), fun _ _ => rfl⟩ (tm_f9_t f3 (tm_f9_u I3 A3 _)))
          refine Or.inr ⟨(tm_oi (tm_bm (tm_sk T B h W E q) (tm_pr T (T 3)) (i + 1)), upd I3 3602 (I 3602), A3), ⟨rfl, kB, fB⟩, ?_⟩
          show g_X3_cheapestStoppers_L1 I (nI q) (nI (tm_may T h q)) (n + 1) v (nI i) I1 A1 = g_X3_cheapestStoppers_L1 I (nI q) (nI (tm_may T h q)) n _ (nI (i + 1)) _ A3
          rw [S0, if_pos ((tm_z (by omega)).mpr g), if_neg g2, s1, Option.bind_some, e1, Option.bind_some]
          dsimp only
          rw [x1.1, tm_bm, a]
          by_cases g4 : (tm_res T B (tm_hq h i (T (82 + 5 * q))) W E q (T (82 + 5 * q)) (T (83 + 5 * q))).1 = 0
          · have ek : tm_sk T B h W E q i = true := decide_eq_true ⟨g, g4⟩
            rw [if_pos g4, Option.bind_some, Option.bind_some, ek]
            cases e : tm_bm (tm_sk T B h W E q) (tm_pr T (T 3)) i with
            | none =>
              dsimp only
              rw [if_pos rfl, tm_oi_s]
            | some b' =>
              dsimp only
              by_cases g5 : tm_pr T (T 3) i < tm_pr T (T 3) b'
              · rw [if_pos ⟨rfl, g5⟩, tm_oi_s]
              · exact absurd ((k2 g).mpr ⟨b', e, g5⟩) g2
          · have ek : tm_sk T B h W E q i = false := decide_eq_false (fun q => g4 q.2)
            rw [if_neg g4, Option.bind_some, Option.bind_some, ek]
            cases e : tm_bm (tm_sk T B h W E q) (tm_pr T (T 3)) i with
            | none =>
              dsimp only
              rw [if_neg (by decide)]
            | some b' =>
              dsimp only
              rw [if_neg (fun q => by cases q.1)]
      · refine Or.inr ⟨(tm_oi (tm_bm (tm_sk T B h W E q) (tm_pr T (T 3)) (i + 1)), I1, A1), ⟨rfl, b, c⟩, ?_⟩
        show g_X3_cheapestStoppers_L1 I (nI q) (nI (tm_may T h q)) (n + 1) v (nI i) I1 A1 = g_X3_cheapestStoppers_L1 I (nI q) (nI (tm_may T h q)) n _ (nI (i + 1)) I1 A1
        rw [S0, if_neg (fun q => g ((tm_z (by omega)).mp q)), Option.bind_some, a, tm_bm_no (ok := tm_sk T B h W E q) (c := tm_pr T (T 3)) (decide_eq_false (fun q => g q.1))]
  obtain ⟨⟨v, I1, A1⟩, e, a, b⟩ := L
  dsimp only at a b
  refine ⟨I1, A1, ?_, b⟩
  unfold g_X3_cheapestStoppers
  rw [tm_rf_9 hW hK.1 hK.2.1.2.1 hSB.2.1 hq, Option.bind_some, show g_X3_cheapestStoppers_L1 I (nI q) (nI (tm_may T h q)) 4096 (-2 : Int32) (0 : Int32) I A = _ from e, Option.bind_some, a]
