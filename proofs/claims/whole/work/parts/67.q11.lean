/-! MATHEMATICS, 18: swings, three -/
theorem tm_eyb (E : Nat → Nat) {p : Nat} : ∀ n, p < n → tm_ey E (2 ^ p) n = E p
  | 0, h => absurd h (Nat.not_lt_zero p)
  | n + 1, h => by
    show tm_ey E (2 ^ p) n + (if (2 ^ p).testBit n = true then E n else 0) = E p
    rw [tm_twB]
    by_cases e : p = n
    · subst e
      rw [decide_eq_true rfl, if_pos rfl]
      have z : ∀ k, k ≤ p → tm_ey E (2 ^ p) k = 0 := by
        intro k
        induction k with
        | zero => intro _; rfl
        | succ k ih =>
          intro hk
          show tm_ey E (2 ^ p) k + (if (2 ^ p).testBit k = true then E k else 0) = 0
          rw [ih (by omega), tm_twB, decide_eq_false (by omega)]
          rfl
      rw [z p (Nat.le_refl _), Nat.zero_add]
    · rw [decide_eq_false e, if_neg (by decide), tm_eyb E n (by omega)]
      rfl
theorem tm_q_swings {I : Nat → Int32} {A : Nat → Nat → Int32} (h : tm_Inv I A) (sc : Nat) (a b c d : Int32) : ∃ (x : Int64) (I1 : Nat → Int32) (A1 : Nat → Nat → Int32) (sc1 : Nat), g_X9_swings I A sc a b c d = some (x, I1, A1, sc1) ∧ ∃ I2 A2, g_X10_swings I1 A1 a b c d = some (x, I2, A2) ∧ tm_Inv I2 A2 := by
  obtain ⟨⟨T, s, U, V, t, hP⟩, hT, hS⟩ := id h
  obtain ⟨hW, hR, hC, hH, hrow, hrest⟩ := id hP
  have hv : ∀ v : Int32, tm_H (upd (upd (upd I 12 v) 4400 0) 4411 0) T := fun v => tm_H_of hH ((tm_g44 0 0).trans (tm_12_44 v))
  have hSB := tm_SBt hW (fun p hp => (hrow.1 p hp).2) hrow.2.2.1
  have h3 := tm_W_b3 hW
  have h26 : (2 : Nat) ^ T 3 ≤ 64 := Nat.pow_le_pow_right (n := 2) (by decide) h3
  by_cases ka : tm_ok (T 3) a
  · obtain ⟨p, hp, rfl⟩ := ka
    by_cases kb : tm_ok (T 1) b
    · obtain ⟨t0, ht, rfl⟩ := kb
      by_cases kc : tm_ok 60 c
      · obtain ⟨m, hm, rfl⟩ := kc
        obtain ⟨I1, A1, e1, k1, f1, s1⟩ := tm_now9 hP hS
        obtain ⟨r1, r2, r3⟩ := tm_hand hP f1 0
        obtain ⟨A2, e2, k2, f2⟩ := tm_now10 hW r1 r2
        have hwl := tm_wt_lt (T := T) (s 6) s t0 m
        have hE2 : ∀ p, p < T 3 → tm_Et T p ≤ 2 := fun p hp => (hSB.2.2 p hp).2
        have hE9 : ∀ p, p < T 3 → A1 38 p = nI (tm_Et T p) := fun p hp => (k1.2.1.2.2 p hp).2
        have hE10 : ∀ p, p < T 3 → A2 54 p = nI (tm_Et T p) := fun p hp => (k2.2.2.2 p hp).2
        have hpc := tm_pc_le (tm_dn (tm_wt T (s 6) s t0 m) (2 ^ p))
        have hpw : 2 ^ tm_pc (tm_dn (tm_wt T (s 6) s t0 m) (2 ^ p)) ≤ 2 ^ 8 := Nat.pow_le_pow_right (by decide) hpc
        have hpw0 : 0 < 2 ^ tm_pc (tm_dn (tm_wt T (s 6) s t0 m) (2 ^ p)) := Nat.two_pow_pos _
        have hdl : tm_dn (tm_wt T (s 6) s t0 m) (2 ^ p) < 2 ^ T 3 := tm_dn_lt hwl
        have hX : (nI (tm_wt T (s 6) s t0 m) &&& (((1 : Int32) <<< (nI p &&& 31)) ^^^ (-1 : Int32))) = nI (tm_dn (tm_wt T (s 6) s t0 m) (2 ^ p)) := by
          rw [tm_shl1 (by omega), tm_dnI]
        have hbc : g_J6_bitCount_0f7a4 (nI (tm_dn (tm_wt T (s 6) s t0 m) (2 ^ p))) = nI (tm_pc (tm_dn (tm_wt T (s 6) s t0 m) (2 ^ p))) := tm_bc9 _ (by omega)
        have R : ∃ x, g_X9_swings I A sc (nI p) (nI t0) (nI m) d = some (x, upd I1 12 0, A1, 2) ∧ g_X10_swings (upd I1 12 0) A1 (nI p) (nI t0) (nI m) d = some (x, upd (upd (upd I1 12 0) 4400 0) 4411 0, A2) := by
          have C9 : ∀ his : Nat, his ≤ 2 → (if (((nI (tm_wt T (s 6) s t0 m)) >>> (nI p &&& 31)) &&& (1 : Int32)) = 0 then (some (0 : Int32)) else ((g_X6_eyesOf A1 ((1 : Int32) <<< (nI p &&& 31))).bind fun x12 => some x12)) = some (nI his) → g_X9_swings I A sc (nI p) (nI t0) (nI m) d = some (tm_lw (tm_sm (tm_tn (tm_Et T) (T 3) (tm_dn (tm_wt T (s 6) s t0 m) (2 ^ p)) his) (2 ^ T 3)) (2 ^ tm_pc (tm_dn (tm_wt T (s 6) s t0 m) (2 ^ p))) d, upd I1 12 0, A1, 2) := by
            intro his hh hx
            have hc := tm_tn_le (tm_Et T) (T 3) (tm_dn (tm_wt T (s 6) s t0 m) (2 ^ p)) his (2 ^ T 3)
            unfold g_X9_swings
            rw [tm_9Person_t hC hW hp, if_pos rfl, tm_9Place_t hC hW ht, if_pos rfl, tm_9min_t hm, if_pos rfl, e1, Option.bind_some]
            dsimp only
            rw [tm_seers k1.1 hW k1.2.1 hSB ht hm, Option.bind_some, hx, Option.bind_some, tm_sws9 hW hE9 hE2 hp hwl hh, Option.bind_some, hX, hbc, tm_shL _ (by omega), nI_l (by omega), tm_lt9 (by omega) (by omega) hpw0 d, Option.bind_some]
          by_cases g : (tm_wt T (s 6) s t0 m).testBit p = true
          · have hx : (if (((nI (tm_wt T (s 6) s t0 m)) >>> (nI p &&& 31)) &&& (1 : Int32)) = 0 then (some (0 : Int32)) else ((g_X6_eyesOf A1 ((1 : Int32) <<< (nI p &&& 31))).bind fun x12 => some x12)) = some (nI (tm_Et T p)) := by
              rw [if_neg (fun q => by rw [(tm_b0 (by omega) (by omega)).mp q] at g; cases g), tm_shl1 (by omega), tm_eye9 hW hE9 (Nat.pow_lt_pow_right (by decide) hp), Option.bind_some, tm_eyb _ _ hp]
            have hc := tm_tn_le (tm_Et T) (T 3) (tm_dn (tm_wt T (s 6) s t0 m) (2 ^ p)) (tm_Et T p) (2 ^ T 3)
            refine ⟨_, C9 _ (hE2 p hp) hx, ?_⟩
            unfold g_X10_swings g_X10_good
            dsimp only [tw_let, g_X10_no]
            rw [tm_10Person_t r1 hW r3 hp, Option.bind_some, if_pos rfl, tm_10Place_t r1 hW r3 ht, Option.bind_some, if_pos rfl, Option.bind_some, tm_10min_t hm, show g_X10_why (1 : Int32) (tw_b true) = 0 by decide, if_pos rfl, e2, Option.bind_some, tm_wo k2.1 hW k2.2 hSB ht hm, Option.bind_some, tm_has (by omega) (by omega), g, if_pos rfl, tm_sws10 hW k2.1 hE10 hE2 hp hwl, Option.bind_some]
            dsimp only
            rw [nI_l (by omega), nI_l (by omega), tm_lt10 (by omega) (by omega) hpw0 d, Option.bind_some]
          · have g2 : (tm_wt T (s 6) s t0 m).testBit p = false := by
              cases e : (tm_wt T (s 6) s t0 m).testBit p
              · rfl
              · exact absurd e g
            have hx : (if (((nI (tm_wt T (s 6) s t0 m)) >>> (nI p &&& 31)) &&& (1 : Int32)) = 0 then (some (0 : Int32)) else ((g_X6_eyesOf A1 ((1 : Int32) <<< (nI p &&& 31))).bind fun x12 => some x12)) = some (nI 0) := if_pos ((tm_b0 (by omega) (by omega)).mpr g2)
            have hz : tm_sm (tm_tn (tm_Et T) (T 3) (tm_dn (tm_wt T (s 6) s t0 m) (2 ^ p)) 0) (2 ^ T 3) = 0 := by
              refine tm_sm_to (n := 0) (Nat.zero_le _) fun i _ _ => ?_
              unfold tm_tn
              exact if_neg (by omega)
            have c9 := C9 0 (by omega) hx
            rw [hz, ← Nat.zero_mul (2 ^ tm_pc (tm_dn (tm_wt T (s 6) s t0 m) (2 ^ p))), show tm_lw (0 * 2 ^ tm_pc (tm_dn (tm_wt T (s 6) s t0 m) (2 ^ p))) (2 ^ tm_pc (tm_dn (tm_wt T (s 6) s t0 m) (2 ^ p))) d = tm_lw 0 1 d by
              have := tm_lw_s (a := 0) (b := 1) (m := 2 ^ tm_pc (tm_dn (tm_wt T (s 6) s t0 m) (2 ^ p))) (by decide) hpw0 d
              rw [Nat.one_mul] at this
              exact this] at c9
            refine ⟨_, c9, ?_⟩
            unfold g_X10_swings g_X10_good
            dsimp only [tw_let, g_X10_no]
            rw [tm_10Person_t r1 hW r3 hp, Option.bind_some, if_pos rfl, tm_10Place_t r1 hW r3 ht, Option.bind_some, if_pos rfl, Option.bind_some, tm_10min_t hm, show g_X10_why (1 : Int32) (tw_b true) = 0 by decide, if_pos rfl, e2, Option.bind_some, tm_wo k2.1 hW k2.2 hSB ht hm, Option.bind_some, tm_has (by omega) (by omega), g2, if_neg (by decide), show g_X10_lowest (0 : Int64) (1 : Int64) d = _ from tm_lt10 (a := 0) (b := 1) (by decide) (by decide) (by decide) d, Option.bind_some]
        obtain ⟨x, y1, y2⟩ := R
        exact ⟨x, _, _, _, y1, _, _, y2, tm_done h f1 k1.2.2 (fun _ _ => rfl) f2⟩
      · refine ⟨(-1 : Int32).toInt64, upd I 12 2, A, sc, ?_, _, A, ?_, tm_ref h (w := 2) (by decide)⟩
        · unfold g_X9_swings
          dsimp only [tw_let, g_X9_refuse]
          rw [tm_9Person_t hC hW hp, if_pos rfl, tm_9Place_t hC hW ht, if_pos rfl, tm_9min_f kc, if_neg (by decide)]
        · unfold g_X10_swings g_X10_good
          dsimp only [tw_let, g_X10_no]
          rw [tm_10Person_t hR hW (hv 2) hp, Option.bind_some, if_pos rfl, tm_10Place_t hR hW (hv 2) ht, Option.bind_some, if_pos rfl, Option.bind_some, tm_10min_f kc, show g_X10_why (1 : Int32) (tw_b false) = 2 by decide, if_neg (by decide)]
    · refine ⟨(-1 : Int32).toInt64, upd I 12 1, A, sc, ?_, _, A, ?_, tm_ref h (w := 1) (by decide)⟩
      · unfold g_X9_swings
        dsimp only [tw_let, g_X9_refuse]
        rw [tm_9Person_t hC hW hp, if_pos rfl, tm_9Place_f hC hW kb, if_neg (by decide)]
      · unfold g_X10_swings g_X10_good
        dsimp only [tw_let, g_X10_no]
        rw [tm_10Person_t hR hW (hv 1) hp, Option.bind_some, if_pos rfl, tm_10Place_f hR hW kb, Option.bind_some, if_neg (by decide), Option.bind_some, show g_X10_why (0 : Int32) (tw_b (g_X10_isMinute c)) = 1 from rfl, if_neg (by decide)]
  · refine ⟨(-1 : Int32).toInt64, upd I 12 1, A, sc, ?_, _, A, ?_, tm_ref h (w := 1) (by decide)⟩
    · unfold g_X9_swings
      dsimp only [tw_let, g_X9_refuse]
      rw [tm_9Person_f hC hW ka, if_neg (by decide)]
    · unfold g_X10_swings g_X10_good
      dsimp only [tw_let, g_X10_no]
      rw [tm_10Person_f hR hW ka, Option.bind_some, if_neg (by decide), Option.bind_some, show g_X10_why (0 : Int32) (tw_b (g_X10_isMinute c)) = 1 from rfl, if_neg (by decide)]
/-- the best of all sets that will do: fewest of c, the first such -/
def tm_bm (ok : Nat → Bool) (c : Nat → Nat) : Nat → Option Nat
  | 0 => none
  | n + 1 => match tm_bm ok c n with
    | none => if ok n = true then some n else none
    | some b => if ok n = true ∧ c n < c b then some n else some b
def tm_oi : Option Nat → Int32
  | none => -2
  | some n => nI n
theorem tm_oi_n : tm_oi none = -2 := rfl
theorem tm_oi_s (b : Nat) : tm_oi (some b) = nI b := rfl
theorem tm_bm_lt (ok : Nat → Bool) (c : Nat → Nat) : ∀ n b, tm_bm ok c n = some b → b < n
  | 0, b, h => by cases h
  | n + 1, b, h => by
    rw [tm_bm] at h
    cases e : tm_bm ok c n with
    | none =>
      rw [e] at h
      dsimp only at h
      split at h
      · cases h
        omega
      · cases h
    | some b' =>
      rw [e] at h
      dsimp only at h
      have := tm_bm_lt ok c n b' e
      split at h
      · cases h
        omega
      · cases h
        omega
theorem tm_bm_no {ok : Nat → Bool} {c : Nat → Nat} {n : Nat} (h : ok n = false) : tm_bm ok c (n + 1) = tm_bm ok c n := by
  rw [tm_bm]
  cases e : tm_bm ok c n with
  | none =>
    dsimp only
    rw [h, if_neg (by decide)]
  | some b =>
    dsimp only
    rw [if_neg (fun q => by rw [h] at q; cases q.1)]
theorem tm_bm_to {ok : Nat → Bool} {c : Nat → Nat} {n m : Nat} (hnm : n ≤ m) (h : ∀ i, n ≤ i → i < m → ok i = false) : tm_bm ok c m = tm_bm ok c n := by
  obtain ⟨k, rfl⟩ : ∃ k, m = n + k := ⟨m - n, by omega⟩
  induction k with
  | zero => rfl
  | succ k ih =>
    rw [show n + (k + 1) = (n + k) + 1 by omega, tm_bm_no (h (n + k) (by omega) (by omega))]
    exact ih (by omega) fun i h1 h2 => h i h1 (by omega)
def tm_3k (E : Nat → Nat) (n who set : Nat) : Bool := decide (tm_dn set who = 0 ∧ 6 ≤ tm_ey E set n)
theorem tm_th9 {A : Nat → Nat → Int32} {T E : Nat → Nat} (hW : tm_W T) (hE : ∀ p, p < T 3 → A 38 p = nI (E p)) (hE2 : ∀ p, p < T 3 → E p ≤ 2) {who : Nat} (hw : who < 2 ^ T 3) : g_X9_three_L1 A (nI who) 4096 (-2 : Int32) (0 : Int32) = some (tm_oi (tm_bm (tm_3k E (T 3) who) tm_pc (2 ^ T 3))) := by
  have h3 := tm_W_b3 hW
  have h26 : (2 : Nat) ^ T 3 ≤ 64 := Nat.pow_le_pow_right (n := 2) (by decide) h3
  rw [tm_bm_to (ok := tm_3k E (T 3) who) (c := tm_pc) (n := who + 1) (by omega) (fun i h1 _ => decide_eq_false (by
    rintro ⟨g, -⟩
    have := tm_sub_le g
    omega))]
  refine tm_lp (fun n i (v : Int32) => g_X9_three_L1 A (nI who) n v i) (who + 1) 0 (fun i => tm_oi (tm_bm (tm_3k E (T 3) who) tm_pc i)) _ (Nat.zero_le _) ?_ ?_ (m := 4096) (by omega)
  · intro n
    show g_X9_three_L1 A (nI who) (n + 1) _ (nI (who + 1)) = _
    rw [g_X9_three_L1, if_pos (nI_lt (by omega) (by omega))]
  · intro n i _ hi
    have hil : i < 2 ^ T 3 := by omega
    have hey := tm_ey_le i hE2
    have hd : tm_dn i who < 2 ^ T 3 := tm_dn_lt hil
    show g_X9_three_L1 A (nI who) (n + 1) (tm_oi (tm_bm (tm_3k E (T 3) who) tm_pc i)) (nI i) = g_X9_three_L1 A (nI who) n (tm_oi (tm_bm (tm_3k E (T 3) who) tm_pc (i + 1))) (nI (i + 1))
    have K : (if (nI i &&& (nI who ^^^ (-1 : Int32))) = 0 then ((g_X6_eyesOf A (nI i)).bind fun x13 => if x13 < (6 : Int32) then (some (0 : Int32)) else (some (1 : Int32))) else (some (0 : Int32))) = some (if tm_3k E (T 3) who i = true then (1 : Int32) else 0) := by
      unfold tm_3k
      rw [tm_dnI]
      by_cases g : tm_dn i who = 0
      · rw [if_pos ((tm_z (by omega)).mpr g), tm_eye9 hW hE hil, Option.bind_some]
        by_cases g2 : tm_ey E i (T 3) < 6
        · rw [if_pos (tm_lt6 g2), decide_eq_false (by omega)]
          rfl
        · rw [if_neg (tm_nlt6 (by omega) (by omega)), decide_eq_true ⟨g, by omega⟩]
          rfl
      · rw [if_neg (fun q => g ((tm_z (by omega)).mp q)), decide_eq_false (fun q => g q.1)]
        rfl
    rw [g_X9_three_L1, if_neg (nI_nlt (by omega) (by omega)), K, Option.bind_some, ← nI_succ i]
    cases ek : tm_3k E (T 3) who i
    · rw [if_pos (by decide), Option.bind_some, tm_bm_no ek]
    · rw [if_pos rfl, if_neg (by decide), tm_bm, ek]
      cases e : tm_bm (tm_3k E (T 3) who) tm_pc i with
      | none =>
        dsimp only
        rw [tm_oi_n, if_pos rfl, Option.bind_some, if_pos rfl, tm_oi_s]
      | some b =>
        have hb := tm_bm_lt _ _ _ _ e
        dsimp only
        rw [tm_oi_s, if_neg (tm_nm2 (by omega)), tm_bc9 b (by omega), tm_bc9 i (by omega)]
        have p1 := tm_pc_le b
        have p2 := tm_pc_le i
        by_cases g : tm_pc b ≤ tm_pc i
        · rw [if_pos (nI_le g (by omega)), Option.bind_some, if_neg (by omega), tm_oi_s]
        · rw [if_neg (nI_ge (by omega) (by omega)), Option.bind_some, if_pos ⟨rfl, by omega⟩, tm_oi_s]
theorem tm_th10 {A : Nat → Nat → Int32} {T E : Nat → Nat} (hW : tm_W T) (hR : tm_R A T) (hE : ∀ p, p < T 3 → A 54 p = nI (E p)) (hE2 : ∀ p, p < T 3 → E p ≤ 2) {who : Nat} (hw : who < 2 ^ T 3) : g_X10_three_L1 A (nI who) 4096 (-2 : Int32) (0 : Int32) = some (tm_oi (tm_bm (tm_3k E (T 3) who) tm_pc (2 ^ T 3))) := by
  have h3 := tm_W_b3 hW
  have h26 : (2 : Nat) ^ T 3 ≤ 64 := Nat.pow_le_pow_right (n := 2) (by decide) h3
  refine tm_lp (fun n i (v : Int32) => g_X10_three_L1 A (nI who) n v i) (2 ^ T 3) 0 (fun i => tm_oi (tm_bm (tm_3k E (T 3) who) tm_pc i)) _ (Nat.zero_le _) ?_ ?_ (m := 4096) (by omega)
  · intro n
    show g_X10_three_L1 A (nI who) (n + 1) _ (nI (2 ^ T 3)) = _
    rw [g_X10_three_L1, tm_r_c3 hR, Option.bind_some, tm_shl1 (by omega), if_pos (nI_le (Nat.le_refl _) (by omega))]
  · intro n i _ hi
    have hey := tm_ey_le i hE2
    have hd : tm_dn i who < 2 ^ T 3 := tm_dn_lt hi
    show g_X10_three_L1 A (nI who) (n + 1) (tm_oi (tm_bm (tm_3k E (T 3) who) tm_pc i)) (nI i) = g_X10_three_L1 A (nI who) n (tm_oi (tm_bm (tm_3k E (T 3) who) tm_pc (i + 1))) (nI (i + 1))
    rw [g_X10_three_L1, tm_r_c3 hR, Option.bind_some, tm_shl1 (k := T 3) (by omega), if_neg (nI_ge hi (by omega)), tm_dnI, ← nI_succ i]
    by_cases g : tm_dn i who = 0
    · rw [if_pos ((tm_z (by omega)).mpr g), tm_eye10 hR hW hE (by omega), Option.bind_some]
      by_cases g2 : tm_ey E i (T 3) < 6
      · rw [if_pos (tm_lt6 g2), Option.bind_some, tm_bm_no (decide_eq_false (by omega))]
      · have ek : tm_3k E (T 3) who i = true := decide_eq_true ⟨g, by omega⟩
        rw [if_neg (tm_nlt6 (by omega) (by omega)), tm_bm, ek]
        cases e : tm_bm (tm_3k E (T 3) who) tm_pc i with
        | none =>
          dsimp only
          rw [tm_oi_n, if_pos (by decide), Option.bind_some, if_pos rfl, tm_oi_s]
        | some b =>
          have hb := tm_bm_lt _ _ _ _ e
          have p1 := tm_pc_le b
          have p2 := tm_pc_le i
          dsimp only
          rw [tm_oi_s, if_neg (nI_pos (by omega)), tm_on10 (by omega), Option.bind_some, tm_on10 (by omega), Option.bind_some]
          by_cases q : tm_pc b ≤ tm_pc i
          · rw [if_pos (nI_le q (by omega)), Option.bind_some, if_neg (by omega), tm_oi_s]
          · rw [if_neg (nI_ge (by omega) (by omega)), Option.bind_some, if_pos ⟨rfl, by omega⟩, tm_oi_s]
    · rw [if_neg (fun q => g ((tm_z (by omega)).mp q)), Option.bind_some, tm_bm_no (decide_eq_false (fun q => g q.1))]
theorem tm_q_three {I : Nat → Int32} {A : Nat → Nat → Int32} (h : tm_Inv I A) (sc : Nat) (a : Int32) (b : Int32) : ∃ x I1 A1 sc1, g_X9_three I A sc a b = some (x, I1, A1, sc1) ∧ ∃ I2 A2, g_X10_three I1 A1 a b = some (x, I2, A2) ∧ tm_Inv I2 A2 := by
  obtain ⟨⟨T, s, U, V, t, hP⟩, hT, hS⟩ := id h
  obtain ⟨hW, hR, hC, hH, hrow, hrest⟩ := id hP
  have hv : ∀ v : Int32, tm_H (upd (upd (upd I 12 v) 4400 0) 4411 0) T := fun v => tm_H_of hH ((tm_g44 0 0).trans (tm_12_44 v))
  have hSB := tm_SBt hW (fun p hp => (hrow.1 p hp).2) hrow.2.2.1
  by_cases ka : tm_ok (T 1) a
  · obtain ⟨p, hp, rfl⟩ := ka
    by_cases kb : tm_ok 60 b
    · obtain ⟨m, hm, rfl⟩ := kb
      obtain ⟨I1, A1, e1, k1, f1, s1⟩ := tm_now9 hP hS
      obtain ⟨r1, r2, r3⟩ := tm_hand hP f1 0
      obtain ⟨A2, e2, k2, f2⟩ := tm_now10 hW r1 r2
      have hwl := tm_wt_lt (T := T) (s 6) s p m
      refine ⟨tm_oi (tm_bm (tm_3k (tm_Et T) (T 3) (tm_wt T (s 6) s p m)) tm_pc (2 ^ T 3)), upd I1 12 0, A1, 2, ?_, _, A2, ?_, tm_done h f1 k1.2.2 (fun _ _ => rfl) f2⟩
      · unfold g_X9_three g_X9_mayNotLook
        dsimp only [tw_let, g_X9_grant]
        rw [tm_9Place_t hC hW hp, if_pos rfl, tm_9min_t hm, if_pos rfl, e1, Option.bind_some]
        dsimp only
        rw [Option.bind_some]
        dsimp only
        rw [if_neg (by decide)]
        rw [tm_seers k1.1 hW k1.2.1 hSB hp hm, Option.bind_some, tm_th9 hW (fun p hp => (k1.2.1.2.2 p hp).2) (fun p hp => (hSB.2.2 p hp).2) hwl, Option.bind_some]
      · unfold g_X10_three g_X10_good
        dsimp only [tw_let, g_X10_no]
        rw [tm_10Place_t r1 hW r3 hp, Option.bind_some, tm_10min_t hm, tm_why_tt, if_pos rfl, e2, Option.bind_some]
        rw [tm_wo k2.1 hW k2.2 hSB hp hm, Option.bind_some, tm_th10 hW k2.1 (fun p hp => (k2.2.2.2 p hp).2) (fun p hp => (hSB.2.2 p hp).2) hwl, Option.bind_some]
    · refine ⟨-1, upd I 12 2, A, sc, ?_, _, A, ?_, tm_ref h (w := 2) (by decide)⟩
      · unfold g_X9_three g_X9_mayNotLook
        rw [tm_9Place_t hC hW hp, if_pos rfl, tm_9min_f kb, if_neg (by decide), Option.bind_some]
        dsimp only
        rw [if_pos rfl]
      · unfold g_X10_three g_X10_good
        dsimp only [tw_let, g_X10_no]
        rw [tm_10Place_t hR hW (hv 2) hp, Option.bind_some, tm_10min_f kb, tm_why_tf, if_neg (by decide)]
  · refine ⟨-1, upd I 12 1, A, sc, ?_, _, A, ?_, tm_ref h (w := 1) (by decide)⟩
    · unfold g_X9_three g_X9_mayNotLook
      rw [tm_9Place_f hC hW ka, if_neg (by decide), Option.bind_some]
      dsimp only
      rw [if_pos rfl]
    · unfold g_X10_three g_X10_good
      dsimp only [tw_let, g_X10_no]
      rw [tm_10Place_f hR hW ka, Option.bind_some, tm_why_f, if_neg (by decide)]
