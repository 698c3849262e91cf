/-! MATHEMATICS, 12: the calls that look, 5 -/
theorem tm_acc2 (c : Prop) [Decidable c] (f : Nat → Bool) {i : Nat} (hi : i < 31) (e : f i = decide c) : (if c then some (nI (tm_bs f i) ||| ((1 : Int32) <<< (nI i &&& 31))) else some (nI (tm_bs f i))) = some (nI (tm_bs f (i + 1))) := by
  rw [tm_bs, e]
  by_cases h : c
  · rw [if_pos h, decide_eq_true h, if_pos rfl, tm_shl1 hi, tm_or]
  · rw [if_neg h, decide_eq_false h, if_neg (by decide), Nat.or_zero]
def tm_hid (T : Nat → Nat) (B : Nat) (h E : Nat → Nat) (m p : Nat) : Bool := decide (tm_ey E (tm_wt T B h p m) (T 3) = 0)
theorem tm_hi9 {I : Nat → Int32} {A : Nat → Nat → Int32} {T : Nat → Nat} {B : Nat} {h W E : Nat → Nat} (hW : tm_W T) (hK : tm_K9 I A T B h W E) (hSB : tm_SB T B h W E) {m : Nat} (hm : m < 60) : g_X9_hidden_L1 (nI m) I A 4096 (0 : Int32) (0 : Int32) = some (nI (tm_bs (tm_hid T B h E m) (T 1))) := by
  have h1 := tm_W_b1 hW
  have h3 := tm_W_b3 hW
  refine tm_lp (fun n i (v : Int32) => g_X9_hidden_L1 (nI m) I A n v i) (T 1) 0 (fun i => nI (tm_bs (tm_hid T B h E m) i)) _ (Nat.zero_le _) ?_ ?_ (m := 4096) (by omega)
  · intro n
    show g_X9_hidden_L1 (nI m) I A (n + 1) _ (nI (T 1)) = _
    rw [g_X9_hidden_L1, tm_cn1 hK.1, if_pos (nI_le (Nat.le_refl _) (by omega))]
  · intro n i _ hi
    have hl := tm_wt_lt (T := T) B h i m
    have hE2 := tm_ey_le (tm_wt T B h i m) (fun p hp => (hSB.2.2 p hp).2)
    show g_X9_hidden_L1 (nI m) I A (n + 1) (nI (tm_bs (tm_hid T B h E m) i)) (nI i) = g_X9_hidden_L1 (nI m) I A n (nI (tm_bs (tm_hid T B h E m) (i + 1))) (nI (i + 1))
    rw [g_X9_hidden_L1, tm_cn1 hK.1, if_neg (nI_ge hi (by omega)), tm_seers hK.1 hW hK.2.1 hSB hi hm, Option.bind_some, tm_eye9 hW (fun p hp => (hK.2.1.2.2 p hp).2) hl, Option.bind_some, tm_acc2 (nI (tm_ey E (tm_wt T B h i m) (T 3)) = 0) (tm_hid T B h E m) (by omega) (decide_eq_decide.mpr (tm_z (by omega)).symm), Option.bind_some, ← nI_succ]
theorem tm_hi10 {A : Nat → Nat → Int32} {T : Nat → Nat} {B : Nat} {h W E : Nat → Nat} (hW : tm_W T) (hK : tm_K10 A T B h W E) (hSB : tm_SB T B h W E) {m : Nat} (hm : m < 60) : g_X10_hidden_L1 (nI m) A 4096 (0 : Int32) (0 : Int32) = some (nI (tm_bs (tm_hid T B h E m) (T 1))) := by
  have h1 := tm_W_b1 hW
  have h3 := tm_W_b3 hW
  refine tm_lp (fun n i (v : Int32) => g_X10_hidden_L1 (nI m) A n v i) (T 1) 0 (fun i => nI (tm_bs (tm_hid T B h E m) i)) _ (Nat.zero_le _) ?_ ?_ (m := 4096) (by omega)
  · intro n
    show g_X10_hidden_L1 (nI m) A (n + 1) _ (nI (T 1)) = _
    rw [g_X10_hidden_L1, tm_r_c1 hK.1, Option.bind_some, if_pos (nI_le (Nat.le_refl _) (by omega))]
  · intro n i _ hi
    have hl : tm_wt T B h i m < 64 := tm_bs6 _ h3
    have hE2 := tm_ey_le (tm_wt T B h i m) (fun p hp => (hSB.2.2 p hp).2)
    show g_X10_hidden_L1 (nI m) A (n + 1) (nI (tm_bs (tm_hid T B h E m) i)) (nI i) = g_X10_hidden_L1 (nI m) A n (nI (tm_bs (tm_hid T B h E m) (i + 1))) (nI (i + 1))
    rw [g_X10_hidden_L1, tm_r_c1 hK.1, Option.bind_some, if_neg (nI_ge hi (by omega)), tm_wo hK.1 hW hK.2 hSB hi hm, Option.bind_some, tm_eye10 hK.1 hW (fun p hp => (hK.2.2.2 p hp).2) (by omega), Option.bind_some, tm_ifs, Option.bind_some, ← tm_acc (tm_hid T B h E m i) _ (by omega) rfl, ← nI_succ]
    congr 2
    unfold tm_hid
    by_cases g : tm_ey E (tm_wt T B h i m) (T 3) = 0
    · rw [if_pos ((tm_z (by omega)).mpr g), decide_eq_true g, if_pos rfl]
    · rw [if_neg (fun q => g ((tm_z (by omega)).mp q)), decide_eq_false g, if_neg (by decide)]
theorem tm_q_hidden {I : Nat → Int32} {A : Nat → Nat → Int32} (h : tm_Inv I A) (sc : Nat) (a : Int32) : ∃ x I1 A1 sc1, g_X9_hidden I A sc a = some (x, I1, A1, sc1) ∧ ∃ I2 A2, g_X10_hidden I1 A1 a = some (x, I2, A2) ∧ tm_Inv I2 A2 := by
  obtain ⟨⟨T, s, U, V, t, hP⟩, hT, hS⟩ := id h
  obtain ⟨hW, hR, hC, hH, hrow, hrest⟩ := id hP
  have hv : ∀ v : Int32, tm_H (upd (upd (upd I 12 v) 4400 0) 4411 0) T := fun v => tm_H_of hH ((tm_g44 0 0).trans (tm_12_44 v))
  have hSB := tm_SBt hW (fun p hp => (hrow.1 p hp).2) hrow.2.2.1
  by_cases h0 : T 1 = 0
  · refine ⟨-1, upd I 12 1, A, sc, ?_, _, A, ?_, tm_ref h (w := 1) (by decide)⟩
    · unfold g_X9_hidden
      dsimp only [tw_let, g_X9_refuse]
      rw [tm_town_f hC h0, if_neg (by decide)]
    · unfold g_X10_hidden g_X10_good
      dsimp only [tw_let, g_X10_no]
      rw [hv 1, if_pos h0, show g_X10_why (0 : Int32) (tw_b (g_X10_isMinute a)) = 1 from rfl, if_neg (by decide)]
  · by_cases kb : tm_ok 60 a
    · obtain ⟨m, hm, rfl⟩ := kb
      obtain ⟨I1, A1, e1, k1, f1, s1⟩ := tm_now9 hP hS
      obtain ⟨r1, r2, r3⟩ := tm_hand hP f1 0
      obtain ⟨A2, e2, k2, f2⟩ := tm_now10 hW r1 r2
      refine ⟨nI (tm_bs (tm_hid T (s 6) s (tm_Et T) m) (T 1)), upd I1 12 0, A1, 2, ?_, _, A2, ?_, tm_done h f1 k1.2.2 (fun _ _ => rfl) f2⟩
      · unfold g_X9_hidden
        dsimp only [tw_let, g_X9_grant]
        rw [tm_town_t hC hW h0, if_pos rfl, tm_9min_t hm, if_pos rfl, e1, Option.bind_some]
        dsimp only
        rw [tm_hi9 hW k1 hSB hm, Option.bind_some]
      · unfold g_X10_hidden g_X10_good
        dsimp only [tw_let, g_X10_no]
        rw [r3, if_neg h0, tm_10min_t hm, show g_X10_why (1 : Int32) (tw_b true) = 0 by decide, if_pos rfl, e2, Option.bind_some, tm_hi10 hW k2 hSB hm, Option.bind_some]
    · refine ⟨-1, upd I 12 2, A, sc, ?_, _, A, ?_, tm_ref h (w := 2) (by decide)⟩
      · unfold g_X9_hidden
        dsimp only [tw_let, g_X9_refuse]
        rw [tm_town_t hC hW h0, if_pos rfl, tm_9min_f kb, if_neg (by decide)]
      · unfold g_X10_hidden g_X10_good
        dsimp only [tw_let, g_X10_no]
        rw [hv 2, if_neg h0, tm_10min_f kb, show g_X10_why (1 : Int32) (tw_b false) = 2 by decide, if_neg (by decide)]
/-- all eyes of a place -/
def tm_al (T : Nat → Nat) (B : Nat) (h E : Nat → Nat) (p : Nat) : Nat := tm_sm (fun m => tm_ey E (tm_wt T B h p m) (T 3)) 60
theorem tm_al_le {T : Nat → Nat} (hW : tm_W T) {B : Nat} {h W E : Nat → Nat} (hSB : tm_SB T B h W E) (p k : Nat) : tm_sm (fun m => tm_ey E (tm_wt T B h p m) (T 3)) k ≤ 12 * k := by
  have h3 := tm_W_b3 hW
  refine tm_sm_le fun m _ => ?_
  have := tm_ey_le (tm_wt T B h p m) (fun p hp => (hSB.2.2 p hp).2)
  omega
theorem tm_al9 {I : Nat → Int32} {A : Nat → Nat → Int32} {T : Nat → Nat} {B : Nat} {h W E : Nat → Nat} (hW : tm_W T) (hK : tm_K9 I A T B h W E) (hSB : tm_SB T B h W E) {p : Nat} (hp : p < T 1) : g_X9_square_L2 I A (nI p) 4096 (0 : Int32) (0 : Int32) = some (nI (tm_al T B h E p)) := by
  refine tm_lp (fun n i (v : Int32) => g_X9_square_L2 I A (nI p) n v i) 60 0 (fun i => nI (tm_sm (fun m => tm_ey E (tm_wt T B h p m) (T 3)) i)) _ (by decide) ?_ ?_ (m := 4096) (by decide)
  · intro n
    show g_X9_square_L2 I A (nI p) (n + 1) _ (nI 60) = _
    rw [g_X9_square_L2]
    exact if_pos (by decide)
  · intro n i _ hi
    show g_X9_square_L2 I A (nI p) (n + 1) (nI (tm_sm (fun m => tm_ey E (tm_wt T B h p m) (T 3)) i)) (nI i) = g_X9_square_L2 I A (nI p) n (nI (tm_sm (fun m => tm_ey E (tm_wt T B h p m) (T 3)) i + tm_ey E (tm_wt T B h p i) (T 3))) (nI (i + 1))
    rw [g_X9_square_L2, if_neg (tm_ge60 hi), tm_seers hK.1 hW hK.2.1 hSB hp hi, Option.bind_some, tm_eye9 hW (fun p hp => (hK.2.1.2.2 p hp).2) (tm_wt_lt B h p i), Option.bind_some, nI_add, ← nI_succ]
theorem tm_al10 {A : Nat → Nat → Int32} {T : Nat → Nat} {B : Nat} {h W E : Nat → Nat} (hW : tm_W T) (hK : tm_K10 A T B h W E) (hSB : tm_SB T B h W E) {p : Nat} (hp : p < T 1) : g_X10_allEyes A (nI p) = some (nI (tm_al T B h E p)) := by
  have h3 := tm_W_b3 hW
  unfold g_X10_allEyes
  rw [show g_X10_allEyes_L1 A (nI p) 4096 (0 : Int32) (0 : Int32) = some (nI (tm_al T B h E p)) from ?_, Option.bind_some]
  refine tm_lp (fun n i (v : Int32) => g_X10_allEyes_L1 A (nI p) n v i) 60 0 (fun i => nI (tm_sm (fun m => tm_ey E (tm_wt T B h p m) (T 3)) i)) _ (by decide) ?_ ?_ (m := 4096) (by decide)
  · intro n
    show g_X10_allEyes_L1 A (nI p) (n + 1) _ (nI 60) = _
    rw [g_X10_allEyes_L1]
    exact if_pos (by decide)
  · intro n i _ hi
    have hl : tm_wt T B h p i < 64 := tm_bs6 _ h3
    show g_X10_allEyes_L1 A (nI p) (n + 1) (nI (tm_sm (fun m => tm_ey E (tm_wt T B h p m) (T 3)) i)) (nI i) = g_X10_allEyes_L1 A (nI p) n (nI (tm_sm (fun m => tm_ey E (tm_wt T B h p m) (T 3)) i + tm_ey E (tm_wt T B h p i) (T 3))) (nI (i + 1))
    rw [g_X10_allEyes_L1, if_neg (tm_n59 hi), tm_wo hK.1 hW hK.2 hSB hp hi, Option.bind_some, tm_eye10 hK.1 hW (fun p hp => (hK.2.2.2 p hp).2) (by omega), Option.bind_some, nI_add, ← nI_succ]
/-- the first of the most -/
def tm_ms (a : Nat → Nat) : Nat → Nat × Nat
  | 0 => (0, a 0)
  | i + 1 => if (tm_ms a i).2 < a (i + 1) then (i + 1, a (i + 1)) else tm_ms a i
theorem tm_ms_le (a : Nat → Nat) {c : Nat} : ∀ i, (∀ j, j ≤ i → a j ≤ c) → (tm_ms a i).2 ≤ c
  | 0, h => h 0 (Nat.le_refl _)
  | i + 1, h => by
    rw [tm_ms]
    split
    · exact h (i + 1) (Nat.le_refl _)
    · exact tm_ms_le a i fun j hj => h j (by omega)
theorem tm_sq9 {I : Nat → Int32} {A : Nat → Nat → Int32} {T : Nat → Nat} {B : Nat} {h W E : Nat → Nat} (hW : tm_W T) (hK : tm_K9 I A T B h W E) (hSB : tm_SB T B h W E) (h0 : ¬ T 1 = 0) : g_X9_square_L1 I A 4096 (0 : Int32) (-1 : Int32) (0 : Int32) = some (nI (tm_ms (tm_al T B h E) (T 1 - 1)).1) := by
  have h1 := tm_W_b1 hW
  have hal : ∀ p, tm_al T B h E p ≤ 720 := fun p => tm_al_le hW hSB p 60
  refine tm_lp (fun n i (v : Int32 × Int32) => g_X9_square_L1 I A n v.1 v.2 i) (T 1) 0 (fun i => match i with
    | 0 => ((0 : Int32), (-1 : Int32))
    | j + 1 => (nI (tm_ms (tm_al T B h E) j).1, nI (tm_ms (tm_al T B h E) j).2)) _ (Nat.zero_le _) ?_ ?_ (m := 4096) (by omega)
  · intro n
    obtain ⟨k, hk⟩ : ∃ k, T 1 = k + 1 := ⟨T 1 - 1, by omega⟩
    show g_X9_square_L1 I A (n + 1) _ _ (nI (T 1)) = _
    rw [g_X9_square_L1, tm_cn1 hK.1, if_pos (nI_le (Nat.le_refl _) (by omega)), hk]
    rfl
  · intro n i _ hi
    show g_X9_square_L1 I A (n + 1) _ _ (nI i) = g_X9_square_L1 I A n _ _ (nI (i + 1))
    rw [g_X9_square_L1, tm_cn1 hK.1, if_neg (nI_ge hi (by omega)), tm_al9 hW hK hSB hi, Option.bind_some, ← nI_succ]
    cases i with
    | zero =>
      dsimp only
      have hn : ¬ nI (tm_al T B h E 0) ≤ (-1 : Int32) := by
        have := hal 0
        rw [Int32.le_iff_toInt_le, nI_toInt (by omega), show (-1 : Int32).toInt = -1 from rfl]
        omega
      rw [if_neg hn, Option.bind_some]
      rfl
    | succ j =>
      have hm := tm_ms_le (tm_al T B h E) j (fun p _ => hal p)
      have ha := hal (j + 1)
      dsimp only
      rw [tm_ms]
      by_cases g : (tm_ms (tm_al T B h E) j).2 < tm_al T B h E (j + 1)
      · rw [if_neg (nI_ge g (by omega)), Option.bind_some, if_pos g]
      · rw [if_pos (nI_le (by omega) (by omega)), Option.bind_some, if_neg g]
theorem tm_sq10 {A : Nat → Nat → Int32} {T : Nat → Nat} {B : Nat} {h W E : Nat → Nat} (hW : tm_W T) (hK : tm_K10 A T B h W E) (hSB : tm_SB T B h W E) (h0 : ¬ T 1 = 0) : g_X10_square_L1 A 4096 (0 : Int32) (nI (tm_al T B h E 0)) (1 : Int32) = some (nI (tm_ms (tm_al T B h E) (T 1 - 1)).1) := by
  have h1 := tm_W_b1 hW
  have hal : ∀ p, tm_al T B h E p ≤ 720 := fun p => tm_al_le hW hSB p 60
  refine tm_lp (fun n i (v : Int32 × Int32) => g_X10_square_L1 A n v.1 v.2 i) (T 1) 1 (fun i => (nI (tm_ms (tm_al T B h E) (i - 1)).1, nI (tm_ms (tm_al T B h E) (i - 1)).2)) _ (by omega) ?_ ?_ (m := 4096) (by omega)
  · intro n
    show g_X10_square_L1 A (n + 1) _ _ (nI (T 1)) = _
    rw [g_X10_square_L1, tm_r_c1 hK.1, Option.bind_some, if_pos (nI_le (Nat.le_refl _) (by omega))]
  · intro n i hi0 hi
    obtain ⟨j, rfl⟩ : ∃ j, i = j + 1 := ⟨i - 1, by omega⟩
    have hm := tm_ms_le (tm_al T B h E) j (fun p _ => hal p)
    have ha := hal (j + 1)
    show g_X10_square_L1 A (n + 1) (nI (tm_ms (tm_al T B h E) j).1) (nI (tm_ms (tm_al T B h E) j).2) (nI (j + 1)) = g_X10_square_L1 A n (nI (tm_ms (tm_al T B h E) (j + 1)).1) (nI (tm_ms (tm_al T B h E) (j + 1)).2) (nI (j + 1 + 1))
    rw [g_X10_square_L1, tm_r_c1 hK.1, Option.bind_some, if_neg (nI_ge hi (by omega)), tm_al10 hW hK hSB hi, Option.bind_some, tm_ms, ← nI_succ (j + 1)]
    by_cases g : (tm_ms (tm_al T B h E) j).2 < tm_al T B h E (j + 1)
    · rw [if_pos (nI_lt g (by omega)), Option.bind_some, if_pos g]
    · rw [if_neg (nI_nlt (by omega) (by omega)), Option.bind_some, if_neg g]
theorem tm_q_square {I : Nat → Int32} {A : Nat → Nat → Int32} (h : tm_Inv I A) (sc : Nat) : ∃ x I1 A1 sc1, g_X9_square I A sc = some (x, I1, A1, sc1) ∧ ∃ I2 A2, g_X10_square I1 A1 = some (x, I2, A2) ∧ tm_Inv I2 A2 := by
  obtain ⟨⟨T, s, U, V, t, hP⟩, hT, hS⟩ := id h
  obtain ⟨hW, hR, hC, hH, hrow, hrest⟩ := id hP
  have hv : ∀ v : Int32, tm_H (upd (upd (upd I 12 v) 4400 0) 4411 0) T := fun v => tm_H_of hH ((tm_g44 0 0).trans (tm_12_44 v))
  have hSB := tm_SBt hW (fun p hp => (hrow.1 p hp).2) hrow.2.2.1
  by_cases h0 : T 1 = 0
  · refine ⟨-1, upd I 12 1, A, sc, ?_, _, A, ?_, tm_ref h (w := 1) (by decide)⟩
    · unfold g_X9_square
      dsimp only [tw_let, g_X9_refuse]
      rw [tm_town_f hC h0, if_neg (by decide)]
    · unfold g_X10_square g_X10_good
      dsimp only [tw_let, g_X10_no]
      rw [hv 1, if_pos h0, if_pos rfl]
  · obtain ⟨I1, A1, e1, k1, f1, s1⟩ := tm_now9 hP hS
    have z2 := k1.2.2
    have f2 := tm_f9_r I1 A1
    have f12 := tm_f9_t f1 f2
    obtain ⟨r1, r2, r3⟩ := tm_hand hP f12 0
    obtain ⟨A3, e3, k3, f3⟩ := tm_now10 hW r1 r2

    refine ⟨nI (tm_ms (tm_al T (s 6) s (tm_Et T)) (T 1 - 1)).1, upd I1 12 0, A1, 2, ?_, _, A3, ?_, tm_done h f12 z2 (fun _ _ => rfl) (f3)⟩
    · unfold g_X9_square
      dsimp only [tw_let, g_X9_grant]
      rw [tm_town_t hC hW h0, if_pos rfl, e1, Option.bind_some]
      dsimp only
      rw [tm_sq9 hW k1 hSB h0, Option.bind_some]
    · unfold g_X10_square g_X10_good
      dsimp only [tw_let, g_X10_no]
      rw [r3, if_neg h0, if_neg (by decide), e3, Option.bind_some]
      rw [show g_X10_allEyes A3 (0 : Int32) = _ from tm_al10 (p := 0) hW k3 hSB (by omega), Option.bind_some, tm_sq10 hW k3 hSB h0, Option.bind_some]
theorem tm_q_endsIf {I : Nat → Int32} {A : Nat → Nat → Int32} (h : tm_Inv I A) (sc : Nat) (a : Int32) (b : Int32) (c : Int32) : ∃ x I1 A1 sc1, g_X9_endsIf I A sc a b c = some (x, I1, A1, sc1) ∧ ∃ I2 A2, g_X10_endsIf I1 A1 a b c = some (x, I2, A2) ∧ tm_Inv I2 A2 := by
  obtain ⟨⟨T, s, U, V, t, hP⟩, hT, hS⟩ := id h
  obtain ⟨hW, hR, hC, hH, hrow, hrest⟩ := id hP
  have hv : ∀ v : Int32, tm_H (upd (upd (upd I 12 v) 4400 0) 4411 0) T := fun v => tm_H_of hH ((tm_g44 0 0).trans (tm_12_44 v))
  have hSB := tm_SBt hW (fun p hp => (hrow.1 p hp).2) hrow.2.2.1
  by_cases ka : tm_ok (T 5) a
  · obtain ⟨q, hq, rfl⟩ := ka
    by_cases kb : tm_ok (T 1) b
    · obtain ⟨p, hp, rfl⟩ := kb
      by_cases kc : tm_ok 60 c
      · obtain ⟨m, hm, rfl⟩ := kc
        obtain ⟨I1, A1, e1, k1, f1, s1⟩ := tm_now9 hP hS
        obtain ⟨I2, A2, e2, x2, k2, f2, -⟩ := tm_rn9 hW k1 hSB hq hp hm
        have f12 := tm_f9_t f1 f2
        obtain ⟨r1, r2, r3⟩ := tm_hand hP f12 0
        obtain ⟨A3, e3, k3, f3⟩ := tm_now10 hW r1 r2
        obtain ⟨I4, e4, x4, f4⟩ := tm_rn10 (I := upd (upd (upd I2 12 0) 4400 0) 4411 0) hW k3 hSB hq hp hm
        refine ⟨(tm_res T (s 6) s (tm_Wt T) (tm_Et T) q p m).1, upd I2 12 0, A2, 2, ?_, I4, A3, ?_, tm_done h f12 k2.2.2 (fun k hk => f4 k (by omega)) f3⟩
        · unfold g_X9_endsIf
          dsimp only [tw_let, g_X9_grant]
          rw [tm_9Quarrel_t hC hW hq, if_pos rfl, tm_9Place_t hC hW hp, if_pos rfl, tm_9min_t hm, if_pos rfl, e1, Option.bind_some]
          dsimp only
          rw [e2, Option.bind_some]
          dsimp only
          rw [x2.1]
        · unfold g_X10_endsIf g_X10_good
          dsimp only [tw_let, g_X10_no]
          rw [tm_10Quarrel_t r1 hW r3 hq, Option.bind_some, if_pos rfl, tm_10Place_t r1 hW r3 hp, Option.bind_some, if_pos rfl, Option.bind_some, tm_10min_t hm, show g_X10_why (1 : Int32) (tw_b true) = 0 by decide, if_pos rfl, e3, Option.bind_some, e4, Option.bind_some, x4.1]
      · refine ⟨-1, upd I 12 2, A, sc, ?_, _, A, ?_, tm_ref h (w := 2) (by decide)⟩
        · unfold g_X9_endsIf
          dsimp only [tw_let, g_X9_refuse]
          rw [tm_9Quarrel_t hC hW hq, if_pos rfl, tm_9Place_t hC hW hp, if_pos rfl, tm_9min_f kc, if_neg (by decide)]
        · unfold g_X10_endsIf g_X10_good
          dsimp only [tw_let, g_X10_no]
          rw [tm_10Quarrel_t hR hW (hv 2) hq, Option.bind_some, if_pos rfl, tm_10Place_t hR hW (hv 2) hp, Option.bind_some, if_pos rfl, Option.bind_some, tm_10min_f kc, show g_X10_why (1 : Int32) (tw_b false) = 2 by decide, if_neg (by decide)]
    · refine ⟨-1, upd I 12 1, A, sc, ?_, _, A, ?_, tm_ref h (w := 1) (by decide)⟩
      · unfold g_X9_endsIf
        dsimp only [tw_let, g_X9_refuse]
        rw [tm_9Quarrel_t hC hW hq, if_pos rfl, tm_9Place_f hC hW kb, if_neg (by decide)]
      · unfold g_X10_endsIf g_X10_good
        dsimp only [tw_let, g_X10_no]
        rw [tm_10Quarrel_t hR hW (hv 1) hq, Option.bind_some, if_pos rfl, tm_10Place_f hR hW kb, Option.bind_some, if_neg (by decide), Option.bind_some, show g_X10_why (0 : Int32) (tw_b (g_X10_isMinute c)) = 1 from rfl, if_neg (by decide)]
  · refine ⟨-1, upd I 12 1, A, sc, ?_, _, A, ?_, tm_ref h (w := 1) (by decide)⟩
    · unfold g_X9_endsIf
      dsimp only [tw_let, g_X9_refuse]
      rw [tm_9Quarrel_f hC hW ka, if_neg (by decide)]
    · unfold g_X10_endsIf g_X10_good
      dsimp only [tw_let, g_X10_no]
      rw [tm_10Quarrel_f hR hW ka, Option.bind_some, if_neg (by decide), Option.bind_some, show g_X10_why (0 : Int32) (tw_b (g_X10_isMinute c)) = 1 from rfl, if_neg (by decide)]
