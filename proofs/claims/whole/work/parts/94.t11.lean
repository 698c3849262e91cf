/-! MATHEMATICS, 45: the text as a whole, in both -/
def tp_F0 : Nat → Nat := fun _ => 0
def tp_lines (c : Nat → Nat) (n : Nat) : Nat → Nat → (Nat → Nat) → tp_S
  | 0, e, F => .inr (e, F)
  | k + 1, e, F => if tp_kd c n e = 3 then tp_b (tp_line c n (tp_st c n e) F) fun y => tp_lines c n k y.1 y.2 else .inr (e, F)
def tp_end (c : Nat → Nat) (n e : Nat) (F : Nat → Nat) : tp_S := if tp_kd c n e = 0 then (if 0 < F 1 then .inr (e, F) else .inl (6, tp_at c n e)) else .inl (1, tp_at c n e)
def tp_all (c : Nat → Nat) (n : Nat) : tp_S := tp_b (tp_line c n 0 tp_F0) fun y => tp_b (tp_lines c n 1000 y.1 y.2) fun z => tp_end c n z.1 z.2
theorem tp_WF_0 : tp_WF tp_F0 0 0 0 := by
  refine ⟨⟨by decide, fun _ _ _ _ => rfl, by decide, by decide, by decide, by decide, by decide, by decide, by decide⟩, fun k hk => absurd hk (Nat.not_lt_zero _), fun k hk => absurd hk (Nat.not_lt_zero _), fun k hk => absurd hk (Nat.not_lt_zero _), fun k hk => absurd hk (Nat.not_lt_zero _), ⟨fun _ _ => Nat.zero_le _, fun _ _ _ => rfl, by decide⟩, fun k hk => absurd hk (Nat.not_lt_zero _), ⟨fun _ _ => Nat.zero_le _, by decide⟩, ⟨fun s _ => ⟨Nat.zero_le _, fun j hj => absurd hj (Nat.not_lt_zero _)⟩, fun s t _ _ h => absurd h (Nat.lt_irrefl 0)⟩, fun s _ h => absurd h (Nat.lt_irrefl 0)⟩
theorem tp_kd0 {c : Nat → Nat} {n e : Nat} (h : n ≤ e) : tp_kd c n e = 0 := if_pos (Nat.le_trans h (tp_at_ge c n e))
theorem tp_lines_ok {c : Nat → Nat} {n : Nat} : ∀ k e e2 (F G : Nat → Nat), tp_WF F 0 0 0 → tp_lines c n k e F = .inr (e2, G) → tp_WF G 0 0 0
  | 0, e, e2, F, G, hW, h => by
    cases h
    exact hW
  | k + 1, e, e2, F, G, hW, h => by
    rw [tp_lines] at h
    split at h
    · obtain ⟨y, hy, h⟩ := tp_b_i h
      obtain ⟨e3, H⟩ := y
      exact tp_lines_ok k _ _ _ _ (tp_line_ok hW hy).2.2 h
    · cases h
      exact hW
theorem tp_loop9 {c : Nat → Nat} {n : Nat} {I0 : Nat → Int32} {A0 : Nat → Nat → Int32} : ∀ k e i m (F : Nat → Nat) (I : Nat → Int32) (L : Nat → Int64) (A : Nat → Nat → Int32) (J : Nat → Nat → Int64), n - e < k → n - e + 1 < m → i ≤ e → tp_T9 c n I L A e → tp_Q9 I0 A0 I A J F (F 1 + F 3 + F 5) → tp_WF F 0 0 0 → ∃ b I1 L1 A1 J1, g_X4_readTown_L1 m true (nI i) I L A J = some (b, I1, L1, A1, J1) ∧ tp_O9 c n I0 A0 (tp_lines c n k e F) b I1 L1 A1 J1 := by
  intro k
  induction k with
  | zero =>
    intro e i m F I L A J h
    omega
  | succ k ih =>
    intro e i m F I L A J hk hm hi hT hQ hW
    obtain ⟨m, rfl⟩ : ∃ q, m = q + 1 := ⟨m - 1, by omega⟩
    have hn := hT.1.1
    have he := hT.2.1
    rw [g_X4_readTown_L1, tp_lines]
    by_cases g : 900 ≤ i
    · rw [if_pos (show (900 : Int32) ≤ nI i from nI_le (a := 900) g (by omega)), if_neg (by rw [tp_kd0 (by omega)]; decide)]
      exact ⟨_, _, _, _, _, rfl, tp_O9_r hT hQ rfl⟩
    · rw [if_neg (show ¬ (900 : Int32) ≤ nI i from nI_ge (b := 900) (by omega) (by decide)), if_pos rfl]
      by_cases g3 : tp_kd c n e = 3
      · rw [if_pos ((tp_T9_k3 hT).mpr g3), if_pos g3]
        obtain ⟨I1, L1, a1, a2, a3, a4⟩ := tp_nxt9 hT (by omega)
        rw [a1, Option.bind_some]
        dsimp only
        have hQ1 : tp_Q9 I0 A0 I1 A J F (F 1 + F 3 + F 5) := tp_Q9_g hQ hW.1 (fun k k1 _ _ _ => a4 k k1) (a4 2610 (by decide)) (fun _ _ => rfl)
        obtain ⟨b, I2, L2, A2, J2, b1, b2⟩ := tp_line9 a2 hQ1 hW
        rw [b1, Option.bind_some]
        dsimp only
        obtain ⟨m, rfl⟩ : ∃ q, m = q + 1 := ⟨m - 1, by omega⟩
        have hgt := tp_st_gt (c := c) (n := n) (e := e) (by omega)
        have hge := tp_at_ge c n e
        cases hl : tp_line c n (tp_st c n e) F with
        | inl x =>
          rw [hl] at b2
          obtain ⟨rfl, b3⟩ := b2
          rw [tp_b_l, g_X4_readTown_L1]
          refine ⟨false, I2, L2, A2, J2, ?_, rfl, b3⟩
          by_cases z : (900 : Int32) ≤ nI i + 1
          · rw [if_pos z]
          · rw [if_neg z, if_neg (by decide)]
        | inr y =>
          rw [hl] at b2
          obtain ⟨e2, G⟩ := y
          obtain ⟨rfl, b3, b4⟩ := b2
          obtain ⟨w1, w2, w3⟩ := tp_line_ok hW hl
          have w4 := w2 (tp_st_le he)
          rw [tp_b_r, ← nI_succ]
          exact ih e2 (i + 1) (m + 1) G I2 L2 A2 J2 (by omega) (by omega) (by omega) b3 b4 w3
      · rw [if_neg (fun q => g3 ((tp_T9_k3 hT).mp q)), if_neg g3]
        exact ⟨_, _, _, _, _, rfl, tp_O9_r hT hQ rfl⟩
theorem tp_loop10 {c : Nat → Nat} {n : Nat} {I0 : Nat → Int32} {A0 : Nat → Nat → Int32} : ∀ k e m (F : Nat → Nat) (I : Nat → Int32) (A : Nat → Nat → Int32), n - e < k → n - e + 1 < m → tp_T10 c n I A e → tp_Q10 I0 A0 I A F → tp_WF F 0 0 0 → ∃ I1 A1, g_X10_town_L2 m I A = some (I1, A1) ∧ tp_O10 c n I0 A0 (tp_lines c n k e F) I1 A1 := by
  intro k
  induction k with
  | zero =>
    intro e m F I A h
    omega
  | succ k ih =>
    intro e m F I A hk hm hT hQ hW
    obtain ⟨m, rfl⟩ : ∃ q, m = q + 1 := ⟨m - 1, by omega⟩
    have he := hT.2.1
    rw [g_X10_town_L2, tp_lines, if_pos hQ.2.1]
    by_cases g3 : tp_kd c n e = 3
    · rw [if_pos ((tp_T10_k3 hT).mpr g3), if_pos g3]
      obtain ⟨I1, A1, a1, a2, a3, a4⟩ := tp_nxt10 hT (by omega)
      rw [a1, Option.bind_some]
      dsimp only
      obtain ⟨I2, A2, b1, b2⟩ := tp_line10 a2 (tp_Q10_of hQ a3 a4) hW
      rw [b1, Option.bind_some]
      dsimp only
      have hgt := tp_st_gt (c := c) (n := n) (e := e) (by omega)
      have hge := tp_at_ge c n e
      cases hl : tp_line c n (tp_st c n e) F with
      | inl x =>
        rw [hl] at b2
        obtain ⟨m, rfl⟩ : ∃ q, m = q + 1 := ⟨m - 1, by omega⟩
        rw [tp_b_l, g_X10_town_L2]
        have N : ¬ I2 4413 = 0 := tp_F10_N b2.1
        rw [if_neg N]
        exact ⟨I2, A2, rfl, b2⟩
      | inr y =>
        rw [hl] at b2
        obtain ⟨e2, G⟩ := y
        obtain ⟨w1, w2, w3⟩ := tp_line_ok hW hl
        have w4 := w2 (tp_st_le he)
        rw [tp_b_r]
        have hst := tp_st_le (c := c) he
        exact ih e2 m G I2 A2 (by omega) (by omega) b2.1 b2.2 w3
    · rw [if_neg (fun q => g3 ((tp_T10_k3 hT).mp q)), if_neg g3]
      exact ⟨I, A, rfl, hT, hQ⟩
theorem tp_town9 {c : Nat → Nat} {n : Nat} {I : Nat → Int32} {A : Nat → Nat → Int32} (L : Nat → Int64) (J : Nat → Nat → Int64) (hb : tp_by c n A) : ∃ b I1 L1 A1 J1, g_X4_readTown I L A J (nI n) = some (b, I1, L1, A1, J1) ∧ tp_Z9 I A I1 A1 ∧ match tp_all c n with
    | .inl x => b = false ∧ tp_F9 I1 x
    | .inr y => b = true ∧ tp_C A1 y.2 ∧ I1 2610 = 0 ∧ tp_WF y.2 0 0 0 ∧ 0 < y.2 1 := by
  have hn := hb.1
  unfold g_X4_readTown g_X8_clear_14
  dsimp only [tw_let]
  have hA : ∀ d, (d < 15 ∨ 31 < d) → (va_up (va_up (va_up (va_up A 15 (tw_fill0 9 (A 15) 0)) 20 (tw_fill0 6 (A 20) (-2))) 23 (tw_fill0 3 (A 23) (-2))) 30 (tw_fill0 6 ((va_up (va_up (va_up A 15 (tw_fill0 9 (A 15) 0)) 20 (tw_fill0 6 (A 20) (-2))) 23 (tw_fill0 3 (A 23) (-2))) 30) 0)) d = A d := fun d hd => by rw [tm_vn _ (by omega), tm_vn _ (by omega), tm_vn _ (by omega), tm_vn _ (by omega)]
  have hC : tp_C (va_up (va_up (va_up (va_up A 15 (tw_fill0 9 (A 15) 0)) 20 (tw_fill0 6 (A 20) (-2))) 23 (tw_fill0 3 (A 23) (-2))) 30 (tw_fill0 6 ((va_up (va_up (va_up A 15 (tw_fill0 9 (A 15) 0)) 20 (tw_fill0 6 (A 20) (-2))) 23 (tw_fill0 3 (A 23) (-2))) 30) 0)) tp_F0 := by
    refine ⟨fun j hj => ?_, fun k hk => absurd hk (Nat.not_lt_zero _), fun k hk => absurd hk (Nat.not_lt_zero _), fun p hp => ?_, fun k hk => absurd hk (Nat.not_lt_zero _), fun q hq => ?_, fun k hk => absurd hk (Nat.not_lt_zero _)⟩
    · rw [tm_vn _ (by decide), tm_vn _ (by decide), tm_vn _ (by decide), tm_vs]
      exact if_pos hj
    · rw [tm_vn _ (by decide), tm_vn _ (by decide), tm_vs]
      exact if_pos hp
    · rw [tm_vn _ (by decide), tm_vs]
      exact if_pos hq
  have h30 : ∀ p, p < 6 → (va_up (va_up (va_up (va_up A 15 (tw_fill0 9 (A 15) 0)) 20 (tw_fill0 6 (A 20) (-2))) 23 (tw_fill0 3 (A 23) (-2))) 30 (tw_fill0 6 ((va_up (va_up (va_up A 15 (tw_fill0 9 (A 15) 0)) 20 (tw_fill0 6 (A 20) (-2))) 23 (tw_fill0 3 (A 23) (-2))) 30) 0)) 30 p = 0 := fun p hp => by
    rw [tm_vs]
    exact if_pos hp
  generalize (va_up (va_up (va_up (va_up A 15 (tw_fill0 9 (A 15) 0)) 20 (tw_fill0 6 (A 20) (-2))) 23 (tw_fill0 3 (A 23) (-2))) 30 (tw_fill0 6 ((va_up (va_up (va_up A 15 (tw_fill0 9 (A 15) 0)) 20 (tw_fill0 6 (A 20) (-2))) 23 (tw_fill0 3 (A 23) (-2))) 30) 0)) = B at hA hC h30 ⊢
  unfold g_X7_start
  have hbB : tp_by c n B := ⟨hn, fun j hj => by rw [hA 1 (by decide)]; exact hb.2 j hj⟩
  obtain ⟨I1, L1, a1, a2, a3, a4⟩ := tp_nx9 hbB (e := 0) (Nat.zero_le _) (I := upd (upd (upd (upd (upd (upd I 2602 (0 : Int32)) 2606 (0 : Int32)) 2610 (0 : Int32)) 2611 (0 : Int32)) 3201 (nI n)) 3204 (0 : Int32)) L (by rw [tm_un _ (by decide), tm_us]) (by rw [tm_us]; rfl)
  rw [a1, Option.bind_some, Option.bind_some]
  dsimp only
  have hQ : tp_Q9 I A I1 B J tp_F0 (tp_F0 1 + tp_F0 3 + tp_F0 5) := by
    refine ⟨⟨fun k hk => ?_, fun d hd => hA d hd⟩, ?_, ?_, hC, fun p hp => (h30 p hp).trans rfl, ?_, by decide, fun _ => 0, fun i hi => absurd hi (Nat.not_lt_zero _), fun s _ h => absurd h (Nat.lt_irrefl 0)⟩
    · rw [a4 k (by omega), tm_un _ (by omega), tm_un _ (by omega), tm_un _ (by omega), tm_un _ (by omega), tm_un _ (by omega), tm_un _ (by omega)]
    · rw [a4 2602 (by decide), tm_un _ (by decide), tm_un _ (by decide), tm_un _ (by decide), tm_un _ (by decide), tm_un _ (by decide), tm_us]
      rfl
    · rw [a4 2610 (by decide), tm_un _ (by decide), tm_un _ (by decide), tm_un _ (by decide), tm_us]
    · rw [a4 2606 (by decide), tm_un _ (by decide), tm_un _ (by decide), tm_un _ (by decide), tm_un _ (by decide), tm_us]
      rfl
  obtain ⟨b, I2, L2, A2, J2, b1, b2⟩ := tp_line9 a2 hQ tp_WF_0
  rw [b1, Option.bind_some]
  dsimp only
  unfold tp_all
  cases hl : tp_line c n 0 tp_F0 with
  | inl x =>
    rw [hl] at b2
    obtain ⟨rfl, b3, b4⟩ := b2
    have e1 : g_X4_readTown_L1 4096 false (0 : Int32) I2 L2 A2 J2 = some (false, I2, L2, A2, J2) := by
      rw [g_X4_readTown_L1, if_neg (by decide), if_neg (by decide)]
    rw [e1, Option.bind_some]
    dsimp only
    rw [if_neg (by decide), tp_b_l]
    exact ⟨_, _, _, _, _, rfl, b4, rfl, b3⟩
  | inr y =>
    rw [hl] at b2
    obtain ⟨e2, G⟩ := y
    obtain ⟨rfl, b3, b4⟩ := b2
    obtain ⟨w1, w2, w3⟩ := tp_line_ok tp_WF_0 hl
    rw [tp_b_r]
    dsimp only
    obtain ⟨b, I3, L3, A3, J3, c1, c2⟩ := tp_loop9 1000 e2 0 4096 G I2 L2 A2 J2 (by omega) (by omega) (Nat.zero_le _) b3 b4 w3
    rw [show g_X4_readTown_L1 4096 true (0 : Int32) I2 L2 A2 J2 = _ from c1, Option.bind_some]
    dsimp only
    cases hm : tp_lines c n 1000 e2 G with
    | inl x =>
      rw [hm] at c2
      obtain ⟨rfl, c3, c4⟩ := c2
      rw [if_neg (by decide), tp_b_l]
      exact ⟨_, _, _, _, _, rfl, c4, rfl, c3⟩
    | inr z =>
      rw [hm] at c2
      obtain ⟨e3, H⟩ := z
      obtain ⟨rfl, c3, c4⟩ := c2
      have w5 := tp_lines_ok _ _ _ _ _ w3 hm
      rw [if_pos rfl, tp_b_r]
      dsimp only
      unfold g_X4_readEnd tp_end
      by_cases k0 : tp_kd c n e3 = 0
      · rw [if_pos ((tp_T9_k0 c3).mpr k0), if_pos k0]
        have ct : g_X8_count_14 A3 (1 : Int32) = nI (H 1) := by
          unfold g_X8_count_14
          rw [show tw_get0 9 (A3 15) (1 : Int32) = A3 15 1 from tm_get (i := 1) (by decide) (by decide), c4.2.2.2.1.1 1 (by decide)]
        rw [ct]
        have h16 := w5.1.2.2.2.1
        by_cases h1 : 0 < H 1
        · rw [if_pos (show (0 : Int32) < nI (H 1) from nI_lt (a := 0) h1 (by omega)), if_pos h1, if_pos rfl]
          exact ⟨_, _, _, _, _, rfl, c4.1, rfl, c4.2.2.2.1, c4.2.2.1, w5, h1⟩
        · rw [if_neg h1, if_neg (show ¬ (0 : Int32) < nI (H 1) by rw [show H 1 = 0 by omega]; decide)]
          obtain ⟨I4, d1, d2, d3⟩ := tp_fail9 c3 6
          rw [show g_X4_fail I3 (6 : Int32) = _ from d1]
          dsimp only [tw_let]
          simp only [Bool.false_eq_true, if_false]
          exact ⟨_, _, _, _, _, rfl, ⟨fun k hk => (d3 k (by omega) (by omega)).trans (c4.1.1 k hk), c4.1.2⟩, rfl, d2⟩
      · rw [if_neg (fun q => k0 ((tp_T9_k0 c3).mp q)), if_neg k0]
        obtain ⟨I4, d1, d2, d3⟩ := tp_fail9 c3 1
        rw [show g_X4_fail I3 (1 : Int32) = _ from d1]
        dsimp only [tw_let]
        rw [if_neg (by decide)]
        exact ⟨_, _, _, _, _, rfl, ⟨fun k hk => (d3 k (by omega) (by omega)).trans (c4.1.1 k hk), c4.1.2⟩, rfl, d2⟩
theorem tp_zero10 {A : Nat → Nat → Int32} : ∃ B, g_X10_town_L1 4096 (0 : Int32) A = some B ∧ (∀ d, d ≠ 48 → B d = A d) ∧ ∀ j, j < 241 → B 48 j = 0 := by
  have key : ∀ d i m B, 241 - i = d → d < m → i ≤ 241 → (∀ d, d ≠ 48 → B d = A d) → (∀ j, j < i → B 48 j = 0) → ∃ C, g_X10_town_L1 m (nI i) B = some C ∧ (∀ d, d ≠ 48 → C d = A d) ∧ ∀ j, j < 241 → C 48 j = 0 := by
    intro d
    induction d with
    | zero =>
      intro i m B hd hm hi h1 h2
      obtain ⟨m, rfl⟩ : ∃ q, m = q + 1 := ⟨m - 1, by omega⟩
      rw [g_X10_town_L1, if_pos (show (241 : Int32) ≤ nI i from nI_le (a := 241) (by omega) (by omega))]
      exact ⟨B, rfl, h1, fun j hj => h2 j (by omega)⟩
    | succ d ih =>
      intro i m B hd hm hi h1 h2
      obtain ⟨m, rfl⟩ : ∃ q, m = q + 1 := ⟨m - 1, by omega⟩
      rw [g_X10_town_L1, if_neg (show ¬ (241 : Int32) ≤ nI i from nI_ge (b := 241) (by omega) (by decide)), tm_st (by omega) (by decide), Option.bind_some, ← nI_succ]
      refine ih (i + 1) m _ (by omega) (by omega) (by omega) (fun d hd => (tm_vn _ hd).trans (h1 d hd)) (fun j hj => ?_)
      rw [tm_vs]
      by_cases q : j = i
      · rw [q, tm_us]
      · rw [tm_un _ q]
        exact h2 j (by omega)
  exact key 241 0 4096 A rfl (by omega) (Nat.zero_le _) (fun _ _ => rfl) (fun j hj => absurd hj (Nat.not_lt_zero _))
theorem tp_zst10 {A : Nat → Nat → Int32} : ∃ B, g_X10_town_L3 4096 (0 : Int32) A = some B ∧ (∀ d, d ≠ 49 → B d = A d) ∧ ∀ j, j < 8 → B 49 j = 0 := by
  have key : ∀ d i m B, 8 - i = d → d < m → i ≤ 8 → (∀ d, d ≠ 49 → B d = A d) → (∀ j, j < i → B 49 j = 0) → ∃ C, g_X10_town_L3 m (nI i) B = some C ∧ (∀ d, d ≠ 49 → C d = A d) ∧ ∀ j, j < 8 → C 49 j = 0 := by
    intro d
    induction d with
    | zero =>
      intro i m B hd hm hi h1 h2
      obtain ⟨m, rfl⟩ : ∃ q, m = q + 1 := ⟨m - 1, by omega⟩
      rw [g_X10_town_L3, if_pos (show (8 : Int32) ≤ nI i from nI_le (a := 8) (by omega) (by omega))]
      exact ⟨B, rfl, h1, fun j hj => h2 j (by omega)⟩
    | succ d ih =>
      intro i m B hd hm hi h1 h2
      obtain ⟨m, rfl⟩ : ∃ q, m = q + 1 := ⟨m - 1, by omega⟩
      rw [g_X10_town_L3, if_neg (tm_ge8 (by omega)), tm_st (by omega) (by decide), Option.bind_some, ← nI_succ]
      refine ih (i + 1) m _ (by omega) (by omega) (by omega) (fun d hd => (tm_vn _ hd).trans (h1 d hd)) (fun j hj => ?_)
      rw [tm_vs]
      by_cases q : j = i
      · rw [q, tm_us]
      · rw [tm_un _ q]
        exact h2 j (by omega)
  exact key 8 0 4096 A rfl (by omega) (Nat.zero_le _) (fun _ _ => rfl) (fun j hj => absurd hj (Nat.not_lt_zero _))
/-- what a text leaves in the reference, ahead of the town's taking -/
theorem tp_par10 {c : Nat → Nat} {n : Nat} {I : Nat → Int32} {A : Nat → Nat → Int32} (hb : tp_by10 c n A) (h1 : I 4403 = nI n) (h2 : I 4405 = 0) (h3 : I 4413 = 0) (h4 : I 4409 = 0) (h5 : ∀ j, j < 241 → A 48 j = 0) : ∃ I8 A9 I11 A12 I14 A15 I25 I31, g_X10_next I A = some (I8, A9) ∧ g_X10_readLine I8 A9 = some (I11, A12) ∧ g_X10_town_L2 4096 I11 A12 = some (I14, A15) ∧ (if (I14 4413) = 0 then (if (I14 4406) = 0 then (some I14) else (tw_let (g_X10_wrong I14 (1 : Int32) (I14 4404)) fun I28 => some I28)) else (some I14)) = some I25 ∧ (if (I25 4413) = 0 then ((tw_ld 241 (A15 48) (9 : Int32)).bind fun x34 => if x34 = 0 then (tw_let (g_X10_wrong I25 (6 : Int32) (I25 4404)) fun I36 => some I36) else ((tw_ld 241 (A15 48) (1 : Int32)).bind fun x39 => if x39 = 0 then (tw_let (g_X10_wrong I25 (6 : Int32) (I25 4404)) fun I41 => some I41) else (some I25))) else (some I25)) = some I31 ∧ tp_Z10 I A I31 A15 ∧ match tp_all c n with
    | .inl x => tp_F10 I31 x
    | .inr y => I31 4413 = 0 ∧ I31 4409 = 0 ∧ ∀ j, j < 241 → A15 48 j = nI (y.2 j) := by
  have hn := hb.1
  obtain ⟨I8, A9, a1, a2, a3, a4⟩ := tp_nx10 hb (e := 0) (Nat.zero_le _) h1 h2
  have hQ : tp_Q10 I A I8 A9 tp_F0 := tp_Q10_of (I := I) (A := A) ⟨⟨fun _ _ _ => rfl, fun _ _ _ => rfl⟩, h3, h4, fun j hj => (h5 j hj).trans rfl⟩ a3 a4
  obtain ⟨I11, A12, b1, b2⟩ := tp_line10 a2 hQ tp_WF_0
  unfold tp_all
  cases hl : tp_line c n 0 tp_F0 with
  | inl x =>
    rw [hl] at b2
    have N : ¬ I11 4413 = 0 := tp_F10_N b2.1
    rw [tp_b_l]
    refine ⟨I8, A9, I11, A12, I11, A12, I11, I11, a1, b1, ?_, if_neg N, if_neg N, b2.2, b2.1⟩
    rw [g_X10_town_L2, if_neg N]
  | inr y =>
    rw [hl] at b2
    obtain ⟨e2, G⟩ := y
    obtain ⟨w1, w2, w3⟩ := tp_line_ok tp_WF_0 hl
    rw [tp_b_r]
    dsimp only
    obtain ⟨I14, A15, c1, c2⟩ := tp_loop10 1000 e2 4096 G I11 A12 (by omega) (by omega) b2.1 b2.2 w3
    cases hm : tp_lines c n 1000 e2 G with
    | inl x =>
      rw [hm] at c2
      have N : ¬ I14 4413 = 0 := tp_F10_N c2.1
      rw [tp_b_l]
      exact ⟨I8, A9, I11, A12, I14, A15, I14, I14, a1, b1, c1, if_neg N, if_neg N, c2.2, c2.1⟩
    | inr z =>
      rw [hm] at c2
      obtain ⟨e3, H⟩ := z
      have w5 := tp_lines_ok _ _ _ _ _ w3 hm
      obtain ⟨c3, c4⟩ := c2
      dsimp only at c3 c4
      rw [tp_b_r]
      dsimp only
      unfold tp_end
      by_cases k0 : tp_kd c n e3 = 0
      · rw [if_pos k0]
        have h91 := w5.1.1
        have h16 := w5.1.2.2.2.1
        by_cases h1' : 0 < H 1
        · rw [if_pos h1']
          have h9 : H 9 ≠ 0 := fun q => by have := w5.1.2.1 q 1 (by decide) (by decide); omega
          refine ⟨I8, A9, I11, A12, I14, A15, I14, I14, a1, b1, c1, ?_, ?_, c4.1, c4.2.1, c4.2.2.1, c4.2.2.2⟩
          · rw [if_pos c4.2.1, if_pos ((tp_T10_k0 c3).mpr k0)]
          · rw [if_pos c4.2.1, tm_l_c9, Option.bind_some, c4.2.2.2 9 (by decide), if_neg (nI_ne0 (by omega) (by omega)), tm_l_c1, Option.bind_some, c4.2.2.2 1 (by decide), if_neg (nI_ne0 (by omega) (by omega))]
        · rw [if_neg h1']
          have hw : g_X10_wrong I14 (6 : Int32) (I14 4404) = tp_w10 I14 6 (tp_at c n e3) := by rw [c3.2.2.2.1]; exact tp_wr10 c4.2.1 6 _
          refine ⟨I8, A9, I11, A12, I14, A15, I14, tp_w10 I14 6 (tp_at c n e3), a1, b1, c1, ?_, ?_, tp_Z10_w c4.1 _ _, tp_wr10F _ _⟩
          · rw [if_pos c4.2.1, if_pos ((tp_T10_k0 c3).mpr k0)]
          · rw [if_pos c4.2.1, tm_l_c9, Option.bind_some, c4.2.2.2 9 (by decide), tm_l_c1, hw]
            by_cases h9 : H 9 = 0
            · rw [if_pos (by rw [h9]; rfl)]
            · rw [if_neg (nI_ne0 (by omega) (by omega)), Option.bind_some, c4.2.2.2 1 (by decide), if_pos (by rw [show H 1 = 0 by omega]; rfl)]
      · rw [if_neg k0]
        have hw : g_X10_wrong I14 (1 : Int32) (I14 4404) = tp_w10 I14 1 (tp_at c n e3) := by rw [c3.2.2.2.1]; exact tp_wr10 c4.2.1 1 _
        have N : ¬ (tp_w10 I14 1 (tp_at c n e3)) 4413 = 0 := tp_F10_N (tp_wr10F 1 _)
        refine ⟨I8, A9, I11, A12, I14, A15, tp_w10 I14 1 (tp_at c n e3), tp_w10 I14 1 (tp_at c n e3), a1, b1, c1, ?_, if_neg N, tp_Z10_w c4.1 _ _, tp_wr10F _ _⟩
        rw [if_pos c4.2.1, if_neg (fun q => k0 ((tp_T10_k0 c3).mp q)), hw]
