/-! MATHEMATICS, 14: moor, nurse, stoppedIf, bestHire -/
def tm_mo (w : Nat → Nat → Bool) (i : Nat) (best : Int32) (e : Nat) : Prop := (best = -2 ∧ e = 60 ∧ ∀ p, p < i → ∀ f, f < 60 → w p f = false) ∨ (e < 60 ∧ ∃ p0, p0 < i ∧ best = nI (10 * e + p0) ∧ w p0 e = true ∧ (∀ p, p < i → ∀ f, f < e → w p f = false) ∧ ∀ p, p < p0 → w p e = false)
theorem tm_mo_s {w : Nat → Nat → Bool} {i : Nat} {best : Int32} {e : Nat} (h : tm_mo w i best e) : (tm_ff (w i) e < e → tm_mo w (i + 1) (nI (10 * tm_ff (w i) e + i)) (tm_ff (w i) e)) ∧ (¬ tm_ff (w i) e < e → tm_mo w (i + 1) best e) := by
  have hl := tm_ff_le (w i) e
  have he : e ≤ 60 := by
    rcases h with ⟨_, h2, _⟩ | ⟨h1, _⟩ <;> omega
  have hold : ∀ p, p < i → ∀ f, f < e → w p f = false := by
    rcases h with ⟨_, h2, h3⟩ | ⟨_, p0, _, _, _, h5, _⟩
    · intro p hp f hf
      exact h3 p hp f (by omega)
    · exact h5
  constructor
  · intro g
    refine Or.inr ⟨by omega, i, by omega, rfl, tm_ff_yes _ _ g, fun p hp f hf => ?_, fun p hp => hold p hp _ g⟩
    by_cases q : p = i
    · subst q
      exact tm_ff_no _ _ _ hf
    · exact hold p (by omega) f (by omega)
  · intro g
    have hi : ∀ f, f < e → w i f = false := fun f hf => tm_ff_no (w i) e f (by omega)
    rcases h with ⟨h1, h2, h3⟩ | ⟨h1, p0, h2, h3, h4, h5, h6⟩
    · refine Or.inl ⟨h1, h2, fun p hp f hf => ?_⟩
      by_cases q : p = i
      · subst q
        exact hi f (by omega)
      · exact h3 p (by omega) f hf
    · refine Or.inr ⟨h1, p0, by omega, h3, h4, fun p hp f hf => ?_, h6⟩
      by_cases q : p = i
      · subst q
        exact hi f hf
      · exact h5 p (by omega) f hf
theorem tm_mo9 {I : Nat → Int32} {A : Nat → Nat → Int32} {T : Nat → Nat} {B : Nat} {h W E : Nat → Nat} (hW : tm_W T) (hK : tm_K9 I A T B h W E) (hSB : tm_SB T B h W E) {q : Nat} (hq : q < T 5) : ∃ best e I1 A1, g_X3_winningMinuteAndPlace I A (nI q) = some (best, I1, A1) ∧ tm_mo (tm_wm T B h W E q) (T 1) best e ∧ tm_K9 I1 A1 T B h W E ∧ tm_f9 I A I1 A1 := by
  have h1 := tm_W_b1 hW
  have L : ∃ r, g_X3_winningMinuteAndPlace_L1 (nI q) 4096 (-2 : Int32) (60 : Int32) (nI 0) I A = some r ∧ (∃ e, tm_mo (tm_wm T B h W E q) (T 1) r.1 e ∧ tm_K9 r.2.1 r.2.2 T B h W E ∧ tm_f9 I A r.2.1 r.2.2) := by
    refine tm_lr (fun n i (s : Int32 × Int32 × (Nat → Int32) × (Nat → Nat → Int32)) => g_X3_winningMinuteAndPlace_L1 (nI q) n s.1 s.2.1 i s.2.2.1 s.2.2.2) (T 1) 0 (Nat.zero_le _) (fun i s => ∃ e, s.2.1 = nI e ∧ tm_mo (tm_wm T B h W E q) i s.1 e ∧ tm_K9 s.2.2.1 s.2.2.2 T B h W E ∧ tm_f9 I A s.2.2.1 s.2.2.2) _ ?_ ?_ (s := ((-2 : Int32), (60 : Int32), I, A)) ⟨60, rfl, Or.inl ⟨rfl, rfl, fun p hp => absurd hp (Nat.not_lt_zero p)⟩, hK, tm_f9_r I A⟩ (m := 4096) (by omega)
    · rintro n ⟨v, w, I1, A1⟩ ⟨e, a, b, c, d⟩
      dsimp only at a b c d
      refine ⟨(v, I1, A1), ?_, e, b, c, d⟩
      show g_X3_winningMinuteAndPlace_L1 (nI q) (n + 1) v w (nI (T 1)) I1 A1 = _
      rw [g_X3_winningMinuteAndPlace_L1, tm_cn1 c.1, if_pos (nI_le (Nat.le_refl _) (by omega))]
    · rintro n i ⟨v, w, I1, A1⟩ _ hi _ ⟨e, a, b, c, d⟩
      dsimp only at a b c d
      have he : e ≤ 60 := by
        rcases b with ⟨_, h2, _⟩ | ⟨h1, _⟩ <;> omega
      obtain ⟨I2, A2, e1, e2, e3⟩ := tm_wm9 hW c hSB hq hi he
      have hs := tm_mo_s b
      have hl := tm_ff_le (tm_wm T B h W E q i) e
      by_cases g : tm_ff (tm_wm T B h W E q i) e < e
      · refine Or.inr ⟨(nI (10 * tm_ff (tm_wm T B h W E q i) e + i), nI (tm_ff (tm_wm T B h W E q i) e), I2, A2), ⟨_, rfl, hs.1 g, e2, tm_f9_t d e3⟩, ?_⟩
        show g_X3_winningMinuteAndPlace_L1 (nI q) (n + 1) v w (nI i) I1 A1 = g_X3_winningMinuteAndPlace_L1 (nI q) n (nI (10 * tm_ff (tm_wm T B h W E q i) e + i)) (nI (tm_ff (tm_wm T B h W E q i) e)) (nI (i + 1)) I2 A2
        rw [g_X3_winningMinuteAndPlace_L1, tm_cn1 c.1, if_neg (nI_ge hi (by omega)), a, e1, Option.bind_some]
        dsimp only
        unfold tm_fo
        rw [if_pos g, if_neg (tm_nm2 (by omega)), Option.bind_some, show nI (tm_ff (tm_wm T B h W E q i) e) * (10 : Int32) + nI i = nI (10 * tm_ff (tm_wm T B h W E q i) e + i) from tm_xr _ 10 i, ← nI_succ]
      · refine Or.inr ⟨(v, nI e, I2, A2), ⟨e, rfl, hs.2 g, e2, tm_f9_t d e3⟩, ?_⟩
        show g_X3_winningMinuteAndPlace_L1 (nI q) (n + 1) v w (nI i) I1 A1 = g_X3_winningMinuteAndPlace_L1 (nI q) n v (nI e) (nI (i + 1)) I2 A2
        rw [g_X3_winningMinuteAndPlace_L1, tm_cn1 c.1, if_neg (nI_ge hi (by omega)), a, e1, Option.bind_some]
        dsimp only
        unfold tm_fo
        rw [if_neg g, if_pos rfl, Option.bind_some, ← nI_succ]
  obtain ⟨⟨v, I1, A1⟩, e, x, a, b⟩ := L
  dsimp only at a b
  refine ⟨v, x, I1, A1, ?_, a, b⟩
  unfold g_X3_winningMinuteAndPlace
  rw [show g_X3_winningMinuteAndPlace_L1 (nI q) 4096 (-2 : Int32) (60 : Int32) (0 : Int32) I A = _ from e, Option.bind_some]
theorem tm_mo2 {I : Nat → Int32} {A : Nat → Nat → Int32} {T : Nat → Nat} {B : Nat} {h W E : Nat → Nat} (hW : tm_W T) (hK : tm_K10 A T B h W E) (hSB : tm_SB T B h W E) {q f : Nat} (hq : q < T 5) (hf : f < 60) {K : (Nat → Int32) → Option (Int32 × (Nat → Int32) × (Nat → Nat → Int32))} {Q : Int32 × (Nat → Int32) × (Nat → Nat → Int32) → Prop} (hno : ∀ p, p < T 1 → tm_wm T B h W E q p f = false) (hKQ : ∀ J, (∀ k, k < 4425 → J k = I k) → ∃ r, K J = some r ∧ Q r) : ∃ r, g_X10_moor_L2 (nI q) A (nI f) K 4096 (0 : Int32) I = some r ∧ Q r := by
  have h1 := tm_W_b1 hW
  refine tm_lr (fun n i (s : Nat → Int32) => g_X10_moor_L2 (nI q) A (nI f) K n i s) (T 1) 0 (Nat.zero_le _) (fun i s => ∀ k, k < 4425 → s k = I k) _ ?_ ?_ (fun _ _ => rfl) (m := 4096) (by omega)
  · intro n J b
    rw [g_X10_moor_L2, tm_r_c1 hK.1, Option.bind_some, if_pos (nI_le (Nat.le_refl _) (by omega))]
    exact hKQ J b
  · intro n i J _ hi _ b
    obtain ⟨I2, e1, e2, e3⟩ := tm_rn10 (I := J) hW hK hSB hq hi hf
    refine Or.inr ⟨I2, fun k hk => (e3 k (by omega)).trans (b k hk), ?_⟩
    rw [g_X10_moor_L2, tm_r_c1 hK.1, Option.bind_some, if_neg (nI_ge hi (by omega)), e1, Option.bind_some, tm_won10 e2, if_neg (by rw [show tm_won (tm_res T B h W E q i f) = false from hno i hi]; decide), ← nI_succ]
theorem tm_mo3 {I : Nat → Int32} {A : Nat → Nat → Int32} {T : Nat → Nat} {B : Nat} {h W E : Nat → Nat} (hW : tm_W T) (hK : tm_K10 A T B h W E) (hSB : tm_SB T B h W E) {q f p0 : Nat} (hq : q < T 5) (hf : f < 60) (hp : p0 < T 1) {K : (Nat → Int32) → Option (Int32 × (Nat → Int32) × (Nat → Nat → Int32))} (hy : tm_wm T B h W E q p0 f = true) (hno : ∀ p, p < p0 → tm_wm T B h W E q p f = false) : ∃ r, g_X10_moor_L2 (nI q) A (nI f) K 4096 (0 : Int32) I = some r ∧ (r.1 = nI (10 * f + p0) ∧ r.2.2 = A ∧ ∀ k, k < 4425 → r.2.1 k = I k) := by
  have h1 := tm_W_b1 hW
  refine tm_lr (fun n i (s : Nat → Int32) => g_X10_moor_L2 (nI q) A (nI f) K n i s) p0 0 (Nat.zero_le _) (fun i s => ∀ k, k < 4425 → s k = I k) _ ?_ ?_ (fun _ _ => rfl) (m := 4096) (by omega)
  · intro n J b
    obtain ⟨I2, e1, e2, e3⟩ := tm_rn10 (I := J) hW hK hSB hq hp hf
    refine ⟨(nI (10 * f + p0), I2, A), ?_, rfl, rfl, fun k hk => (e3 k (by omega)).trans (b k hk)⟩
    rw [g_X10_moor_L2, tm_r_c1 hK.1, Option.bind_some, if_neg (nI_ge hp (by omega)), e1, Option.bind_some, tm_won10 e2]
    rw [show tm_won (tm_res T B h W E q p0 f) = true from hy, if_pos rfl, show (10 : Int32) * nI f + nI p0 = nI (10 * f + p0) by rw [show (10 : Int32) * nI f = nI (10 * f) from pk_mul 10 f, nI_add]]
  · intro n i J _ hi _ b
    obtain ⟨I2, e1, e2, e3⟩ := tm_rn10 (I := J) hW hK hSB hq (by omega : i < T 1) hf
    refine Or.inr ⟨I2, fun k hk => (e3 k (by omega)).trans (b k hk), ?_⟩
    rw [g_X10_moor_L2, tm_r_c1 hK.1, Option.bind_some, if_neg (nI_ge (by omega) (by omega)), e1, Option.bind_some, tm_won10 e2, if_neg (by rw [show tm_won (tm_res T B h W E q i f) = false from hno i hi]; decide), ← nI_succ]
theorem tm_mo10 {I : Nat → Int32} {A : Nat → Nat → Int32} {T : Nat → Nat} {B : Nat} {h W E : Nat → Nat} (hW : tm_W T) (hK : tm_K10 A T B h W E) (hSB : tm_SB T B h W E) {q e : Nat} {best : Int32} (hq : q < T 5) (hm : tm_mo (tm_wm T B h W E q) (T 1) best e) : ∃ I1, g_X10_moor_L1 (nI q) A (fun I8 => some ((-2 : Int32), I8, A)) 4096 (0 : Int32) I = some (best, I1, A) ∧ ∀ k, k < 4425 → I1 k = I k := by
  have L : ∃ r, g_X10_moor_L1 (nI q) A (fun I8 => some ((-2 : Int32), I8, A)) 4096 (nI 0) I = some r ∧ (r.1 = best ∧ r.2.2 = A ∧ ∀ k, k < 4425 → r.2.1 k = I k) := by
    have he : e ≤ 60 := by
      rcases hm with ⟨_, h2, _⟩ | ⟨h1, _⟩ <;> omega
    have hold : ∀ p, p < T 1 → ∀ f, f < e → tm_wm T B h W E q p f = false := by
      rcases hm with ⟨_, h2, h3⟩ | ⟨_, p0, _, _, _, h5, _⟩
      · intro p hp f hf
        exact h3 p hp f (by omega)
      · exact h5
    have G : ∀ k n J i, i + k = e → k < n → (∀ k, k < 4425 → J k = I k) → ∃ r, g_X10_moor_L1 (nI q) A (fun I8 => some ((-2 : Int32), I8, A)) n (nI i) J = some r ∧ (r.1 = best ∧ r.2.2 = A ∧ ∀ k, k < 4425 → r.2.1 k = I k) := by
      intro k
      induction k with
      | zero =>
        intro n J i hi hn b
        obtain ⟨n, rfl⟩ : ∃ m, n = m + 1 := ⟨n - 1, by omega⟩
        have ei : i = e := by omega
        subst ei
        rcases hm with ⟨h1, h2, h3⟩ | ⟨h1, p0, h2, h3, h4, h5, h6⟩
        · subst h2
          refine ⟨(-2, J, A), ?_, h1.symm, rfl, b⟩
          rw [g_X10_moor_L1]
          exact if_pos (by decide)
        · rw [g_X10_moor_L1, if_neg (tm_n59 h1)]
          obtain ⟨r, e1, e2, e3, e4⟩ := tm_mo3 (I := J) hW hK hSB hq h1 h2 h4 h6
          exact ⟨r, e1, by rw [e2, h3], e3, fun k hk => (e4 k hk).trans (b k hk)⟩
      | succ k ih =>
        intro n J i hi hn b
        obtain ⟨n, rfl⟩ : ∃ m, n = m + 1 := ⟨n - 1, by omega⟩
        rw [g_X10_moor_L1, if_neg (tm_n59 (by omega))]
        refine tm_mo2 hW hK hSB hq (by omega) (fun p hp => hold p hp i (by omega)) fun J2 hJ2 => ?_
        rw [← nI_succ]
        exact ih n J2 (i + 1) (by omega) (by omega) fun k hk => (hJ2 k hk).trans (b k hk)
    exact G e 4096 I 0 (by omega) (by omega) fun _ _ => rfl
  obtain ⟨⟨v, I1, A2⟩, e1, a, c, b⟩ := L
  dsimp only at a b c
  subst c
  subst a
  exact ⟨I1, e1, b⟩
theorem tm_q_moor {I : Nat → Int32} {A : Nat → Nat → Int32} (h : tm_Inv I A) (sc : Nat) (a : Int32) : ∃ x I1 A1 sc1, g_X9_moor I A sc a = some (x, I1, A1, sc1) ∧ ∃ I2 A2, g_X10_moor I1 A1 a = some (x, I2, A2) ∧ tm_Inv I2 A2 := by
  obtain ⟨⟨T, s, U, V, t, hP⟩, hT, hS⟩ := id h
  obtain ⟨hW, hR, hC, hH, hrow, hrest⟩ := id hP
  have hv : ∀ v : Int32, tm_H (upd (upd (upd I 12 v) 4400 0) 4411 0) T := fun v => tm_H_of hH ((tm_g44 0 0).trans (tm_12_44 v))
  have hSB := tm_SBt hW (fun p hp => (hrow.1 p hp).2) hrow.2.2.1
  by_cases ka : tm_ok (T 5) a
  · obtain ⟨q, hq, rfl⟩ := ka
    obtain ⟨I1, A1, e1, k1, f1, s1⟩ := tm_now9 hP hS
    obtain ⟨best, e, I2, A2, e2, hm, k2, f2⟩ := tm_mo9 hW k1 hSB hq
    have z2 := k2.2.2
    have f12 := tm_f9_t f1 f2
    obtain ⟨r1, r2, r3⟩ := tm_hand hP f12 0
    obtain ⟨A3, e3, k3, f3⟩ := tm_now10 hW r1 r2
    obtain ⟨I4, e4, f4⟩ := tm_mo10 (I := upd (upd (upd I2 12 0) 4400 0) 4411 0) hW k3 hSB hq hm
    refine ⟨best, upd I2 12 0, A2, 2, ?_, I4, A3, ?_, tm_done h f12 z2 (f4) (f3)⟩
    · unfold g_X9_moor
      dsimp only [tw_let, g_X9_grant]
      rw [tm_9Quarrel_t hC hW hq, if_pos rfl, e1, Option.bind_some]
      dsimp only
      rw [e2, Option.bind_some]
    · unfold g_X10_moor g_X10_good
      dsimp only [tw_let, g_X10_no]
      rw [tm_10Quarrel_t r1 hW r3 hq, Option.bind_some, if_pos rfl, e3, Option.bind_some]
      rw [e4]
  · refine ⟨-1, upd I 12 1, A, sc, ?_, _, A, ?_, tm_ref h (w := 1) (by decide)⟩
    · unfold g_X9_moor
      dsimp only [tw_let, g_X9_refuse]
      rw [tm_9Quarrel_f hC hW ka, if_neg (by decide)]
    · unfold g_X10_moor g_X10_good
      dsimp only [tw_let, g_X10_no]
      rw [tm_10Quarrel_f hR hW ka, Option.bind_some, if_neg (by decide)]
/-- who can be hired -/
theorem tm_ch9 {A : Nat → Nat → Int32} {T : Nat → Nat} (hC : tm_C A T) (hW : tm_W T) {p : Nat} (hp3 : p < T 3) : g_X8_canBeHired_2 A (nI p) = decide (0 < T (29 + 4 * p)) := by
  have hp : p < 6 := Nat.lt_of_lt_of_le hp3 (tm_W_b3 hW)
  have hb := tm_W_h hW p hp
  unfold g_X8_canBeHired_2
  rw [tm_get hp (by decide), tm_C_pr hC p hp3]
  unfold tm_o
  by_cases g : T (29 + 4 * p) = 0
  · rw [if_pos g, if_pos rfl, g]
    rfl
  · rw [if_neg g, if_neg (tm_nm2 (by omega)), decide_eq_true (by omega)]
theorem tm_ch10 {A : Nat → Nat → Int32} {T : Nat → Nat} (hR : tm_R A T) (hW : tm_W T) {p : Nat} (hp : p < 6) : g_X10_canHire A (nI p) = some (decide (0 < T (29 + 4 * p))) := by
  have hb := tm_W_h hW p hp
  unfold g_X10_canHire
  rw [tm_r_p3 hR hp, Option.bind_some]
  by_cases g : 0 < T (29 + 4 * p)
  · rw [if_neg (nI_nle g (by omega)), decide_eq_true g]
  · rw [show T (29 + 4 * p) = 0 by omega, if_pos (by decide)]
    rfl
def tm_hs (h : Nat → Nat) (p v : Nat) : Nat → Nat := fun j => if j = p then v else h j
theorem tm_SB_h {T : Nat → Nat} {B : Nat} {h W E : Nat → Nat} (hSB : tm_SB T B h W E) {p v : Nat} (hv : v ≤ T 1) : tm_SB T B (tm_hs h p v) W E := by
  refine ⟨hSB.1, fun j hj => ?_, hSB.2.2⟩
  unfold tm_hs
  split
  · exact hv
  · exact hSB.2.1 j hj
theorem tm_K9_s {I : Nat → Int32} {A : Nat → Nat → Int32} {T : Nat → Nat} {B : Nat} {h W E : Nat → Nat} (hK : tm_K9 I A T B h W E) (g : Nat → Nat) : tm_K9 (upd I 3602 (nI (tm_pk g))) A T B g W E := by
  obtain ⟨hC, hS, z, z1, z2⟩ := hK
  refine ⟨hC, ⟨?_, tm_us _ _ _, hS.2.2⟩, z, z1, ?_⟩
  · rw [tm_un _ (by decide)]
    exact hS.1
  · rw [tm_un _ (by decide)]
    exact z2
theorem tm_f9_u (I : Nat → Int32) (A : Nat → Nat → Int32) (x : Int32) : tm_f9 I A (upd I 3602 x) A := ⟨fun k hk => tm_un _ (by omega), fun _ _ => rfl⟩
/-- how many would be stopped, were one sent to a place -/
def tm_sw (T : Nat → Nat) (B : Nat) (h W E : Nat → Nat) (p t : Nat) : Nat := tm_bs (tm_stp T B (tm_hs h p (t + 1)) W E) (T 5)
theorem tm_sw10 {I : Nat → Int32} {A : Nat → Nat → Int32} {T s : Nat → Nat} (hW : tm_W T) (hR : tm_R A T) {x y z : Int32} (hrow : tm_row T x y z (A 49) s) {p t : Nat} (hp : p < T 3) (ht : t < T 1) : ∃ I1 A1, g_X10_stoppedWith I A (nI p) (nI t) = some (nI (tm_sw T (s 6) s (tm_Wt T) (tm_Et T) p t), I1, A1) ∧ (∀ k, k < 4425 → I1 k = I k) ∧ ∀ c, c < 52 → A1 c = A c := by
  have h3 := tm_W_b3 hW
  have hSB := tm_SBt hW (fun p hp => (hrow.1 p hp).2) hrow.2.2.1
  obtain ⟨A1, e1, k1, f1⟩ := tm_now10 hW hR hrow
  have k2 : tm_K10 (va_up A1 52 (upd (A1 52) p (nI (t + 1)))) T (s 6) (tm_hs s p (t + 1)) (tm_Wt T) (tm_Et T) := by
    refine ⟨tm_R_of k1.1 (tm_vn _ (by decide)), fun j hj => ?_, ?_, fun j hj => ?_⟩
    · rw [tm_vs]
      unfold tm_hs
      by_cases g : j = p
      · rw [if_pos g, g, tm_us]
      · rw [if_neg g, tm_un _ g]
        exact k1.2.1 j hj
    · rw [tm_vs, tm_un _ (by omega)]
      exact k1.2.2.1
    · rw [tm_vn _ (by decide), tm_vn _ (by decide)]
      exact k1.2.2.2 j hj
  obtain ⟨I2, e2, f2⟩ := tm_so10 (I := I) hW k2 (tm_SB_h hSB (by omega))
  refine ⟨I2, va_up A1 52 (upd (A1 52) p (nI (t + 1))), ?_, fun k hk => f2 k (by omega), fun c hc => by rw [tm_vn _ (by omega)]; exact f1 c hc⟩
  unfold g_X10_stoppedWith
  rw [e1, Option.bind_some, ← nI_succ, tm_st (by omega) (by decide), Option.bind_some, e2, Option.bind_some]
  rfl
theorem tm_q_stoppedIf {I : Nat → Int32} {A : Nat → Nat → Int32} (h : tm_Inv I A) (sc : Nat) (a : Int32) (b : Int32) : ∃ x I1 A1 sc1, g_X9_stoppedIf I A sc a b = some (x, I1, A1, sc1) ∧ ∃ I2 A2, g_X10_stoppedIf I1 A1 a b = some (x, I2, A2) ∧ tm_Inv I2 A2 := by
  obtain ⟨⟨T, s, U, V, t, hP⟩, hT, hS⟩ := id h
  obtain ⟨hW, hR, hC, hH, hrow, hrest⟩ := id hP
  have hv : ∀ v : Int32, tm_H (upd (upd (upd I 12 v) 4400 0) 4411 0) T := fun v => tm_H_of hH ((tm_g44 0 0).trans (tm_12_44 v))
  have hSB := tm_SBt hW (fun p hp => (hrow.1 p hp).2) hrow.2.2.1
  have h3 := tm_W_b3 hW
  have h1 := tm_W_b1 hW
  by_cases ka : tm_ok (T 3) a
  · obtain ⟨p, hp, rfl⟩ := ka
    by_cases kb : tm_ok (T 1) b
    · obtain ⟨t0, ht, rfl⟩ := kb
      by_cases kc : 0 < T (29 + 4 * p)
      · obtain ⟨I1, A1, e1, k1, f1, s1⟩ := tm_now9 hP hS
        have hI : I1 3301 = nI (tm_pk s) := by rw [f1.1 3301 (by decide)]; exact hrow.2.2.2.2.1
        obtain ⟨I2, A2, e2, k2, f2, -⟩ := tm_so9 hW (tm_K9_s k1 (tm_hs s p (t0 + 1))) (tm_SB_h hSB (by omega))
        have f12 := tm_f9_t f1 (tm_f9_t (tm_f9_u I1 A1 _) f2)
        obtain ⟨r1, r2, r3⟩ := tm_hand hP f12 0
        obtain ⟨I4, A4, e4, f4, f5⟩ := tm_sw10 (I := upd (upd (upd I2 12 0) 4400 0) 4411 0) hW r1 r2 hp ht
        refine ⟨nI (tm_sw T (s 6) s (tm_Wt T) (tm_Et T) p t0), upd I2 12 0, A2, 2, ?_, I4, A4, ?_, tm_done h f12 k2.2.2 f4 f5⟩
        · unfold g_X9_stoppedIf
          dsimp only [tw_let, g_X9_grant]
          rw [tm_9Person_t hC hW hp, if_pos rfl, tm_9Place_t hC hW ht, if_pos rfl, tm_ch9 hC hW (by omega), decide_eq_true kc, if_pos rfl, e1, Option.bind_some]
          dsimp only
          rw [hI, tm_sending (by omega) (by omega) (nI_succ t0).symm, show (fun j => if j = p then t0 + 1 else s j) = tm_hs s p (t0 + 1) from rfl, e2, Option.bind_some]
          rfl
        · unfold g_X10_stoppedIf g_X10_good
          dsimp only [tw_let, g_X10_no]
          rw [tm_10Person_t r1 hW r3 hp, Option.bind_some, if_pos rfl, tm_10Place_t r1 hW r3 ht, Option.bind_some, if_pos rfl, tm_ch10 r1 hW (by omega), Option.bind_some, decide_eq_true kc, if_pos rfl, e4, Option.bind_some]
      · refine ⟨-1, upd I 12 5, A, sc, ?_, _, A, ?_, tm_ref h (w := 5) (by decide)⟩
        · unfold g_X9_stoppedIf
          dsimp only [tw_let, g_X9_refuse]
          rw [tm_9Person_t hC hW hp, if_pos rfl, tm_9Place_t hC hW ht, if_pos rfl, tm_ch9 hC hW (by omega), decide_eq_false kc, if_neg (by decide)]
        · unfold g_X10_stoppedIf g_X10_good
          dsimp only [tw_let, g_X10_no]
          rw [tm_10Person_t hR hW (hv 5) hp, Option.bind_some, if_pos rfl, tm_10Place_t hR hW (hv 5) ht, Option.bind_some, if_pos rfl, tm_ch10 hR hW (by omega), Option.bind_some, decide_eq_false kc, if_neg (by decide)]
    · refine ⟨-1, upd I 12 1, A, sc, ?_, _, A, ?_, tm_ref h (w := 1) (by decide)⟩
      · unfold g_X9_stoppedIf
        dsimp only [tw_let, g_X9_refuse]
        rw [tm_9Person_t hC hW hp, if_pos rfl, tm_9Place_f hC hW kb, if_neg (by decide)]
      · unfold g_X10_stoppedIf g_X10_good
        dsimp only [tw_let, g_X10_no]
        rw [tm_10Person_t hR hW (hv 1) hp, Option.bind_some, if_pos rfl, tm_10Place_f hR hW kb, Option.bind_some, if_neg (by decide)]
  · refine ⟨-1, upd I 12 1, A, sc, ?_, _, A, ?_, tm_ref h (w := 1) (by decide)⟩
    · unfold g_X9_stoppedIf
      dsimp only [tw_let, g_X9_refuse]
      rw [tm_9Person_f hC hW ka, if_neg (by decide)]
    · unfold g_X10_stoppedIf g_X10_good
      dsimp only [tw_let, g_X10_no]
      rw [tm_10Person_f hR hW ka, Option.bind_some, if_neg (by decide)]
/-- the best of all sendings -/
def tm_bhi (f : Nat → Nat) (p : Nat) (b : Int32 × Nat) : Nat → Int32 × Nat
  | 0 => b
  | t + 1 => if f t ≤ (tm_bhi f p b t).2 then tm_bhi f p b t else (nI (10 * p + t), f t)
def tm_bho (f : Nat → Nat → Nat) (c : Nat → Bool) (P : Nat) (b : Int32 × Nat) : Nat → Int32 × Nat
  | 0 => b
  | p + 1 => if c p = true then tm_bhi (f p) p (tm_bho f c P b p) P else tm_bho f c P b p
theorem tm_bhi_le {f : Nat → Nat} {p m : Nat} {b : Int32 × Nat} (hf : ∀ t, f t ≤ m) (hb : b.2 ≤ m) : ∀ t, (tm_bhi f p b t).2 ≤ m
  | 0 => hb
  | t + 1 => by
    rw [tm_bhi]
    split
    · exact tm_bhi_le hf hb t
    · exact hf t
theorem tm_bho_le {f : Nat → Nat → Nat} {c : Nat → Bool} {P m : Nat} {b : Int32 × Nat} (hf : ∀ p t, f p t ≤ m) (hb : b.2 ≤ m) : ∀ p, (tm_bho f c P b p).2 ≤ m
  | 0 => hb
  | p + 1 => by
    rw [tm_bho]
    split
    · exact tm_bhi_le (hf p) (tm_bho_le hf hb p) P
    · exact tm_bho_le hf hb p
theorem tm_bs5 (f : Nat → Bool) {T : Nat → Nat} (hW : tm_W T) : tm_bs f (T 5) < 8 := Nat.lt_of_lt_of_le (tm_bs_lt f _) (Nat.pow_le_pow_right (n := 2) (by decide) (tm_W_b5 hW))
theorem tm_bh9i {I : Nat → Int32} {A : Nat → Nat → Int32} {T : Nat → Nat} {B : Nat} {h W E : Nat → Nat} {I0 : Nat → Int32} {A0 : Nat → Nat → Int32} (hW : tm_W T) (hSB : tm_SB T B h W E) (Iz : Nat → Int32) (hI : Iz 3602 = nI (tm_pk h)) {p : Nat} (hp : p < T 3) {b : Int32 × Nat} (hb : b.2 ≤ 8) (hK : ∃ g, tm_K9 I A T B g W E) (hf : tm_f9 I0 A0 I A) : ∃ I1 A1, g_X3_bestSending_L2 Iz (nI p) 4096 b.1 (nI b.2) (0 : Int32) I A = some ((if decide (0 < T (29 + 4 * p)) = true then tm_bhi (fun t => tm_pc (tm_sw T B h W E p t)) p b (T 1) else b).1, nI (if decide (0 < T (29 + 4 * p)) = true then tm_bhi (fun t => tm_pc (tm_sw T B h W E p t)) p b (T 1) else b).2, I1, A1) ∧ (∃ g, tm_K9 I1 A1 T B g W E) ∧ tm_f9 I0 A0 I1 A1 := by
  have h3 := tm_W_b3 hW
  have h1 := tm_W_b1 hW
  have hpc : ∀ t, tm_pc (tm_sw T B h W E p t) ≤ 8 := fun t => tm_pc_le _
  have L : ∃ r, g_X3_bestSending_L2 Iz (nI p) 4096 b.1 (nI b.2) (nI 0) I A = some r ∧ (r.1 = (if decide (0 < T (29 + 4 * p)) = true then tm_bhi (fun t => tm_pc (tm_sw T B h W E p t)) p b (T 1) else b).1 ∧ r.2.1 = nI (if decide (0 < T (29 + 4 * p)) = true then tm_bhi (fun t => tm_pc (tm_sw T B h W E p t)) p b (T 1) else b).2 ∧ (∃ g, tm_K9 r.2.2.1 r.2.2.2 T B g W E) ∧ tm_f9 I0 A0 r.2.2.1 r.2.2.2) := by
    refine tm_lr (fun n i (s : Int32 × Int32 × (Nat → Int32) × (Nat → Nat → Int32)) => g_X3_bestSending_L2 Iz (nI p) n s.1 s.2.1 i s.2.2.1 s.2.2.2) (T 1) 0 (Nat.zero_le _) (fun i s => s.1 = (if decide (0 < T (29 + 4 * p)) = true then tm_bhi (fun t => tm_pc (tm_sw T B h W E p t)) p b i else b).1 ∧ s.2.1 = nI (if decide (0 < T (29 + 4 * p)) = true then tm_bhi (fun t => tm_pc (tm_sw T B h W E p t)) p b i else b).2 ∧ (∃ g, tm_K9 s.2.2.1 s.2.2.2 T B g W E) ∧ tm_f9 I0 A0 s.2.2.1 s.2.2.2) _ ?_ ?_ (s := (b.1, nI b.2, I, A)) ⟨by split <;> rfl, by split <;> rfl, hK, hf⟩ (m := 4096) (by omega)
    · rintro n ⟨v, w, I1, A1⟩ ⟨a, c, ⟨g, k⟩, d⟩
      dsimp only at a c k d
      refine ⟨(v, w, I1, A1), ?_, a, c, ⟨g, k⟩, d⟩
      show g_X3_bestSending_L2 Iz (nI p) (n + 1) v w (nI (T 1)) I1 A1 = _
      rw [g_X3_bestSending_L2, tm_cn1 k.1, if_pos (nI_le (Nat.le_refl _) (by omega))]
    · rintro n i ⟨v, w, I1, A1⟩ _ hi _ ⟨a, c, ⟨g, k⟩, d⟩
      dsimp only at a c k d
      have hsd : g_X0_sending (Iz 3602) (nI p) (nI i) = nI (tm_pk (tm_hs h p (i + 1))) := by
        rw [hI]
        exact tm_sending (by omega) (by omega) (nI_succ i).symm
      have k1 := tm_K9_s k (tm_hs h p (i + 1))
      have f1 := tm_f9_t d (tm_f9_u I1 A1 (nI (tm_pk (tm_hs h p (i + 1)))))
      by_cases hc : 0 < T (29 + 4 * p)
      · rw [decide_eq_true hc, if_pos rfl] at a c
        rw [decide_eq_true hc]
        obtain ⟨I2, A2, e2, k2, f2, -⟩ := tm_so9 hW k1 (tm_SB_h hSB (by omega))
        have hl := tm_bhi_le (p := p) hpc hb i
        have hm := hpc i
        have h8 := tm_bs5 (tm_stp T B (tm_hs h p (i + 1)) W E) hW
        have hbc : g_J6_bitCount_0f7a4 (nI (tm_bs (tm_stp T B (tm_hs h p (i + 1)) W E) (T 5))) = nI (tm_pc (tm_sw T B h W E p i)) := tm_bc9 _ (by omega)
        refine Or.inr ⟨((tm_bhi (fun t => tm_pc (tm_sw T B h W E p t)) p b (i + 1)).1, nI (tm_bhi (fun t => tm_pc (tm_sw T B h W E p t)) p b (i + 1)).2, I2, A2), ⟨rfl, rfl, ⟨_, k2⟩, tm_f9_t f1 f2⟩, ?_⟩
        show g_X3_bestSending_L2 Iz (nI p) (n + 1) v w (nI i) I1 A1 = g_X3_bestSending_L2 Iz (nI p) n _ _ (nI (i + 1)) I2 A2
        rw [g_X3_bestSending_L2, tm_cn1 k.1, if_neg (nI_ge hi (by omega)), tm_ch9 k.1 hW (by omega), decide_eq_true hc, if_pos rfl, hsd, e2, Option.bind_some]
        dsimp only
        rw [Option.bind_some]
        dsimp only
        rw [hbc, c, a, tm_bhi, ← nI_succ]
        by_cases q : tm_pc (tm_sw T B h W E p i) ≤ (tm_bhi (fun t => tm_pc (tm_sw T B h W E p t)) p b i).2
        · rw [if_pos (nI_le q (by omega)), Option.bind_some, if_pos q]
        · rw [if_neg (nI_ge (by omega) (by omega)), Option.bind_some, if_neg q, show nI p * (10 : Int32) + nI i = nI (10 * p + i) from tm_xr _ 10 i]
      · rw [decide_eq_false hc, if_neg (by decide)] at a c
        rw [decide_eq_false hc]
        refine Or.inr ⟨(b.1, nI b.2, upd I1 3602 (nI (tm_pk (tm_hs h p (i + 1)))), A1), ⟨rfl, rfl, ⟨_, k1⟩, f1⟩, ?_⟩
        show g_X3_bestSending_L2 Iz (nI p) (n + 1) v w (nI i) I1 A1 = g_X3_bestSending_L2 Iz (nI p) n b.1 (nI b.2) (nI (i + 1)) _ A1
        rw [g_X3_bestSending_L2, tm_cn1 k.1, if_neg (nI_ge hi (by omega)), tm_ch9 k.1 hW (by omega), decide_eq_false hc, if_neg (by decide), hsd, Option.bind_some]
        dsimp only
        rw [c, a, if_pos (show (0 : Int32) ≤ nI b.2 from nI_le (a := 0) (Nat.zero_le _) (by omega)), Option.bind_some, ← nI_succ]
  obtain ⟨⟨v, w, I1, A1⟩, e, a, c, k, d⟩ := L
  dsimp only at a c k d
  refine ⟨I1, A1, ?_, k, d⟩
  rw [show g_X3_bestSending_L2 Iz (nI p) 4096 b.1 (nI b.2) (0 : Int32) I A = _ from e, a, c]
