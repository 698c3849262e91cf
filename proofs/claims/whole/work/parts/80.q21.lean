/-! MATHEMATICS, 31: lasts: when it goes on; the class -/
def tm_ws (Sn : Nat → Nat) (f : Nat) : Nat → Nat
  | 0 => 0
  | j + 1 => tm_ws Sn f j ||| Sn (f + j)
def tm_lgn (g : Int32) : Nat → Int32
  | 0 => 0
  | j + 1 => tm_lgn g j + g
def tm_wn (g nd : Int32) (j : Nat) : Bool := !decide (tw_abs (tm_lgn g (j + 1)) < nd)
def tm_KK (won : Nat → Bool) (N : Nat) : Nat := if tm_ff won N < N then tm_ff won N + 1 else N
theorem tm_KK_le (won : Nat → Bool) (N : Nat) : tm_KK won N ≤ N := by
  unfold tm_KK
  split <;> omega
theorem tm_KK_0 {won : Nat → Bool} {N : Nat} (h : 0 = tm_KK won N) : tm_KK won N = N := by
  unfold tm_KK at *
  split at h
  · omega
  · next g => rw [if_neg g]
theorem tm_KK_s {won : Nat → Bool} {N j : Nat} (h : j < tm_KK won N) : (won j = true ∧ j + 1 = tm_KK won N) ∨ (won j = false ∧ (j + 1 = tm_KK won N → tm_KK won N = N)) := by
  have hle := tm_ff_le won N
  unfold tm_KK at *
  by_cases g : tm_ff won N < N
  · rw [if_pos g] at h ⊢
    by_cases e : j = tm_ff won N
    · left
      rw [e]
      exact ⟨tm_ff_yes won N g, rfl⟩
    · right
      exact ⟨tm_ff_no won N j (by omega), fun q => by omega⟩
  · rw [if_neg g] at h ⊢
    exact Or.inr ⟨tm_ff_no won N j (by omega), fun _ => rfl⟩
theorem tm_good {Sn ey : Nat → Nat} {g nd : Int32} {b : Nat → Bool} {f n set : Nat} (hf : f < 60) (hn : n ≤ 6) (hb : ∀ j, j < n → b (f + j) = set.testBit j) : ∀ d j pre, j + d = tm_KK (tm_wn g nd) (min n (60 - f)) → tm_sv (fun j => ey (tm_ws Sn f (j + 1))) set j = true → (j = tm_KK (tm_wn g nd) (min n (60 - f)) → tm_KK (tm_wn g nd) (min n (60 - f)) = min n (60 - f)) → (((tm_run Sn ey g nd b (60 - f - j) (f + j) (tm_ws Sn f j) pre (tm_cn set j) (tm_lgn g j)).1 = 0 ∧ ¬ nI (f + n) ≤ (tm_run Sn ey g nd b (60 - f - j) (f + j) (tm_ws Sn f j) pre (tm_cn set j) (tm_lgn g j)).2.1) ↔ tm_sv (fun j => ey (tm_ws Sn f (j + 1))) set (tm_KK (tm_wn g nd) (min n (60 - f))) = false) := by
  intro d
  induction d with
  | zero =>
    intro j pre hj hs he
    have e := he (by omega)
    have hjN : j = min n (60 - f) := by omega
    rw [← hj, Nat.add_zero, hs]
    refine ⟨fun q => ?_, fun q => by cases q⟩
    rcases tm_run_at (Sn := Sn) (ey := ey) (g := g) (nd := nd) (b := b) (60 - f - j) (f + j) (tm_ws Sn f j) pre (tm_cn set j) (tm_lgn g j) with z | ⟨_, m, m1, m2, z⟩
    · rw [z.1] at q
      exact absurd q.1 (by decide)
    · rw [z] at q
      exact absurd (nI_le (show f + n ≤ m by omega) (by omega)) q.2
  | succ d ih =>
    intro j pre hj hs he
    have hKN := tm_KK_le (tm_wn g nd) (min n (60 - f))
    have hjK : j < tm_KK (tm_wn g nd) (min n (60 - f)) := by omega
    have hbj : b (f + j) = set.testBit j := hb j (by omega)
    obtain ⟨k, hk⟩ : ∃ k, 60 - f - j = k + 1 := ⟨60 - f - j - 1, by omega⟩
    have hcn : tm_cn set j + (set.testBit j).toNat = tm_cn set (j + 1) := rfl
    have hsw : tm_ws Sn f j ||| Sn (f + j) = tm_ws Sn f (j + 1) := rfl
    have hlg : tm_lgn g j + g = tm_lgn g (j + 1) := rfl
    rw [hk, tm_run, hbj, hcn, hsw, hlg]
    by_cases g1 : 6 ≤ ey (tm_ws Sn f (j + 1)) + 2 * tm_cn set (j + 1)
    · rw [if_pos g1]
      refine ⟨fun _ => ?_, fun _ => ⟨rfl, nI_ge (by omega) (by omega)⟩⟩
      cases e : tm_sv (fun j => ey (tm_ws Sn f (j + 1))) set (tm_KK (tm_wn g nd) (min n (60 - f)))
      · rfl
      · have h2 := tm_sv_le (j := j + 1) (by omega) e
        rw [tm_sv, Bool.and_eq_true] at h2
        have := of_decide_eq_true h2.2
        omega
    · rw [if_neg g1]
      have hs1 : tm_sv (fun j => ey (tm_ws Sn f (j + 1))) set (j + 1) = true := by
        rw [tm_sv, hs, Bool.true_and]
        exact decide_eq_true (by omega)
      rcases tm_KK_s hjK with ⟨w1, w2⟩ | ⟨w1, w2⟩
      · have w3 : ¬ tw_abs (tm_lgn g (j + 1)) < nd := by
          intro q
          unfold tm_wn at w1
          rw [decide_eq_true q] at w1
          cases w1
        rw [if_neg w3, ← w2, hs1]
        refine ⟨fun q => ?_, fun q => by cases q⟩
        have q1 := q.1
        dsimp only at q1
        split at q1
        · exact absurd q1 (by decide)
        · exact absurd q1 (by decide)
      · have w3 : tw_abs (tm_lgn g (j + 1)) < nd := by
          unfold tm_wn at w1
          rw [Bool.not_eq_false'] at w1
          exact of_decide_eq_true w1
        rw [if_pos w3]
        have h := ih (j + 1) (tm_ws Sn f j) (by omega) hs1 w2
        rw [show 60 - f - (j + 1) = k by omega] at h
        exact h
theorem tm_lo {a : Nat} {y : Nat} (hy : y < 2 ^ 31) : g_X1_leftOf (lN a) (nI y) = lN (if y < 6 then a else 0) := by
  unfold g_X1_leftOf
  by_cases g : y < 6
  · rw [if_pos (tm_lt6 g), if_pos g]
  · rw [if_neg (tm_nlt6 (by omega) hy), if_neg g]
    rfl
theorem tm_ws_lt {Sn : Nat → Nat} {f n : Nat} (h : ∀ m, Sn m < 2 ^ n) : ∀ j, tm_ws Sn f j < 2 ^ n
  | 0 => Nat.two_pow_pos _
  | j + 1 => tm_dn_or (tm_ws_lt h j) (h _)
theorem tm_FF_0 (e : Nat → Nat) (c : Nat) : tm_FF e c 0 0 = 1 ∧ tm_FF e c 1 0 = 0 ∧ tm_FF e c 2 0 = 0 := ⟨rfl, rfl, rfl⟩
/-- eyes after so many minutes -/
def tm_ee (T : Nat → Nat) (B : Nat) (h W E : Nat → Nat) (q j : Nat) : Nat := tm_ey E (tm_ws (tm_sn (tm_wt T B h (T (82 + 5 * q))) (tm_two T q)) (T (83 + 5 * q)) (j + 1)) (T 3)
def tm_Kq (T W : Nat → Nat) (q n : Nat) : Nat := tm_KK (tm_wn (tm_gain T W q) (nI (T (84 + 5 * q)))) (min n (60 - T (83 + 5 * q)))
