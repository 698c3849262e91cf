/-! MATHEMATICS, 30: boys by chance: sums over sets -/
def tm_cn (s : Nat) (j : Nat) : Nat := tm_sm (fun i => (s.testBit i).toNat) j
def tm_sv (e : Nat → Nat) (s : Nat) : Nat → Bool
  | 0 => true
  | k + 1 => tm_sv e s k && decide (e k + 2 * tm_cn s (k + 1) < 6)
def tm_wg (c s : Nat) : Nat → Nat
  | 0 => 1
  | k + 1 => tm_wg c s k * (if s.testBit k = true then c else 100 - c)
theorem tm_cn_c {s t : Nat} {k : Nat} (h : ∀ i, i < k → s.testBit i = t.testBit i) : tm_cn s k = tm_cn t k := tm_sm_cong fun i hi => by rw [h i hi]
theorem tm_sv_c {e : Nat → Nat} {s t : Nat} : ∀ {k : Nat}, (∀ i, i < k → s.testBit i = t.testBit i) → tm_sv e s k = tm_sv e t k
  | 0, _ => rfl
  | k + 1, h => by
    rw [tm_sv, tm_sv, tm_sv_c (k := k) (fun i hi => h i (by omega)), tm_cn_c h]
theorem tm_wg_c {c s t : Nat} : ∀ {k : Nat}, (∀ i, i < k → s.testBit i = t.testBit i) → tm_wg c s k = tm_wg c t k
  | 0, _ => rfl
  | k + 1, h => by
    rw [tm_wg, tm_wg, tm_wg_c (k := k) (fun i hi => h i (by omega)), h k (Nat.lt_succ_self _)]
theorem tm_sv_le {e : Nat → Nat} {s : Nat} : ∀ {k j : Nat}, j ≤ k → tm_sv e s k = true → tm_sv e s j = true
  | 0, j, hj, h => by
    have e : j = 0 := by omega
    subst e
    exact h
  | k + 1, j, hj, h => by
    by_cases g : j = k + 1
    · subst g
      exact h
    · rw [tm_sv, Bool.and_eq_true] at h
      exact tm_sv_le (k := k) (by omega) h.1
theorem tm_sm_sp (f : Nat → Nat) (a : Nat) : ∀ b, tm_sm f (a + b) = tm_sm f a + tm_sm (fun i => f (a + i)) b
  | 0 => rfl
  | b + 1 => by
    show tm_sm f (a + b) + f (a + b) = tm_sm f a + (tm_sm (fun i => f (a + i)) b + f (a + b))
    rw [tm_sm_sp f a b]
    omega
theorem tm_sm_ml (f : Nat → Nat) (a : Nat) : ∀ n, tm_sm (fun i => f i * a) n = tm_sm f n * a
  | 0 => (Nat.zero_mul a).symm
  | n + 1 => by
    show tm_sm (fun i => f i * a) n + f n * a = (tm_sm f n + f n) * a
    rw [tm_sm_ml f a n, Nat.add_mul]
theorem tm_sm_p2 (f : Nat → Nat) (j : Nat) : tm_sm f (2 ^ (j + 1)) = tm_sm f (2 ^ j) + tm_sm (fun s => f (2 ^ j + s)) (2 ^ j) := by
  rw [Nat.pow_succ, Nat.mul_two]
  exact tm_sm_sp f (2 ^ j) (2 ^ j)
theorem tm_hb1 {s j : Nat} (hs : s < 2 ^ j) : (2 ^ j + s).testBit j = true := by
  rw [Nat.testBit_two_pow_add_eq, tm_hi hs (Nat.le_refl _)]
  rfl
theorem tm_hb2 {s j i : Nat} (hi : i < j) : (2 ^ j + s).testBit i = s.testBit i := Nat.testBit_two_pow_add_gt hi s
theorem tm_wg0 {c s j : Nat} (hs : s < 2 ^ j) : tm_wg c s (j + 1) = tm_wg c s j * (100 - c) := by
  have hb : s.testBit j = false := tm_hi hs (Nat.le_refl _)
  rw [tm_wg, hb]
  rfl
theorem tm_wg1 {c s j : Nat} (hs : s < 2 ^ j) : tm_wg c (2 ^ j + s) (j + 1) = tm_wg c s j * c := by
  rw [tm_wg, tm_hb1 hs, if_pos rfl, tm_wg_c (t := s) (fun i hi => tm_hb2 hi)]
/-- so many boys came, it goes on -/
def tm_FF (e : Nat → Nat) (c i j : Nat) : Nat := tm_sm (fun s => if tm_sv e s j = true ∧ tm_cn s j = i then tm_wg c s j else 0) (2 ^ j)
theorem tm_FF_s (e : Nat → Nat) (c i j : Nat) : tm_FF e c i (j + 1) = if e j + 2 * i < 6 then tm_FF e c i j * (100 - c) + (if i = 0 then 0 else tm_FF e c (i - 1) j * c) else 0 := by
  unfold tm_FF
  rw [tm_sm_p2]
  have lo : ∀ s, s < 2 ^ j → (if tm_sv e s (j + 1) = true ∧ tm_cn s (j + 1) = i then tm_wg c s (j + 1) else 0) = (if e j + 2 * i < 6 then (if tm_sv e s j = true ∧ tm_cn s j = i then tm_wg c s j else 0) * (100 - c) else 0) := by
    intro s hs
    have hb : s.testBit j = false := tm_hi hs (Nat.le_refl _)
    have hc : tm_cn s (j + 1) = tm_cn s j := by
      show tm_cn s j + (s.testBit j).toNat = _
      rw [hb]
      rfl
    rw [tm_sv, tm_wg0 hs, hc]
    by_cases g2 : e j + 2 * i < 6
    · rw [if_pos g2]
      by_cases g1 : tm_cn s j = i
      · rw [g1, decide_eq_true g2, Bool.and_true]
        by_cases g3 : tm_sv e s j = true
        · rw [if_pos ⟨g3, rfl⟩, if_pos ⟨g3, rfl⟩]
        · rw [if_neg (fun q => g3 q.1), if_neg (fun q => g3 q.1), Nat.zero_mul]
      · rw [if_neg (fun q => g1 q.2), if_neg (fun q => g1 q.2), Nat.zero_mul]
    · rw [if_neg g2]
      by_cases g1 : tm_cn s j = i
      · rw [g1, decide_eq_false g2, Bool.and_false, if_neg (fun q => by cases q.1)]
      · rw [if_neg (fun q => g1 q.2)]
  have up : ∀ s, s < 2 ^ j → (if tm_sv e (2 ^ j + s) (j + 1) = true ∧ tm_cn (2 ^ j + s) (j + 1) = i then tm_wg c (2 ^ j + s) (j + 1) else 0) = (if e j + 2 * i < 6 then (if i = 0 then 0 else (if tm_sv e s j = true ∧ tm_cn s j = i - 1 then tm_wg c s j else 0) * c) else 0) := by
    intro s hs
    have hc : tm_cn (2 ^ j + s) (j + 1) = tm_cn s j + 1 := by
      show tm_cn (2 ^ j + s) j + ((2 ^ j + s).testBit j).toNat = _
      rw [tm_hb1 hs, tm_cn_c (t := s) (fun i hi => tm_hb2 hi)]
      rfl
    rw [tm_sv, tm_wg1 hs, hc, tm_sv_c (t := s) (fun i hi => tm_hb2 hi)]
    by_cases g2 : e j + 2 * i < 6
    · rw [if_pos g2]
      by_cases g0 : i = 0
      · rw [if_pos g0, if_neg (fun q => by have := q.2; omega)]
      · rw [if_neg g0]
        by_cases g1 : tm_cn s j = i - 1
        · have g1' : tm_cn s j + 1 = i := by omega
          rw [g1', decide_eq_true g2, Bool.and_true]
          by_cases g3 : tm_sv e s j = true
          · rw [if_pos ⟨g3, rfl⟩, if_pos ⟨g3, g1⟩]
          · rw [if_neg (fun q => g3 q.1), if_neg (fun q => g3 q.1), Nat.zero_mul]
        · rw [if_neg (fun q => g1 (by have := q.2; omega)), if_neg (fun q => g1 q.2), Nat.zero_mul]
    · rw [if_neg g2]
      by_cases g1 : tm_cn s j + 1 = i
      · rw [g1, decide_eq_false g2, Bool.and_false, if_neg (fun q => by cases q.1)]
      · rw [if_neg (fun q => g1 q.2)]
  rw [tm_sm_cong lo, tm_sm_cong up]
  have zr : ∀ n, tm_sm (fun _ => 0) n = 0 := fun n => by
    have := tm_sm_le (f := fun _ => 0) (c := 0) (n := n) (fun _ _ => Nat.le_refl _)
    omega
  by_cases g : e j + 2 * i < 6
  · simp only [if_pos g]
    rw [tm_sm_ml]
    by_cases g0 : i = 0
    · simp only [if_pos g0]
      rw [zr]
    · simp only [if_neg g0]
      rw [tm_sm_ml]
  · simp only [if_neg g]
    rw [zr]
/-- all that go on for so many minutes, by so many draws -/
def tm_GG (e : Nat → Nat) (c K m : Nat) : Nat := tm_sm (fun s => if tm_sv e s K = true then tm_wg c s m else 0) (2 ^ m)
theorem tm_GG_s {e : Nat → Nat} {c K m : Nat} (hc : c ≤ 100) (h : K ≤ m) : tm_GG e c K (m + 1) = tm_GG e c K m * 100 := by
  unfold tm_GG
  rw [tm_sm_p2]
  have lo : ∀ s, s < 2 ^ m → (if tm_sv e s K = true then tm_wg c s (m + 1) else 0) = (if tm_sv e s K = true then tm_wg c s m else 0) * (100 - c) := by
    intro s hs
    rw [tm_wg0 hs]
    split
    · rfl
    · rw [Nat.zero_mul]
  have up : ∀ s, s < 2 ^ m → (if tm_sv e (2 ^ m + s) K = true then tm_wg c (2 ^ m + s) (m + 1) else 0) = (if tm_sv e s K = true then tm_wg c s m else 0) * c := by
    intro s hs
    rw [tm_wg1 hs, tm_sv_c (t := s) (fun i hi => tm_hb2 (by omega))]
    split
    · rfl
    · rw [Nat.zero_mul]
  rw [tm_sm_cong lo, tm_sm_cong up, tm_sm_ml, tm_sm_ml, ← Nat.mul_add, Nat.sub_add_cancel hc]
theorem tm_GG_e {e : Nat → Nat} {c K : Nat} (hc : c ≤ 100) : ∀ d, tm_GG e c K (K + d) = tm_GG e c K K * 100 ^ d
  | 0 => (Nat.mul_one _).symm
  | d + 1 => by
    rw [← Nat.add_assoc, tm_GG_s hc (by omega), tm_GG_e hc d, Nat.pow_succ, Nat.mul_assoc]
theorem tm_GG_0 {e : Nat → Nat} {c : Nat} (hc : c ≤ 100) (m : Nat) : tm_GG e c 0 m = 100 ^ m := by
  have h := tm_GG_e (e := e) (K := 0) hc m
  rw [Nat.zero_add] at h
  rw [h]
  exact Nat.one_mul _
theorem tm_GG_F (e : Nat → Nat) (c K : Nat) : tm_FF e c 0 K + tm_FF e c 1 K + tm_FF e c 2 K = tm_GG e c K K := by
  unfold tm_FF tm_GG
  rw [← tm_sm_add, ← tm_sm_add]
  refine tm_sm_cong fun s _ => ?_
  by_cases g : tm_sv e s K = true
  · have hk : tm_cn s K ≤ 2 := by
      cases K with
      | zero => exact Nat.zero_le _
      | succ k =>
        rw [tm_sv, Bool.and_eq_true] at g
        have := of_decide_eq_true g.2
        omega
    rw [if_pos g]
    by_cases g0 : tm_cn s K = 0
    · rw [if_pos ⟨g, g0⟩, if_neg (fun q => by have := q.2; omega), if_neg (fun q => by have := q.2; omega)]
      rfl
    · by_cases g1 : tm_cn s K = 1
      · rw [if_neg (fun q => g0 q.2), if_pos ⟨g, g1⟩, if_neg (fun q => by have := q.2; omega)]
        omega
      · rw [if_neg (fun q => g0 q.2), if_neg (fun q => g1 q.2), if_pos ⟨g, by omega⟩]
        omega
  · rw [if_neg (fun q => g q.1), if_neg (fun q => g q.1), if_neg (fun q => g q.1), if_neg g]
