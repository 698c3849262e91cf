/-! MATHEMATICS, 1: small numbers, bits, loops, rows (tm_and, tm_or, tm_sl began as the kit's to-paste rows) -/
def tm_dn (a b : Nat) : Nat := a ^^^ (a &&& b)
theorem tm_and (a b : Nat) : nI a &&& nI b = nI (a &&& b) := by
  apply Int32.toBitVec_inj.1
  show BitVec.ofNat 32 a &&& BitVec.ofNat 32 b = BitVec.ofNat 32 (a &&& b)
  apply BitVec.eq_of_getLsbD_eq
  intro i hi
  simp [hi]
theorem tm_or (a b : Nat) : nI a ||| nI b = nI (a ||| b) := by
  apply Int32.toBitVec_inj.1
  show BitVec.ofNat 32 a ||| BitVec.ofNat 32 b = BitVec.ofNat 32 (a ||| b)
  apply BitVec.eq_of_getLsbD_eq
  intro i hi
  simp [hi]
theorem tm_sl : ∀ n, n < 32 → ((nI n &&& 31).toBitVec.smod 32).toNat = n := by decide +kernel
theorem tm_shl (a : Nat) {k : Nat} (hk : k < 32) (h : a * 2 ^ k < 2 ^ 32) : nI a <<< (nI k &&& 31) = nI (a * 2 ^ k) := pk_shlN _ k (tm_sl k hk) h
theorem tm_pw {k : Nat} (hk : k < 31) : 2 ^ k < 2 ^ 31 := Nat.pow_lt_pow_right (by decide) hk
theorem tm_shl1 {k : Nat} (hk : k < 31) : (1 : Int32) <<< (nI k &&& 31) = nI (2 ^ k) := by
  have h : 1 * 2 ^ k < 2 ^ 32 := by
    rw [Nat.one_mul]
    exact Nat.pow_lt_pow_right (by decide) (by omega)
  have e := tm_shl 1 (by omega : k < 32) h
  rw [Nat.one_mul] at e
  exact e
theorem tm_shr {a k : Nat} (ha : a < 2 ^ 31) (hk : k < 32) : nI a >>> (nI k &&& 31) = nI (a / 2 ^ k) := pk_shrN ha _ k (tm_sl k hk)
theorem tm_bit {a k : Nat} (ha : a < 2 ^ 31) (hk : k < 32) : (nI a >>> (nI k &&& 31)) &&& 1 = nI (a.testBit k).toNat := by
  rw [tm_shr ha hk]
  show nI (a / 2 ^ k) &&& nI 1 = _
  rw [tm_and, Nat.and_one_is_mod, Nat.testBit_eq_decide_div_mod_eq]
  have h : a / 2 ^ k % 2 < 2 := Nat.mod_lt _ (by decide)
  generalize a / 2 ^ k % 2 = z at h
  rcases (by omega : z = 0 ∨ z = 1) with e | e <;> subst e <;> rfl
theorem tm_z {a : Nat} (h : a < 2 ^ 32) : nI a = 0 ↔ a = 0 := by
  constructor
  · intro e
    have e2 : (nI a).toBitVec.toNat = (0 : Int32).toBitVec.toNat := by rw [e]
    rw [pk_tn h] at e2
    exact e2
  · rintro rfl
    rfl
theorem tm_tb (b : Bool) : b.toNat < 2 := by cases b <;> decide
theorem tm_b0 {a k : Nat} (ha : a < 2 ^ 31) (hk : k < 32) : ((nI a >>> (nI k &&& 31)) &&& 1 = 0) ↔ a.testBit k = false := by
  rw [tm_bit ha hk]
  cases a.testBit k <;> decide
theorem tm_b1 {a k : Nat} (ha : a < 2 ^ 31) (hk : k < 32) : ((nI a >>> (nI k &&& 31)) &&& 1 = 1) ↔ a.testBit k = true := by
  rw [tm_bit ha hk]
  cases a.testBit k <;> decide
theorem tm_m1 : ∀ i, i < 32 → (-1 : Int32).toBitVec.getLsbD i = true := by decide +kernel
theorem tm_dnI (a b : Nat) : nI a &&& (nI b ^^^ (-1 : Int32)) = nI (tm_dn a b) := by
  apply Int32.toBitVec_inj.1
  show BitVec.ofNat 32 a &&& (BitVec.ofNat 32 b ^^^ (-1 : Int32).toBitVec) = BitVec.ofNat 32 (tm_dn a b)
  apply BitVec.eq_of_getLsbD_eq
  intro i hi
  rw [BitVec.getLsbD_and, BitVec.getLsbD_xor, tm_m1 i hi, BitVec.getLsbD_ofNat, BitVec.getLsbD_ofNat, BitVec.getLsbD_ofNat]
  simp only [hi, decide_true, Bool.true_and, tm_dn, Nat.testBit_xor, Nat.testBit_and]
  cases a.testBit i <;> cases b.testBit i <;> rfl
theorem tm_dnB (a b i : Nat) : (tm_dn a b).testBit i = (a.testBit i && !b.testBit i) := by
  unfold tm_dn
  rw [Nat.testBit_xor, Nat.testBit_and]
  cases a.testBit i <;> cases b.testBit i <;> rfl
theorem tm_dn_lt {a b n : Nat} (h : a < 2 ^ n) : tm_dn a b < 2 ^ n := Nat.xor_lt_two_pow h (Nat.lt_of_le_of_lt Nat.and_le_left h)
theorem tm_dn0 {a b : Nat} : tm_dn a b = 0 ↔ ∀ i, a.testBit i = true → b.testBit i = true := by
  constructor
  · intro e i h
    have g := tm_dnB a b i
    rw [e, Nat.zero_testBit, h, Bool.true_and] at g
    cases hb : b.testBit i
    · rw [hb] at g
      cases g
    · rfl
  · intro h
    apply Nat.eq_of_testBit_eq
    intro i
    rw [tm_dnB, Nat.zero_testBit]
    cases ha : a.testBit i
    · rfl
    · rw [h i ha]
      rfl
def tm_bs (f : Nat → Bool) : Nat → Nat
  | 0 => 0
  | n + 1 => tm_bs f n ||| (if f n = true then 2 ^ n else 0)
theorem tm_bs_lt (f : Nat → Bool) : ∀ n, tm_bs f n < 2 ^ n
  | 0 => by
    rw [tm_bs]
    decide
  | n + 1 => by
    rw [tm_bs]
    have h := tm_bs_lt f n
    refine Nat.or_lt_two_pow (Nat.lt_of_lt_of_le h (Nat.pow_le_pow_right (by decide) (Nat.le_succ n))) ?_
    split
    · exact Nat.pow_lt_pow_right (by decide) (Nat.lt_succ_self n)
    · exact Nat.two_pow_pos _
theorem tm_bsB (f : Nat → Bool) : ∀ n i, (tm_bs f n).testBit i = (decide (i < n) && f i)
  | 0, i => by
    rw [tm_bs, Nat.zero_testBit]
    rfl
  | n + 1, i => by
    rw [tm_bs, Nat.testBit_or, tm_bsB f n i]
    by_cases e : i = n
    · subst e
      cases h : f i <;> simp [Nat.testBit_two_pow_self]
    · have h2 : (if f n = true then 2 ^ n else 0).testBit i = false := by
        split
        · rw [Nat.testBit_two_pow]
          exact decide_eq_false (fun q => e q.symm)
        · exact Nat.zero_testBit i
      rw [h2, Bool.or_false]
      by_cases g : i < n
      · rw [decide_eq_true g, decide_eq_true (by omega : i < n + 1)]
      · rw [decide_eq_false g, decide_eq_false (by omega : ¬ i < n + 1)]
theorem tm_bs_cong {f g : Nat → Bool} : ∀ {n : Nat}, (∀ i, i < n → f i = g i) → tm_bs f n = tm_bs g n
  | 0, _ => rfl
  | n + 1, h => by
    rw [tm_bs, tm_bs, tm_bs_cong (fun i hi => h i (by omega)), h n (by omega)]
theorem tm_hi {a n i : Nat} (h : a < 2 ^ n) (hi : n ≤ i) : a.testBit i = false :=
  Nat.testBit_lt_two_pow (Nat.lt_of_lt_of_le h (Nat.pow_le_pow_right (by decide) hi))
theorem tm_ext {a b n : Nat} (ha : a < 2 ^ n) (hb : b < 2 ^ n) (h : ∀ i, i < n → a.testBit i = b.testBit i) : a = b := by
  apply Nat.eq_of_testBit_eq
  intro i
  by_cases g : i < n
  · exact h i g
  · rw [tm_hi ha (by omega), tm_hi hb (by omega)]
theorem tm_lt_of {a n : Nat} (h : ∀ i, n ≤ i → a.testBit i = false) : a < 2 ^ n := Nat.lt_pow_two_of_testBit a h
/-- sums -/
def tm_sm (f : Nat → Nat) : Nat → Nat
  | 0 => 0
  | n + 1 => tm_sm f n + f n
theorem tm_sm_cong {f g : Nat → Nat} : ∀ {n : Nat}, (∀ i, i < n → f i = g i) → tm_sm f n = tm_sm g n
  | 0, _ => rfl
  | n + 1, h => by
    rw [tm_sm, tm_sm, tm_sm_cong (fun i hi => h i (by omega)), h n (by omega)]
theorem tm_sm_le {f : Nat → Nat} {c : Nat} : ∀ {n : Nat}, (∀ i, i < n → f i ≤ c) → tm_sm f n ≤ c * n
  | 0, _ => by
    rw [tm_sm]
    exact Nat.zero_le _
  | n + 1, h => by
    rw [tm_sm, Nat.mul_succ]
    exact Nat.add_le_add (tm_sm_le (fun i hi => h i (by omega))) (h n (by omega))
theorem tm_sm_add (f g : Nat → Nat) : ∀ n, tm_sm (fun i => f i + g i) n = tm_sm f n + tm_sm g n
  | 0 => rfl
  | n + 1 => by
    rw [tm_sm, tm_sm, tm_sm, tm_sm_add f g n]
    omega
/-- loops -/
theorem tm_lp {S R : Type} (F : Nat → Int32 → S → R) (N i0 : Nat) (st : Nat → S) (r : R) (hi0 : i0 ≤ N) (hend : ∀ n, F (n + 1) (nI N) (st N) = r) (hstep : ∀ n i, i0 ≤ i → i < N → F (n + 1) (nI i) (st i) = F n (nI (i + 1)) (st (i + 1))) {m : Nat} (hm : N - i0 < m) : F m (nI i0) (st i0) = r := by
  have h : ∀ k i m, i0 ≤ i → i + k = N → k < m → F m (nI i) (st i) = r := by
    intro k
    induction k with
    | zero =>
      intro i m _ hi hm
      obtain ⟨q, rfl⟩ : ∃ q, m = q + 1 := ⟨m - 1, by omega⟩
      have e : i = N := by omega
      subst e
      exact hend q
    | succ k ih =>
      intro i m h0 hi hm
      obtain ⟨q, rfl⟩ : ∃ q, m = q + 1 := ⟨m - 1, by omega⟩
      rw [hstep q i h0 (by omega)]
      exact ih (i + 1) q (by omega) (by omega) (by omega)
  exact h (N - i0) i0 m (Nat.le_refl _) (by omega) hm
theorem tm_lr {S R : Type} (F : Nat → Int32 → S → Option R) (N i0 : Nat) (hi0 : i0 ≤ N) (P : Nat → S → Prop) (Q : R → Prop) (hend : ∀ n s, P N s → ∃ r, F (n + 1) (nI N) s = some r ∧ Q r) (hstep : ∀ n i s, i0 ≤ i → i < N → 0 < n → P i s → (∃ r, F (n + 1) (nI i) s = some r ∧ Q r) ∨ (∃ s', P (i + 1) s' ∧ F (n + 1) (nI i) s = F n (nI (i + 1)) s')) {s : S} (h0 : P i0 s) {m : Nat} (hm : N - i0 < m) : ∃ r, F m (nI i0) s = some r ∧ Q r := by
  have h : ∀ k i m s, i0 ≤ i → i + k = N → k < m → P i s → ∃ r, F m (nI i) s = some r ∧ Q r := by
    intro k
    induction k with
    | zero =>
      intro i m s _ hi hm hp
      obtain ⟨q, rfl⟩ : ∃ q, m = q + 1 := ⟨m - 1, by omega⟩
      have e : i = N := by omega
      subst e
      exact hend q s hp
    | succ k ih =>
      intro i m s h0 hi hm hp
      obtain ⟨q, rfl⟩ : ∃ q, m = q + 1 := ⟨m - 1, by omega⟩
      rcases hstep q i s h0 (by omega) (by omega) hp with g | ⟨s', g1, g2⟩
      · exact g
      · rw [g2]
        exact ih (i + 1) q s' (by omega) (by omega) (by omega) g1
  exact h (N - i0) i0 m s (Nat.le_refl _) (by omega) hm h0
/-- rows -/
theorem tm_ld {N i : Nat} {f : Nat → Int32} (h : i < N) (hN : N < 2 ^ 31) : tw_ld N f (nI i) = some (f i) := by
  unfold tw_ld
  rw [if_neg (nI_in h hN), nI_clamp (by omega)]
theorem tm_get {N i : Nat} {f : Nat → Int32} (h : i < N) (hN : N < 2 ^ 31) : tw_get0 N f (nI i) = f i := by
  unfold tw_get0
  rw [if_neg (nI_in h hN), nI_clamp (by omega)]
theorem tm_put {N i : Nat} {f : Nat → Int32} {v : Int32} (h : i < N) (hN : N < 2 ^ 31) : tw_put0 N f (nI i) v = upd f i v := by
  unfold tw_put0
  rw [if_neg (nI_in h hN), nI_clamp (by omega)]
theorem tm_st {N i : Nat} {f : Nat → Int32} {v : Int32} (h : i < N) (hN : N < 2 ^ 31) : tw_st N f (nI i) v = some (upd f i v) := by
  unfold tw_st
  rw [if_neg (nI_in h hN), nI_clamp (by omega)]
theorem tm_us (f : Nat → Int32) (k : Nat) (x : Int32) : upd f k x k = x := if_pos rfl
theorem tm_un {f : Nat → Int32} {k j : Nat} (x : Int32) (h : j ≠ k) : upd f k x j = f j := if_neg h
theorem tm_vs {α : Type} (f : Nat → α) (k : Nat) (x : α) : va_up f k x k = x := if_pos rfl
theorem tm_vn {α : Type} {f : Nat → α} {k j : Nat} (x : α) (h : j ≠ k) : va_up f k x j = f j := if_neg h
theorem tm_x1 (a b i : Nat) : nI a + nI b * nI i = nI (a + b * i) := by rw [pk_mul, nI_add]
theorem tm_x2 (a b i c : Nat) : nI a + nI b * nI i + nI c = nI (a + b * i + c) := by rw [pk_mul, nI_add, nI_add]
theorem tm_xr (i a c : Nat) : nI i * nI a + nI c = nI (a * i + c) := by rw [pk_mul, nI_add, Nat.mul_comm]
theorem tm_ix {x : Int32} {n : Nat} (hn : n < 2 ^ 31) (h0 : ¬ x < 0) (h : ¬ nI n ≤ x) : ∃ j : Nat, j < n ∧ x = nI j := by
  rcases pk_ix x hn with g | g | g
  · exact absurd g h0
  · exact absurd g h
  · exact g
theorem tm_nle {a b : Int32} (h : a < b) : ¬ b ≤ a := by
  rw [Int32.lt_iff_toInt_lt] at h
  rw [Int32.le_iff_toInt_le]
  omega
theorem tm_nlt {a b : Int32} (h : a ≤ b) : ¬ b < a := by
  rw [Int32.le_iff_toInt_le] at h
  rw [Int32.lt_iff_toInt_lt]
  omega
theorem tm_ge6 {a : Nat} (h : a < 6) : ¬ (6 : Int32) ≤ nI a := nI_ge (b := 6) h (by decide)
theorem tm_ge8 {a : Nat} (h : a < 8) : ¬ (8 : Int32) ≤ nI a := nI_ge (b := 8) h (by decide)
theorem tm_ge9 {a : Nat} (h : a < 9) : ¬ (9 : Int32) ≤ nI a := nI_ge (b := 9) h (by decide)
theorem tm_ge4 {a : Nat} (h : a < 4) : ¬ (4 : Int32) ≤ nI a := nI_ge (b := 4) h (by decide)
theorem tm_ge60 {a : Nat} (h : a < 60) : ¬ (60 : Int32) ≤ nI a := nI_ge (b := 60) h (by decide)
theorem tm_lt6 {a : Nat} (h : a < 6) : nI a < (6 : Int32) := nI_lt (b := 6) h (by decide)
theorem tm_nlt6 {a : Nat} (h : 6 ≤ a) (ha : a < 2 ^ 31) : ¬ nI a < (6 : Int32) := nI_nlt (b := 6) h ha
theorem tm_n59 {a : Nat} (h : a < 60) : ¬ (59 : Int32) < nI a := nI_nlt (b := a) (a := 59) (by omega) (by decide)
theorem tm_le5 {a : Nat} (h : a ≤ 5) : nI a ≤ (5 : Int32) := nI_le (b := 5) h (by decide)
