/-! MATHEMATICS, 17: lowest terms; swings, three -/
theorem tm_half {a r k : Nat} (hr : 0 < r) (hra : r < a) (ha : a < 2 ^ (k + 1)) : a % r < 2 ^ k := by
  have h1 := Nat.div_add_mod a r
  have h2 := Nat.mod_lt a hr
  have h3 : 0 < a / r := Nat.div_pos (Nat.le_of_lt hra) hr
  have h4 : r ≤ r * (a / r) := Nat.le_mul_of_pos_right r h3
  rw [Nat.pow_succ] at ha
  omega
theorem tm_l0 {a : Nat} (ha : a < 2 ^ 63) : lN a = 0 ↔ a = 0 := pk_lEQ (b := 0) ha (by decide)
theorem tm_lle0 {a : Nat} (ha : a < 2 ^ 63) : lg_cmp (lN a) (0 : Int64) ≤ 0 ↔ a = 0 := by
  rw [lg_cmp_le, show (0 : Int64) = lN 0 from rfl, pk_lLE ha (by decide)]
  omega
theorem tm_leq0 {a : Nat} (ha : a < 2 ^ 63) : lg_cmp (lN a) (0 : Int64) = 0 ↔ a = 0 := by
  rw [lg_cmp_eq]
  exact tm_l0 ha
theorem tm_g9s {n a b i : Nat} (h0 : 0 < a) (ha : a < 2 ^ 62) (hb : b < 2 ^ 62) (hi : i < 200) : g_X9_inLowestTerms_L1 (n + 1) (lN a) (lN b) (nI i) = g_X9_inLowestTerms_L1 n (lN (b % a)) (lN a) (nI (i + 1)) := by
  rw [g_X9_inLowestTerms_L1, if_neg (show ¬ (200 : Int32) ≤ nI i from nI_ge (b := 200) hi (by decide)), if_neg (fun q => by have := (tm_lle0 (by omega)).mp q; omega), if_neg (fun q => by have := (tm_l0 (by omega)).mp q; omega), pk_lRem (by omega) h0 (by omega), ← nI_succ]
theorem tm_g9z {n b i : Nat} (hi : i < 200) : g_X9_inLowestTerms_L1 (n + 1) (lN 0) (lN b) (nI i) = some (lN b) := by
  rw [g_X9_inLowestTerms_L1, if_neg (show ¬ (200 : Int32) ≤ nI i from nI_ge (b := 200) hi (by decide)), if_pos ((tm_lle0 (by decide)).mpr rfl)]
theorem tm_g9 : ∀ k a b i n : Nat, a < 2 ^ k → a < 2 ^ 62 → b < 2 ^ 62 → i + 2 * k + 2 ≤ 200 → 2 * k + 2 < n → g_X9_inLowestTerms_L1 n (lN a) (lN b) (nI i) = some (lN (Nat.gcd a b)) := by
  intro k
  induction k with
  | zero =>
    intro a b i n hk ha hb hi hn
    obtain ⟨n, rfl⟩ : ∃ m, n = m + 1 := ⟨n - 1, by omega⟩
    have e : a = 0 := by omega
    subst e
    rw [tm_g9z (by omega), Nat.gcd_zero_left]
  | succ k ih =>
    intro a b i n hk ha hb hi hn
    obtain ⟨n, rfl⟩ : ∃ m, n = m + 1 := ⟨n - 1, by omega⟩
    rcases Nat.eq_zero_or_pos a with e | e
    · subst e
      rw [tm_g9z (by omega), Nat.gcd_zero_left]
    · have hm := Nat.mod_lt b e
      obtain ⟨n, rfl⟩ : ∃ m, n = m + 1 := ⟨n - 1, by omega⟩
      rw [tm_g9s e ha hb (by omega), Nat.gcd_rec a b]
      rcases Nat.eq_zero_or_pos (b % a) with e2 | e2
      · rw [e2, tm_g9z (by omega), Nat.gcd_zero_left]
      · rw [tm_g9s e2 (by omega) ha (by omega), Nat.gcd_rec (b % a) a]
        exact ih _ _ _ _ (tm_half e2 hm hk) (by have := Nat.mod_lt a e2; omega) (by omega) (by omega) (by omega)
theorem tm_g10 : ∀ k a b n : Nat, a < 2 ^ k → a < 2 ^ 62 → b < 2 ^ 62 → 2 * k + 2 < n → g_X10_lowest_L1 n (lN b) (lN a) = some (lN (Nat.gcd a b)) := by
  have z : ∀ n b : Nat, g_X10_lowest_L1 (n + 1) (lN b) (lN 0) = some (lN b) := fun n b => by
    rw [g_X10_lowest_L1, if_pos ((tm_leq0 (by decide)).mpr rfl)]
  have s : ∀ n a b : Nat, 0 < a → a < 2 ^ 62 → b < 2 ^ 62 → g_X10_lowest_L1 (n + 1) (lN b) (lN a) = g_X10_lowest_L1 n (lN a) (lN (b % a)) := fun n a b h0 ha hb => by
    rw [g_X10_lowest_L1, if_neg (fun q => by have := (tm_leq0 (by omega)).mp q; omega), if_neg (fun q => by have := (tm_l0 (by omega)).mp q; omega), pk_lRem (by omega) h0 (by omega)]
  intro k
  induction k with
  | zero =>
    intro a b n hk ha hb hn
    obtain ⟨n, rfl⟩ : ∃ m, n = m + 1 := ⟨n - 1, by omega⟩
    have e : a = 0 := by omega
    subst e
    rw [z, Nat.gcd_zero_left]
  | succ k ih =>
    intro a b n hk ha hb hn
    obtain ⟨n, rfl⟩ : ∃ m, n = m + 1 := ⟨n - 1, by omega⟩
    rcases Nat.eq_zero_or_pos a with e | e
    · subst e
      rw [z, Nat.gcd_zero_left]
    · have hm := Nat.mod_lt b e
      obtain ⟨n, rfl⟩ : ∃ m, n = m + 1 := ⟨n - 1, by omega⟩
      rw [s _ _ _ e ha hb, Nat.gcd_rec a b]
      rcases Nat.eq_zero_or_pos (b % a) with e2 | e2
      · rw [e2, z, Nat.gcd_zero_left]
      · rw [s _ _ _ e2 (by omega) ha, Nat.gcd_rec (b % a) a]
        exact ih _ _ _ (tm_half e2 hm hk) (by have := Nat.mod_lt a e2; omega) (by omega) (by omega)
def tm_lw (a b : Nat) (c : Int32) : Int64 := lN ((if c = 0 then a else b) / Nat.gcd a b)
theorem tm_lt9 {a b : Nat} (ha : a < 2 ^ 62) (hb : b < 2 ^ 62) (h0 : 0 < b) (c : Int32) : g_X9_inLowestTerms (lN a) (lN b) c = some (tm_lw a b c) := by
  have hg : 0 < Nat.gcd a b := Nat.gcd_pos_of_pos_right a h0
  have hg2 : Nat.gcd a b ≤ b := Nat.le_of_dvd h0 (Nat.gcd_dvd_right a b)
  unfold g_X9_inLowestTerms
  rw [show g_X9_inLowestTerms_L1 4096 (lN a) (lN b) (0 : Int32) = _ from tm_g9 62 a b 0 4096 ha ha hb (by decide) (by decide), Option.bind_some, tm_ifs, Option.bind_some, if_neg (fun q => by have := (tm_lle0 (by omega)).mp q; omega), if_neg (fun q => by have := (tm_l0 (by omega)).mp q; omega)]
  unfold tm_lw
  split
  · rw [pk_lDiv (by omega) hg (by omega)]
  · rw [pk_lDiv (by omega) hg (by omega)]
theorem tm_lt10 {a b : Nat} (ha : a < 2 ^ 62) (hb : b < 2 ^ 62) (h0 : 0 < b) (c : Int32) : g_X10_lowest (lN a) (lN b) c = some (tm_lw a b c) := by
  have hg : 0 < Nat.gcd a b := Nat.gcd_pos_of_pos_right a h0
  have hg2 : Nat.gcd a b ≤ b := Nat.le_of_dvd h0 (Nat.gcd_dvd_right a b)
  unfold g_X10_lowest
  rw [tm_g10 62 a b 4096 ha ha hb (by decide), Option.bind_some, tm_ifs, Option.bind_some, if_neg (fun q => by have := (tm_l0 (by omega)).mp q; omega)]
  unfold tm_lw
  split
  · rw [pk_lDiv (by omega) hg (by omega)]
  · rw [pk_lDiv (by omega) hg (by omega)]
theorem tm_lw_s {a b m : Nat} (h0 : 0 < b) (hm : 0 < m) (c : Int32) : tm_lw (a * m) (b * m) c = tm_lw a b c := by
  unfold tm_lw
  rw [Nat.gcd_mul_right]
  split
  · rw [Nat.mul_div_mul_right _ _ hm]
  · rw [Nat.mul_div_mul_right _ _ hm]
theorem tm_sub_le {a b : Nat} (h : tm_dn a b = 0) : a ≤ b := by
  have e : a = a &&& b := by
    apply Nat.eq_of_testBit_eq
    intro i
    rw [Nat.testBit_and]
    cases ha : a.testBit i
    · rfl
    · rw [tm_dn0.mp h i ha]
      rfl
  rw [e]
  exact Nat.and_le_right
theorem tm_sm_ext {f : Nat → Nat} {n : Nat} : ∀ k, (∀ i, n ≤ i → i < n + k → f i = 0) → tm_sm f (n + k) = tm_sm f n
  | 0, _ => rfl
  | k + 1, h => by
    show tm_sm f (n + k) + f (n + k) = _
    rw [tm_sm_ext k (fun i h1 h2 => h i h1 (by omega)), h (n + k) (by omega) (by omega)]
    rfl
theorem tm_sm_to {f : Nat → Nat} {n m : Nat} (hnm : n ≤ m) (h : ∀ i, n ≤ i → i < m → f i = 0) : tm_sm f m = tm_sm f n := by
  obtain ⟨k, rfl⟩ : ∃ k, m = n + k := ⟨m - n, by omega⟩
  exact tm_sm_ext k h
/-- how many sets turn it -/
def tm_tn (E : Nat → Nat) (n o his set : Nat) : Nat := if tm_dn set o = 0 ∧ tm_ey E set n < 6 ∧ 6 ≤ tm_ey E set n + his then 1 else 0
theorem tm_su9 : ∀ n, n < 7 → ∀ o, o < 2 ^ n → tm_sm (fun set => if tm_dn set o = 0 then 1 else 0) (2 ^ n) = 2 ^ tm_pc o := by decide +kernel
theorem tm_shL : ∀ k, k < 9 → (1 : Int64) <<< ((nI k).toInt64 &&& 63) = lN (2 ^ k) := by decide +kernel
theorem tm_tn_le (E : Nat → Nat) (n o his : Nat) : ∀ k, tm_sm (tm_tn E n o his) k ≤ k := fun k => by
  have := tm_sm_le (f := tm_tn E n o his) (c := 1) (n := k) (fun i _ => by unfold tm_tn; split <;> omega)
  omega
theorem tm_sws9 {A : Nat → Nat → Int32} {T E : Nat → Nat} (hW : tm_W T) (hE : ∀ p, p < T 3 → A 38 p = nI (E p)) (hE2 : ∀ p, p < T 3 → E p ≤ 2) {p who his : Nat} (hp : p < T 3) (hw : who < 2 ^ T 3) (hh : his ≤ 2) : g_X9_swings_L1 (nI p) A (nI who) (nI his) 4096 (0 : Int32) (0 : Int32) = some (nI (tm_sm (tm_tn E (T 3) (tm_dn who (2 ^ p)) his) (2 ^ T 3))) := by
  have h3 := tm_W_b3 hW
  have h26 : (2 : Nat) ^ T 3 ≤ 64 := Nat.pow_le_pow_right (n := 2) (by decide) h3
  have ho : tm_dn who (2 ^ p) < 2 ^ T 3 := tm_dn_lt hw
  have hX : (nI who &&& (((1 : Int32) <<< (nI p &&& 31)) ^^^ (-1 : Int32))) = nI (tm_dn who (2 ^ p)) := by
    rw [tm_shl1 (by omega), tm_dnI]
  rw [tm_sm_to (n := tm_dn who (2 ^ p) + 1) (by omega) (fun i h1 _ => by
    unfold tm_tn
    rw [if_neg]
    rintro ⟨g, -⟩
    have := tm_sub_le g
    omega)]
  refine tm_lp (fun n i (v : Int32) => g_X9_swings_L1 (nI p) A (nI who) (nI his) n v i) (tm_dn who (2 ^ p) + 1) 0 (fun i => nI (tm_sm (tm_tn E (T 3) (tm_dn who (2 ^ p)) his) i)) _ (Nat.zero_le _) ?_ ?_ (m := 4096) (by omega)
  · intro n
    show g_X9_swings_L1 (nI p) A (nI who) (nI his) (n + 1) _ (nI (tm_dn who (2 ^ p) + 1)) = _
    rw [g_X9_swings_L1, hX, if_pos (nI_lt (by omega) (by omega))]
  · intro n i _ hi
    have hil : i < 2 ^ T 3 := by omega
    have hey := tm_ey_le i hE2
    have hc := tm_tn_le E (T 3) (tm_dn who (2 ^ p)) his i
    show g_X9_swings_L1 (nI p) A (nI who) (nI his) (n + 1) (nI (tm_sm (tm_tn E (T 3) (tm_dn who (2 ^ p)) his) i)) (nI i) = g_X9_swings_L1 (nI p) A (nI who) (nI his) n (nI (tm_sm (tm_tn E (T 3) (tm_dn who (2 ^ p)) his) i + tm_tn E (T 3) (tm_dn who (2 ^ p)) his i)) (nI (i + 1))
    rw [g_X9_swings_L1, hX, if_neg (nI_nlt (by omega) (by omega)), tm_eye9 hW hE hil, Option.bind_some, tm_dnI, nI_add, ← nI_succ i]
    have hd : tm_dn i (tm_dn who (2 ^ p)) < 2 ^ T 3 := tm_dn_lt hil
    unfold tm_tn
    by_cases g : tm_dn i (tm_dn who (2 ^ p)) = 0
    · rw [if_pos ((tm_z (by omega)).mpr g)]
      by_cases g2 : 6 ≤ tm_ey E i (T 3)
      · rw [if_pos (show (6 : Int32) ≤ nI (tm_ey E i (T 3)) from nI_le (a := 6) g2 (by omega)), Option.bind_some, if_neg (by omega)]
        rfl
      · rw [if_neg (tm_ge6 (by omega))]
        by_cases g3 : tm_ey E i (T 3) + his < 6
        · rw [if_pos (tm_lt6 g3), Option.bind_some, if_neg (by omega)]
          rfl
        · rw [if_neg (tm_nlt6 (by omega) (by omega)), Option.bind_some, if_pos ⟨g, by omega, by omega⟩, ← nI_succ]
    · rw [if_neg (fun q => g ((tm_z (by omega)).mp q)), Option.bind_some, if_neg (fun q => g q.1)]
      rfl
theorem tm_sws10 {A : Nat → Nat → Int32} {T E : Nat → Nat} (hW : tm_W T) (hR : tm_R A T) (hE : ∀ p, p < T 3 → A 54 p = nI (E p)) (hE2 : ∀ p, p < T 3 → E p ≤ 2) {p who : Nat} (hp : p < T 3) (hw : who < 2 ^ T 3) : g_X10_swings_L1 (nI p) A (nI who) 4096 (0 : Int32) (0 : Int32) (0 : Int32) = some (nI (2 ^ tm_pc (tm_dn who (2 ^ p))), nI (tm_sm (tm_tn E (T 3) (tm_dn who (2 ^ p)) (E p)) (2 ^ T 3))) := by
  have h3 := tm_W_b3 hW
  have h26 : (2 : Nat) ^ T 3 ≤ 64 := Nat.pow_le_pow_right (n := 2) (by decide) h3
  have ho : tm_dn who (2 ^ p) < 2 ^ T 3 := tm_dn_lt hw
  have hX : (nI who &&& (((1 : Int32) <<< (nI p &&& 31)) ^^^ (-1 : Int32))) = nI (tm_dn who (2 ^ p)) := by
    rw [tm_shl1 (by omega), tm_dnI]
  rw [← tm_su9 (T 3) (by omega) _ ho]
  refine tm_lp (fun n i (v : Int32 × Int32) => g_X10_swings_L1 (nI p) A (nI who) n v.1 v.2 i) (2 ^ T 3) 0 (fun i => (nI (tm_sm (fun set => if tm_dn set (tm_dn who (2 ^ p)) = 0 then 1 else 0) i), nI (tm_sm (tm_tn E (T 3) (tm_dn who (2 ^ p)) (E p)) i))) _ (Nat.zero_le _) ?_ ?_ (m := 4096) (by omega)
  · intro n
    show g_X10_swings_L1 (nI p) A (nI who) (n + 1) _ _ (nI (2 ^ T 3)) = _
    rw [g_X10_swings_L1, tm_r_c3 hR, Option.bind_some, tm_shl1 (by omega), if_pos (nI_le (Nat.le_refl _) (by omega))]
  · intro n i _ hi
    have hey := tm_ey_le i hE2
    have hEp := hE2 p hp
    show g_X10_swings_L1 (nI p) A (nI who) (n + 1) (nI (tm_sm (fun set => if tm_dn set (tm_dn who (2 ^ p)) = 0 then 1 else 0) i)) (nI (tm_sm (tm_tn E (T 3) (tm_dn who (2 ^ p)) (E p)) i)) (nI i) = g_X10_swings_L1 (nI p) A (nI who) n (nI (tm_sm (fun set => if tm_dn set (tm_dn who (2 ^ p)) = 0 then 1 else 0) i + (if tm_dn i (tm_dn who (2 ^ p)) = 0 then 1 else 0))) (nI (tm_sm (tm_tn E (T 3) (tm_dn who (2 ^ p)) (E p)) i + tm_tn E (T 3) (tm_dn who (2 ^ p)) (E p) i)) (nI (i + 1))
    have hd : tm_dn i (tm_dn who (2 ^ p)) < 2 ^ T 3 := tm_dn_lt hi
    rw [g_X10_swings_L1, tm_r_c3 hR, Option.bind_some, tm_shl1 (k := T 3) (by omega), if_neg (nI_ge hi (by omega)), hX, tm_dnI, ← nI_succ i]
    unfold tm_tn
    by_cases g : tm_dn i (tm_dn who (2 ^ p)) = 0
    · rw [if_pos ((tm_z (by omega)).mpr g), tm_eye10 hR hW hE (by omega), Option.bind_some, if_pos g]
      by_cases g2 : 6 ≤ tm_ey E i (T 3)
      · rw [if_pos (show (6 : Int32) ≤ nI (tm_ey E i (T 3)) from nI_le (a := 6) g2 (by omega)), Option.bind_some, Option.bind_some, if_neg (by omega), show (0 : Int32) = nI 0 from rfl, nI_add, ← nI_succ]
      · rw [if_neg (tm_ge6 (by omega)), Option.bind_some, tm_ld (by omega) (by decide), Option.bind_some, hE p hp, nI_add]
        by_cases g3 : tm_ey E i (T 3) + E p < 6
        · rw [if_pos (tm_lt6 g3), Option.bind_some, Option.bind_some, if_neg (by omega), show (0 : Int32) = nI 0 from rfl, nI_add, ← nI_succ]
        · rw [if_neg (tm_nlt6 (by omega) (by omega)), Option.bind_some, Option.bind_some, if_pos ⟨g, by omega, by omega⟩, ← nI_succ, ← nI_succ]
    · rw [if_neg (fun q => g ((tm_z (by omega)).mp q)), Option.bind_some, if_neg g, if_neg (fun q => g q.1)]
      rfl
