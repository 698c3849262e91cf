/-! MATHEMATICS, 3: scenes: who is where, who sees what, in both -/
theorem tm_copy {N1 N2 a d n : Nat} {f g : Nat → Int32} (h1 : a + n ≤ N1) (h2 : d + n ≤ N2) (b1 : N1 < 2 ^ 31) (b2 : N2 < 2 ^ 31) (hn : n < 4096) : tw_copy0 N1 f N2 g (nI a) (nI d) (nI n) = some (fun j => if d ≤ j ∧ j < d + n then f (a + (j - d)) else g j) := by
  unfold tw_copy0
  have e := tm_lp (fun m k s => tw_copyL N1 f N2 (nI a) (nI d) (nI n) m k s) n 0 (fun i j => if d ≤ j ∧ j < d + i then f (a + (j - d)) else g j) (some (fun j => if d ≤ j ∧ j < d + n then f (a + (j - d)) else g j)) (Nat.zero_le _) ?_ ?_ (m := 4096) (by omega)
  rotate_left
  · intro m
    rw [tw_copyL, if_pos (nI_le (Nat.le_refl _) (by omega))]
  · intro m i _ hi
    rw [tw_copyL, if_neg (nI_ge hi (by omega)), nI_add, nI_add, tm_ld (by omega) b1, Option.bind_some, tm_st (by omega) b2, Option.bind_some, nI_succ]
    congr 1
    funext j
    by_cases e : j = d + i
    · subst e
      rw [tm_us, if_pos ⟨by omega, by omega⟩]
      congr 1
      omega
    · rw [tm_un _ e]
      by_cases e2 : d ≤ j ∧ j < d + i
      · rw [if_pos e2, if_pos ⟨e2.1, by omega⟩]
      · rw [if_neg e2, if_neg (by omega)]
  · have e0 : (fun j => if d ≤ j ∧ j < d + 0 then f (a + (j - d)) else g j) = g := by
      funext j
      rw [if_neg (by omega)]
    rw [← e]
    show tw_copyL N1 f N2 (nI a) (nI d) (nI n) 4096 0 g = tw_copyL N1 f N2 (nI a) (nI d) (nI n) 4096 (nI 0) _
    rw [e0]
    rfl
/-- a number that names one of so many -/
def tm_ok (c : Nat) (x : Int32) : Prop := ∃ p, p < c ∧ x = nI p
theorem tm_in_t {c p : Nat} (hc : c < 2 ^ 30) (h : p < c) : g_X10_in (nI p) (0 : Int32) (nI c - 1) = true := by
  unfold g_X10_in
  rw [if_neg (nI_pos (by omega))]
  have e : nI c - 1 = nI (c - 1) := pk_sub (a := c) (b := 1) (by omega)
  rw [e, if_neg (nI_nlt (by omega) (by omega))]
theorem tm_in_f {c : Nat} {x : Int32} (hc : c < 2 ^ 30) (h : ¬ tm_ok c x) : g_X10_in x (0 : Int32) (nI c - 1) = false := by
  unfold g_X10_in
  by_cases h0 : x < 0
  · rw [if_pos h0]
  · obtain ⟨j, hj, rfl⟩ := nI_of h0
    have hcj : c ≤ j := Nat.le_of_not_lt fun q => h ⟨j, q, rfl⟩
    rw [if_neg h0, if_pos]
    rw [Int32.lt_iff_toInt_lt, nI_toInt hj, show nI c - 1 = nI c - nI 1 from rfl, pk_sub_toInt hc (by decide)]
    omega
theorem tm_ok_f {c : Nat} {x : Int32} (hc : c < 2 ^ 31) (h : ¬ tm_ok c x) (h0 : ¬ x < 0) : nI c ≤ x := by
  rcases pk_ix x hc with g | g | g
  · exact absurd g h0
  · exact g
  · exact absurd g h
theorem tm_W_0 {T : Nat → Nat} (hW : tm_W T) (h : T 1 = 0) : T 2 = 0 ∧ T 3 = 0 ∧ T 5 = 0 := by
  refine ⟨?_, ?_, ?_⟩
  · rcases Nat.eq_zero_or_pos (T 2) with g | g
    · exact g
    · have := (tm_W_s hW 0 g).1
      omega
  · rcases Nat.eq_zero_or_pos (T 3) with g | g
    · exact g
    · have := (tm_W_p hW 0 g).2.1
      omega
  · rcases Nat.eq_zero_or_pos (T 5) with g | g
    · exact g
    · have := (tm_W_q hW 0 g).2.2.1
      omega
def tm_H (I : Nat → Int32) (T : Nat → Nat) : Prop := I 4414 = if T 1 = 0 then (0 : Int32) else 1
theorem tm_9Place_t {A : Nat → Nat → Int32} {T : Nat → Nat} (hC : tm_C A T) (hW : tm_W T) {p : Nat} (h : p < T 1) : g_X9_isPlace A (nI p) = true := by
  have hb := tm_W_b1 hW
  unfold g_X9_isPlace
  rw [if_neg (nI_pos (by omega)), tm_cn1 hC, if_neg (nI_ge h (by omega))]
theorem tm_9Place_f {A : Nat → Nat → Int32} {T : Nat → Nat} (hC : tm_C A T) (hW : tm_W T) {x : Int32} (h : ¬ tm_ok (T 1) x) : g_X9_isPlace A x = false := by
  have hb := tm_W_b1 hW
  unfold g_X9_isPlace
  by_cases h0 : x < 0
  · rw [if_pos h0]
  · rw [if_neg h0, tm_cn1 hC, if_pos (tm_ok_f (by omega) h h0)]
theorem tm_10Place_t {I : Nat → Int32} {A : Nat → Nat → Int32} {T : Nat → Nat} (hT : tm_R A T) (hW : tm_W T) (hH : tm_H I T) {p : Nat} (h : p < T 1) : g_X10_isPlace I A (nI p) = some true := by
  have hb := tm_W_b1 hW
  have h1 : ¬ T 1 = 0 := fun e => by
    have := tm_W_0 hW e
    omega
  unfold g_X10_isPlace
  rw [hH, if_neg h1, if_neg (by decide), tm_r_c1 hT, Option.bind_some, tm_in_t (by omega) h, if_pos rfl]
theorem tm_10Place_f {I : Nat → Int32} {A : Nat → Nat → Int32} {T : Nat → Nat} (hT : tm_R A T) (hW : tm_W T) {x : Int32} (h : ¬ tm_ok (T 1) x) : g_X10_isPlace I A x = some false := by
  have hb := tm_W_b1 hW
  unfold g_X10_isPlace
  split
  · rfl
  · rw [tm_r_c1 hT, Option.bind_some, tm_in_f (by omega) h, if_neg (by decide)]
theorem tm_9Sight_t {A : Nat → Nat → Int32} {T : Nat → Nat} (hC : tm_C A T) (hW : tm_W T) {p : Nat} (h : p < T 2) : g_X9_isSight A (nI p) = true := by
  have hb := tm_W_b2 hW
  unfold g_X9_isSight
  rw [if_neg (nI_pos (by omega)), tm_cn2 hC, if_neg (nI_ge h (by omega))]
theorem tm_9Sight_f {A : Nat → Nat → Int32} {T : Nat → Nat} (hC : tm_C A T) (hW : tm_W T) {x : Int32} (h : ¬ tm_ok (T 2) x) : g_X9_isSight A x = false := by
  have hb := tm_W_b2 hW
  unfold g_X9_isSight
  by_cases h0 : x < 0
  · rw [if_pos h0]
  · rw [if_neg h0, tm_cn2 hC, if_pos (tm_ok_f (by omega) h h0)]
theorem tm_10Sight_t {I : Nat → Int32} {A : Nat → Nat → Int32} {T : Nat → Nat} (hT : tm_R A T) (hW : tm_W T) (hH : tm_H I T) {p : Nat} (h : p < T 2) : g_X10_isSight I A (nI p) = some true := by
  have hb := tm_W_b2 hW
  have h1 : ¬ T 1 = 0 := fun e => by
    have := tm_W_0 hW e
    omega
  unfold g_X10_isSight
  rw [hH, if_neg h1, if_neg (by decide), tm_r_c2 hT, Option.bind_some, tm_in_t (by omega) h, if_pos rfl]
theorem tm_10Sight_f {I : Nat → Int32} {A : Nat → Nat → Int32} {T : Nat → Nat} (hT : tm_R A T) (hW : tm_W T) {x : Int32} (h : ¬ tm_ok (T 2) x) : g_X10_isSight I A x = some false := by
  have hb := tm_W_b2 hW
  unfold g_X10_isSight
  split
  · rfl
  · rw [tm_r_c2 hT, Option.bind_some, tm_in_f (by omega) h, if_neg (by decide)]
theorem tm_9Person_t {A : Nat → Nat → Int32} {T : Nat → Nat} (hC : tm_C A T) (hW : tm_W T) {p : Nat} (h : p < T 3) : g_X9_isPerson A (nI p) = true := by
  have hb := tm_W_b3 hW
  unfold g_X9_isPerson
  rw [if_neg (nI_pos (by omega)), tm_cn3 hC, if_neg (nI_ge h (by omega))]
theorem tm_9Person_f {A : Nat → Nat → Int32} {T : Nat → Nat} (hC : tm_C A T) (hW : tm_W T) {x : Int32} (h : ¬ tm_ok (T 3) x) : g_X9_isPerson A x = false := by
  have hb := tm_W_b3 hW
  unfold g_X9_isPerson
  by_cases h0 : x < 0
  · rw [if_pos h0]
  · rw [if_neg h0, tm_cn3 hC, if_pos (tm_ok_f (by omega) h h0)]
theorem tm_10Person_t {I : Nat → Int32} {A : Nat → Nat → Int32} {T : Nat → Nat} (hT : tm_R A T) (hW : tm_W T) (hH : tm_H I T) {p : Nat} (h : p < T 3) : g_X10_isPerson I A (nI p) = some true := by
  have hb := tm_W_b3 hW
  have h1 : ¬ T 1 = 0 := fun e => by
    have := tm_W_0 hW e
    omega
  unfold g_X10_isPerson
  rw [hH, if_neg h1, if_neg (by decide), tm_r_c3 hT, Option.bind_some, tm_in_t (by omega) h, if_pos rfl]
theorem tm_10Person_f {I : Nat → Int32} {A : Nat → Nat → Int32} {T : Nat → Nat} (hT : tm_R A T) (hW : tm_W T) {x : Int32} (h : ¬ tm_ok (T 3) x) : g_X10_isPerson I A x = some false := by
  have hb := tm_W_b3 hW
  unfold g_X10_isPerson
  split
  · rfl
  · rw [tm_r_c3 hT, Option.bind_some, tm_in_f (by omega) h, if_neg (by decide)]
theorem tm_9Quarrel_t {A : Nat → Nat → Int32} {T : Nat → Nat} (hC : tm_C A T) (hW : tm_W T) {p : Nat} (h : p < T 5) : g_X9_isQuarrel A (nI p) = true := by
  have hb := tm_W_b5 hW
  unfold g_X9_isQuarrel
  rw [if_neg (nI_pos (by omega)), tm_cn5 hC, if_neg (nI_ge h (by omega))]
theorem tm_9Quarrel_f {A : Nat → Nat → Int32} {T : Nat → Nat} (hC : tm_C A T) (hW : tm_W T) {x : Int32} (h : ¬ tm_ok (T 5) x) : g_X9_isQuarrel A x = false := by
  have hb := tm_W_b5 hW
  unfold g_X9_isQuarrel
  by_cases h0 : x < 0
  · rw [if_pos h0]
  · rw [if_neg h0, tm_cn5 hC, if_pos (tm_ok_f (by omega) h h0)]
theorem tm_10Quarrel_t {I : Nat → Int32} {A : Nat → Nat → Int32} {T : Nat → Nat} (hT : tm_R A T) (hW : tm_W T) (hH : tm_H I T) {p : Nat} (h : p < T 5) : g_X10_isQuarrel I A (nI p) = some true := by
  have hb := tm_W_b5 hW
  have h1 : ¬ T 1 = 0 := fun e => by
    have := tm_W_0 hW e
    omega
  unfold g_X10_isQuarrel
  rw [hH, if_neg h1, if_neg (by decide), tm_r_c5 hT, Option.bind_some, tm_in_t (by omega) h, if_pos rfl]
theorem tm_10Quarrel_f {I : Nat → Int32} {A : Nat → Nat → Int32} {T : Nat → Nat} (hT : tm_R A T) (hW : tm_W T) {x : Int32} (h : ¬ tm_ok (T 5) x) : g_X10_isQuarrel I A x = some false := by
  have hb := tm_W_b5 hW
  unfold g_X10_isQuarrel
  split
  · rfl
  · rw [tm_r_c5 hT, Option.bind_some, tm_in_f (by omega) h, if_neg (by decide)]
theorem tm_9min_t {m : Nat} (h : m < 60) : g_X9_isMinute (nI m) = true := by
  unfold g_X9_isMinute
  rw [if_neg (nI_pos (by omega)), if_neg (tm_ge60 h)]
theorem tm_9min_f {x : Int32} (h : ¬ tm_ok 60 x) : g_X9_isMinute x = false := by
  unfold g_X9_isMinute
  by_cases h0 : x < 0
  · rw [if_pos h0]
  · rw [if_neg h0]
    exact if_pos (tm_ok_f (c := 60) (by decide) h h0)
theorem tm_10min_t {m : Nat} (h : m < 60) : g_X10_isMinute (nI m) = true := tm_in_t (c := 60) (by decide) h
theorem tm_10min_f {x : Int32} (h : ¬ tm_ok 60 x) : g_X10_isMinute x = false := tm_in_f (c := 60) (by decide) h
theorem tm_town_t {A : Nat → Nat → Int32} {T : Nat → Nat} (hC : tm_C A T) (hW : tm_W T) (h : ¬ T 1 = 0) : g_X9_hasTown A = true := by
  have hb := tm_W_b1 hW
  unfold g_X9_hasTown
  rw [tm_cn1 hC, if_neg (nI_nle (by omega) (by omega))]
theorem tm_town_f {A : Nat → Nat → Int32} {T : Nat → Nat} (hC : tm_C A T) (h : T 1 = 0) : g_X9_hasTown A = false := by
  unfold g_X9_hasTown
  rw [tm_cn1 hC, h]
  rfl
/-- where people are -/
def tm_pl (T : Nat → Nat) (h : Nat → Nat) (p m : Nat) : Nat := if h p = 0 then tm_sp T p m else h p - 1
def tm_see (T : Nat → Nat) (B s t : Nat) : Nat → Bool
  | 0 => decide (s = t)
  | k + 1 => tm_see T B s t k || (decide (T (10 + 2 * k) = s) && decide (T (11 + 2 * k) = t) && !B.testBit k)
def tm_wt (T : Nat → Nat) (B : Nat) (h : Nat → Nat) (t m : Nat) : Nat := tm_bs (fun p => tm_see T B (tm_pl T h p m) t (T 2)) (T 3)
def tm_ey (E : Nat → Nat) (S n : Nat) : Nat := tm_sm (fun p => if S.testBit p = true then E p else 0) n
def tm_pk (h : Nat → Nat) : Nat := tm_bs (fun i => (h (i / 3)).testBit (i % 3)) 18
def tm_kd (k : Nat) : Nat := if k = 2 then 0 else if k = 3 then 1 else 2
def tm_CS (I : Nat → Int32) (A : Nat → Nat → Int32) (T : Nat → Nat) (B : Nat) (h W E : Nat → Nat) : Prop := I 3601 = nI B ∧ I 3602 = nI (tm_pk h) ∧ ∀ p, p < T 3 → A 37 p = nI (W p) ∧ A 38 p = nI (E p)
def tm_MS (A : Nat → Nat → Int32) (T : Nat → Nat) (B : Nat) (h W E : Nat → Nat) : Prop := (∀ p, p < 6 → A 52 p = nI (h p)) ∧ A 52 6 = nI B ∧ ∀ p, p < T 3 → A 53 p = nI (W p) ∧ A 54 p = nI (E p)
def tm_SB (T : Nat → Nat) (B : Nat) (h W E : Nat → Nat) : Prop := B < 256 ∧ (∀ p, p < 6 → h p ≤ T 1) ∧ ∀ p, p < T 3 → W p ≤ 9 ∧ E p ≤ 2
theorem tm_spk_lt {T : Nat → Nat} (hW : tm_W T) {p m : Nat} (h : p < T 3) : ∀ k, k ≤ T 4 → tm_spk T p m k < T 1
  | 0, _ => (tm_W_p hW p h).2.1
  | k + 1, hk => by
    rw [tm_spk]
    split
    · exact (tm_W_g hW k hk).2.1
    · exact tm_spk_lt hW h k (by omega)
theorem tm_pl_lt {T : Nat → Nat} (hW : tm_W T) {h : Nat → Nat} (hh : ∀ p, p < 6 → h p ≤ T 1) {p m : Nat} (hp : p < T 3) : tm_pl T h p m < T 1 := by
  unfold tm_pl
  have h3 := tm_W_b3 hW
  split
  · exact tm_spk_lt hW hp _ (Nat.le_refl _)
  · have := hh p (by omega)
    omega
theorem tm_7 : ∀ i, (7 : Nat).testBit i = decide (i < 3) := by
  intro i
  by_cases h : i < 3
  · rcases (by omega : i = 0 ∨ i = 1 ∨ i = 2) with e | e | e <;> subst e <;> decide
  · rw [decide_eq_false h]
    exact tm_hi (n := 3) (by decide) (by omega)
theorem tm_pkB (h : Nat → Nat) (i : Nat) : (tm_pk h).testBit i = (decide (i < 18) && (h (i / 3)).testBit (i % 3)) := tm_bsB _ 18 i
theorem tm_pk_lt (h : Nat → Nat) : tm_pk h < 2 ^ 18 := tm_bs_lt _ 18
theorem tm_pk_at {h : Nat → Nat} {p : Nat} (hp : p < 6) (hh : h p < 8) : tm_pk h / 2 ^ (3 * p) &&& 7 = h p := by
  apply tm_ext (n := 3) (Nat.lt_of_le_of_lt Nat.and_le_right (by decide)) hh
  intro i hi
  rw [Nat.testBit_and, Nat.testBit_div_two_pow, tm_7, tm_pkB]
  have e1 : (i + 3 * p) / 3 = p := by omega
  have e2 : (i + 3 * p) % 3 = i := by omega
  have e3 : (3 * p + i) / 3 = p := by omega
  have e4 : (3 * p + i) % 3 = i := by omega
  simp [e1, e2, e3, e4, hi]
  omega
theorem tm_m1v {v : Nat} (h : v < 8) : nI v - 1 = if v = 0 then (-1 : Int32) else nI (v - 1) := by
  rcases (by omega : v = 0 ∨ v = 1 ∨ v = 2 ∨ v = 3 ∨ v = 4 ∨ v = 5 ∨ v = 6 ∨ v = 7) with e | e | e | e | e | e | e | e <;> subst e <;> decide
theorem tm_sent {h : Nat → Nat} {p : Nat} (hp : p < 6) (hh : h p < 8) : g_X0_sentTo (nI (tm_pk h)) (nI p) = nI (h p) - 1 := by
  unfold g_X0_sentTo
  have hk := tm_pk_lt h
  rw [show (3 : Int32) * nI p = nI (3 * p) from pk_mul 3 p, tm_shr (by omega) (by omega)]
  show (nI (tm_pk h / 2 ^ (3 * p)) &&& nI 7) - 1 = _
  rw [tm_and, tm_pk_at hp hh]
theorem tm_sending {h : Nat → Nat} {p v : Nat} {x : Int32} (hp : p < 6) (hv : v < 8) (hx : x + 1 = nI v) : g_X0_sending (nI (tm_pk h)) (nI p) x = nI (tm_pk (fun j => if j = p then v else h j)) := by
  unfold g_X0_sending
  have hk := tm_pk_lt h
  have hpw : 2 ^ (3 * p) ≤ 2 ^ 15 := Nat.pow_le_pow_right (by decide) (by omega)
  rw [hx, show (3 : Int32) * nI p = nI (3 * p) from pk_mul 3 p]
  rw [show (7 : Int32) <<< (nI (3 * p) &&& 31) = nI (7 * 2 ^ (3 * p)) from tm_shl 7 (by omega) (by omega), tm_shl v (by omega) (Nat.lt_of_le_of_lt (Nat.mul_le_mul (Nat.le_of_lt hv) hpw) (by decide)), tm_dnI, tm_or]
  congr 1
  have hvm : v * 2 ^ (3 * p) < 2 ^ 18 := by
    have : v * 2 ^ (3 * p) ≤ 7 * 2 ^ 15 := Nat.mul_le_mul (by omega) hpw
    omega
  apply tm_ext (n := 18) (Nat.or_lt_two_pow (tm_dn_lt hk) hvm) (tm_pk_lt _)
  intro i hi
  rw [Nat.testBit_or, tm_dnB, tm_pkB, tm_pkB, Nat.mul_comm 7, Nat.mul_comm v, Nat.testBit_two_pow_mul, Nat.testBit_two_pow_mul, tm_7]
  rw [decide_eq_true hi, Bool.true_and, Bool.true_and]
  have hv8 : ∀ j, 3 ≤ j → v.testBit j = false := fun j hj => tm_hi (n := 3) hv hj
  by_cases e : i / 3 = p
  · rw [if_pos e, decide_eq_true (by omega : 3 * p ≤ i), decide_eq_true (by omega : i - 3 * p < 3), show i - 3 * p = i % 3 by omega]
    simp
  · rw [if_neg e]
    by_cases g : 3 * p ≤ i
    · rw [decide_eq_true g, decide_eq_false (by omega : ¬ i - 3 * p < 3), hv8 _ (by omega)]
      simp
    · rw [decide_eq_false g]
      simp
theorem tm_pk0 {h : Nat → Nat} (h0 : ∀ p, p < 6 → h p = 0) : tm_pk h = 0 := by
  apply tm_ext (n := 18) (tm_pk_lt h) (by decide)
  intro i hi
  rw [tm_pkB, h0 _ (by omega), Nat.zero_testBit, Nat.zero_testBit, Bool.and_false]
theorem tm_pk_cong {h g : Nat → Nat} (e : ∀ p, p < 6 → h p = g p) : tm_pk h = tm_pk g := tm_bs_cong fun i hi => by rw [e _ (by omega)]
/-- the class's kinds -/
theorem tm_eyk {A : Nat → Nat → Int32} {T : Nat → Nat} (hC : tm_C A T) (hW : tm_W T) {p : Nat} (hp : p < T 3) : g_X8_eyesByKind_2 A (nI p) = nI (tm_kd (T (26 + 4 * p))) := by
  have h3 := tm_W_b3 hW
  unfold g_X8_eyesByKind_2
  rw [tm_get (by omega) (by decide), (tm_C_pe hC p hp).1]
  have hk := (tm_W_p hW p hp).1
  generalize T (26 + 4 * p) = k at hk
  rcases (by omega : k = 0 ∨ k = 1 ∨ k = 2 ∨ k = 3) with e | e | e | e <;> subst e <;> decide
theorem tm_eyk10 {k : Nat} (hk : k ≤ 3) : g_X10_eyesOfKind (nI k) = nI (tm_kd k) := by
  rcases (by omega : k = 0 ∨ k = 1 ∨ k = 2 ∨ k = 3) with e | e | e | e <;> subst e <;> decide
theorem tm_C_of {A A1 : Nat → Nat → Int32} {T : Nat → Nat} (hC : tm_C A T) (h : ∀ c, c < 14 → 3 ≤ c → A1 c = A c) : tm_C A1 T := by
  unfold tm_C at *
  rw [h 3 (by decide) (by decide), h 4 (by decide) (by decide), h 5 (by decide) (by decide), h 6 (by decide) (by decide), h 7 (by decide) (by decide), h 8 (by decide) (by decide), h 9 (by decide) (by decide), h 10 (by decide) (by decide), h 11 (by decide) (by decide), h 12 (by decide) (by decide), h 13 (by decide) (by decide)]
  exact hC
theorem tm_R_of {A A1 : Nat → Nat → Int32} {T : Nat → Nat} (hT : tm_R A T) (h : A1 47 = A 47) : tm_R A1 T := fun j hj => by rw [h]; exact hT j hj
/-- the class sets its scene -/
theorem tm_show {A : Nat → Nat → Int32} {T : Nat → Nat} (hC : tm_C A T) (hW : tm_W T) (I : Nat → Int32) (B : Nat) (h : Nat → Nat) : ∃ A1, g_X6_show I A (nI B) (nI (tm_pk h)) = some (upd (upd I 3601 (nI B)) 3602 (nI (tm_pk h)), A1) ∧ tm_CS (upd (upd I 3601 (nI B)) 3602 (nI (tm_pk h))) A1 T B h (fun p => T (28 + 4 * p)) (fun p => tm_kd (T (26 + 4 * p))) ∧ ∀ c, c ≠ 37 → c ≠ 38 → A1 c = A c := by
  have h3 := tm_W_b3 hW
  have L : ∃ r, g_X6_show_L1 4096 (nI 0) A = some r ∧ ((∀ p, p < T 3 → r 37 p = nI (T (28 + 4 * p)) ∧ r 38 p = nI (tm_kd (T (26 + 4 * p)))) ∧ ∀ c, c ≠ 37 → c ≠ 38 → r c = A c) := by
    refine tm_lr (fun n i s => g_X6_show_L1 n i s) 6 0 (by decide) (fun i s => (∀ p, p < i → p < T 3 → s 37 p = nI (T (28 + 4 * p)) ∧ s 38 p = nI (tm_kd (T (26 + 4 * p)))) ∧ ∀ c, c ≠ 37 → c ≠ 38 → s c = A c) _ ?_ ?_ ⟨fun p hp => absurd hp (Nat.not_lt_zero p), fun _ _ _ => rfl⟩ (by decide)
    · rintro n s ⟨a, b⟩
      refine ⟨s, ?_, fun p hp => a p (by omega) hp, b⟩
      show g_X6_show_L1 (n + 1) (nI 6) s = some s
      rw [g_X6_show_L1]
      exact if_pos (by decide)
    · rintro n i s _ hi _ ⟨a, b⟩
      refine Or.inr ⟨va_up (va_up s 37 (upd (s 37) i (s 7 i))) 38 (upd (s 38) i (g_X8_eyesByKind_2 (va_up s 37 (upd (s 37) i (s 7 i))) (nI i))), ⟨?_, ?_⟩, ?_⟩
      · intro p hp hp3
        have hs : tm_C (va_up s 37 (upd (s 37) i (s 7 i))) T := tm_C_of hC fun c hc _ => by rw [tm_vn _ (by omega), b c (by omega) (by omega)]
        rw [tm_vs, tm_vn _ (by decide), tm_vs]
        by_cases e : p = i
        · subst e
          rw [tm_us, tm_us, tm_eyk hs hW hp3, b 7 (by decide) (by decide), (tm_C_pe hC p hp3).2.1]
          exact ⟨rfl, rfl⟩
        · rw [tm_un _ e, tm_un _ e]
          exact a p (by omega) hp3
      · intro c c1 c2
        rw [tm_vn _ c2, tm_vn _ c1, b c c1 c2]
      · show g_X6_show_L1 (n + 1) (nI i) s = _
        rw [g_X6_show_L1, if_neg (tm_ge6 hi), tm_get hi (by decide), tm_put hi (by decide)]
        dsimp only [tw_let]
        rw [tm_put hi (by decide), nI_succ]
  obtain ⟨r, e, a, b⟩ := L
  refine ⟨r, ?_, ⟨?_, ?_, a⟩, b⟩
  · unfold g_X6_show
    rw [show (0 : Int32) = nI 0 from rfl, e, Option.bind_some]
  · rw [tm_un _ (by decide), tm_us]
  · rw [tm_us]
/-- the reference sets its trial -/
theorem tm_asNow {A : Nat → Nat → Int32} {T : Nat → Nat} (hT : tm_R A T) (hW : tm_W T) {B : Nat} {h : Nat → Nat} (hh : ∀ p, p < 6 → A 49 p = nI (h p)) (hB : A 49 6 = nI B) : ∃ A1, g_X10_asNow A = some A1 ∧ tm_MS A1 T B h (fun p => T (28 + 4 * p)) (fun p => tm_kd (T (26 + 4 * p))) ∧ ∀ c, c ≠ 52 → c ≠ 53 → c ≠ 54 → A1 c = A c := by
  have h3 := tm_W_b3 hW
  have L : ∃ r, g_X10_asNow_L1 4096 (nI 0) (va_up A 52 (fun j => if 0 ≤ j ∧ j < 0 + 8 then A 49 (0 + (j - 0)) else A 52 j)) = some r ∧ ((∀ p, p < T 3 → r 53 p = nI (T (28 + 4 * p)) ∧ r 54 p = nI (tm_kd (T (26 + 4 * p)))) ∧ (∀ j, j < 8 → r 52 j = A 49 j) ∧ ∀ c, c ≠ 52 → c ≠ 53 → c ≠ 54 → r c = A c) := by
    refine tm_lr (fun n i s => g_X10_asNow_L1 n i s) (T 3) 0 (Nat.zero_le _) (fun i s => (∀ p, p < i → s 53 p = nI (T (28 + 4 * p)) ∧ s 54 p = nI (tm_kd (T (26 + 4 * p)))) ∧ (∀ j, j < 8 → s 52 j = A 49 j) ∧ ∀ c, c ≠ 52 → c ≠ 53 → c ≠ 54 → s c = A c) _ ?_ ?_ ⟨fun p hp => absurd hp (Nat.not_lt_zero p), ?_, ?_⟩ (by omega)
    · rintro n s ⟨a, b, c⟩
      refine ⟨s, ?_, a, b, c⟩
      have hs : tm_R s T := tm_R_of hT (c 47 (by decide) (by decide) (by decide))
      show g_X10_asNow_L1 (n + 1) (nI (T 3)) s = some s
      rw [g_X10_asNow_L1, tm_r_c3 hs, Option.bind_some, if_pos (nI_le (Nat.le_refl _) (by omega))]
    · rintro n i s _ hi _ ⟨a, b, c⟩
      have hs : tm_R s T := tm_R_of hT (c 47 (by decide) (by decide) (by decide))
      have hk := (tm_W_p hW i hi).1
      refine Or.inr ⟨va_up (va_up s 53 (upd (s 53) i (nI (T (28 + 4 * i))))) 54 (upd (s 54) i (nI (tm_kd (T (26 + 4 * i))))), ⟨?_, ?_, ?_⟩, ?_⟩
      · intro p hp
        rw [tm_vs, tm_vn _ (by decide), tm_vs]
        by_cases e : p = i
        · subst e
          rw [tm_us, tm_us]
          exact ⟨rfl, rfl⟩
        · rw [tm_un _ e, tm_un _ e]
          exact a p (by omega)
      · intro j hj
        rw [tm_vn _ (by decide), tm_vn _ (by decide)]
        exact b j hj
      · intro d d1 d2 d3
        rw [tm_vn _ d3, tm_vn _ d2, c d d1 d2 d3]
      · show g_X10_asNow_L1 (n + 1) (nI i) s = _
        rw [g_X10_asNow_L1, tm_r_c3 hs, Option.bind_some, if_neg (nI_ge hi (by omega)), tm_r_p2 hs (by omega), Option.bind_some, tm_st (by omega) (by decide), Option.bind_some, tm_r_p0 hs (by omega), Option.bind_some, tm_eyk10 hk, tm_st (by omega) (by decide), Option.bind_some, nI_succ]
    · intro j hj
      rw [tm_vs, if_pos ⟨Nat.zero_le _, by omega⟩]
      congr 1
      omega
    · intro d d1 d2 d3
      rw [tm_vn _ d1]
  obtain ⟨r, e, a, b, c⟩ := L
  refine ⟨r, ?_, ⟨fun p hp => by rw [b p (by omega), hh p hp], by rw [b 6 (by decide), hB], a⟩, c⟩
  unfold g_X10_asNow
  rw [show tw_copy0 8 (A 49) 8 (A 52) (0 : Int32) (0 : Int32) (8 : Int32) = _ from tm_copy (a := 0) (d := 0) (n := 8) (by decide) (by decide) (by decide) (by decide) (by decide), Option.bind_some, show (0 : Int32) = nI 0 from rfl, e, Option.bind_some]
