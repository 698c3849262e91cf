/-! MATHEMATICS, 4: who is where, who sees what -/
theorem tm_nm1 {a : Nat} (ha : a < 2 ^ 31) : ¬ nI a = (-1 : Int32) := fun e => by
  have g := congrArg Int32.toInt e
  rw [nI_toInt ha, show (-1 : Int32).toInt = -1 from rfl] at g
  omega
theorem tm_nm2 {a : Nat} (ha : a < 2 ^ 31) : ¬ nI a = (-2 : Int32) := fun e => by
  have g := congrArg Int32.toInt e
  rw [nI_toInt ha, show (-2 : Int32).toInt = -2 from rfl] at g
  omega
theorem tm_spot {I : Nat → Int32} {A : Nat → Nat → Int32} {T : Nat → Nat} {B : Nat} {h W E : Nat → Nat} (hC : tm_C A T) (hW : tm_W T) (hS : tm_CS I A T B h W E) (hh : ∀ p, p < 6 → h p ≤ T 1) {p m : Nat} (hp : p < T 3) (hm : m < 60) : g_X6_spotOf I A (nI p) (nI m) = nI (tm_pl T h p m) := by
  have h3 := tm_W_b3 hW
  have h1 := tm_W_b1 hW
  have hp8 := hh p (by omega)
  have h8 : h p < 8 := by omega
  unfold g_X6_spotOf
  rw [hS.2.1, tm_sent (by omega) h8, tm_m1v h8]
  unfold tm_pl
  by_cases e : h p = 0
  · rw [if_pos e, if_pos e, if_pos rfl, show (nI p * (60 : Int32)) + nI m = nI (60 * p + m) from tm_xr p 60 m, tm_get (by omega) (by decide), (tm_C_pe hC p hp).2.2 m hm]
  · rw [if_neg e, if_neg e, if_neg (tm_nm1 (by omega))]
theorem tm_plc {A : Nat → Nat → Int32} {T : Nat → Nat} {B : Nat} {h W E : Nat → Nat} (hT : tm_R A T) (hW : tm_W T) (hM : tm_MS A T B h W E) (hh : ∀ p, p < 6 → h p ≤ T 1) {p m : Nat} (hp : p < T 3) (hm : m < 60) : g_X10_placeOf A (nI p) (nI m) = some (nI (tm_pl T h p m)) := by
  have h3 := tm_W_b3 hW
  have h1 := tm_W_b1 hW
  have h4 := tm_W_b4 hW
  have hp8 := hh p (by omega)
  unfold g_X10_placeOf
  rw [tm_ld (by omega : p < 8) (by decide), Option.bind_some, hM.1 p (by omega)]
  unfold tm_pl
  by_cases e : h p = 0
  · rw [if_pos e, e, if_pos (by decide), tm_r_p1 hT (by omega), Option.bind_some]
    have L := tm_lp (fun n i s => g_X10_placeOf_L1 A (nI p) (nI m) n s i) (T 4) 0 (fun k => nI (tm_spk T p m k)) (some (nI (tm_sp T p m))) (Nat.zero_le _) ?_ ?_ (m := 4096) (by omega)
    · rw [show (0 : Int32) = nI 0 from rfl, show nI (T (27 + 4 * p)) = nI (tm_spk T p m 0) from rfl]
      rw [show g_X10_placeOf_L1 A (nI p) (nI m) 4096 (nI (tm_spk T p m 0)) (nI 0) = some (nI (tm_sp T p m)) from L]
      rfl
    · intro n
      show g_X10_placeOf_L1 A (nI p) (nI m) (n + 1) (nI (tm_spk T p m (T 4))) (nI (T 4)) = _
      rw [g_X10_placeOf_L1, tm_r_c4 hT, Option.bind_some, if_pos (nI_le (Nat.le_refl _) (by omega))]
      rfl
    · intro n i _ hi
      have hg := tm_W_g hW i hi
      show g_X10_placeOf_L1 A (nI p) (nI m) (n + 1) (nI (tm_spk T p m i)) (nI i) = g_X10_placeOf_L1 A (nI p) (nI m) n (nI (tm_spk T p m (i + 1))) (nI (i + 1))
      rw [g_X10_placeOf_L1, tm_r_c4 hT, Option.bind_some, if_neg (nI_ge hi (by omega)), tm_r_g0 hT (by omega), Option.bind_some, ← nI_succ, tm_spk]
      by_cases e1 : T (50 + 3 * i) = p
      · rw [if_pos (by rw [e1]), tm_r_g2 hT (by omega), Option.bind_some]
        by_cases e2 : T (52 + 3 * i) ≤ m
        · rw [if_neg (nI_nlt e2 (by omega)), tm_r_g1 hT (by omega), Option.bind_some, Option.bind_some, if_pos ⟨e1, e2⟩]
        · rw [if_pos (nI_lt (by omega) (by omega)), Option.bind_some, if_neg (fun q => e2 q.2)]
      · rw [if_neg (fun q => e1 ((nI_eq (by omega) (by omega)).mp q)), Option.bind_some, if_neg (fun q => e1 q.1)]
  · rw [if_neg e, if_neg (nI_nle (by omega) (by omega)), Option.bind_some]
    rw [show nI (h p) - 1 = nI (h p - 1) from pk_sub (a := h p) (b := 1) (by omega)]
/-- places from which one sees into one; into which from one -/
def tm_lkk (T : Nat → Nat) (B t : Nat) : Nat → Nat
  | 0 => 2 ^ t
  | k + 1 => tm_lkk T B t k ||| (if T (11 + 2 * k) = t ∧ B.testBit k = false then 2 ^ T (10 + 2 * k) else 0)
def tm_vwk (T : Nat → Nat) (B s : Nat) : Nat → Nat
  | 0 => 2 ^ s
  | k + 1 => tm_vwk T B s k ||| (if T (10 + 2 * k) = s ∧ B.testBit k = false then 2 ^ T (11 + 2 * k) else 0)
theorem tm_twB (n i : Nat) : (2 ^ n).testBit i = decide (n = i) := Nat.testBit_two_pow
theorem tm_ifB (c : Prop) [Decidable c] (n i : Nat) : (if c then 2 ^ n else 0).testBit i = (decide c && decide (n = i)) := by
  by_cases h : c
  · rw [if_pos h, tm_twB, decide_eq_true h, Bool.true_and]
  · rw [if_neg h, Nat.zero_testBit, decide_eq_false h, Bool.false_and]
theorem tm_lkB (T : Nat → Nat) (B t s : Nat) : ∀ k, (tm_lkk T B t k).testBit s = tm_see T B s t k
  | 0 => by
    rw [tm_lkk, tm_see, tm_twB]
    exact decide_eq_decide.mpr ⟨fun e => e.symm, fun e => e.symm⟩
  | k + 1 => by
    rw [tm_lkk, tm_see, Nat.testBit_or, tm_lkB T B t s k, tm_ifB]
    by_cases e1 : T (11 + 2 * k) = t <;> by_cases e2 : T (10 + 2 * k) = s <;> cases e3 : B.testBit k <;> simp [e1, e2]
theorem tm_vwB (T : Nat → Nat) (B s t : Nat) : ∀ k, (tm_vwk T B s k).testBit t = tm_see T B s t k
  | 0 => by
    rw [tm_vwk, tm_see, tm_twB]
  | k + 1 => by
    rw [tm_vwk, tm_see, Nat.testBit_or, tm_vwB T B s t k, tm_ifB]
    by_cases e1 : T (11 + 2 * k) = t <;> by_cases e2 : T (10 + 2 * k) = s <;> cases e3 : B.testBit k <;> simp [e1, e2]
theorem tm_p6 {a : Nat} (h : a < 6) : 2 ^ a < 2 ^ 6 := Nat.pow_lt_pow_right (by decide) h
theorem tm_lk_lt {T : Nat → Nat} (hW : tm_W T) {B t : Nat} (ht : t < T 1) : ∀ k, k ≤ T 2 → tm_lkk T B t k < 2 ^ 6
  | 0, _ => by
    have := tm_W_b1 hW
    exact tm_p6 (by omega)
  | k + 1, hk => by
    have := tm_W_b1 hW
    have hs := tm_W_s hW k hk
    refine Nat.or_lt_two_pow (tm_lk_lt hW ht k (by omega)) ?_
    split
    · exact tm_p6 (by omega)
    · decide
theorem tm_vw_lt {T : Nat → Nat} (hW : tm_W T) {B s : Nat} (ht : s < T 1) : ∀ k, k ≤ T 2 → tm_vwk T B s k < 2 ^ 6
  | 0, _ => by
    have := tm_W_b1 hW
    exact tm_p6 (by omega)
  | k + 1, hk => by
    have := tm_W_b1 hW
    have hs := tm_W_s hW k hk
    refine Nat.or_lt_two_pow (tm_vw_lt hW ht k (by omega)) ?_
    split
    · exact tm_p6 (by omega)
    · decide
theorem tm_lk {I : Nat → Int32} {A : Nat → Nat → Int32} {T : Nat → Nat} {B : Nat} (hC : tm_C A T) (hW : tm_W T) (hI : I 3601 = nI B) (hB : B < 256) {t : Nat} (ht : t < T 1) : g_X6_lookouts I A (nI t) = some (nI (tm_lkk T B t (T 2))) := by
  have h1 := tm_W_b1 hW
  have h2 := tm_W_b2 hW
  unfold g_X6_lookouts
  have L := tm_lp (fun n i s => g_X6_lookouts_L1 I A (nI t) n s i) (T 2) 0 (fun k => nI (tm_lkk T B t k)) (some (nI (tm_lkk T B t (T 2)))) (Nat.zero_le _) ?_ ?_ (m := 4096) (by omega)
  · rw [tm_shl1 (by omega), show (0 : Int32) = nI 0 from rfl]
    rw [show g_X6_lookouts_L1 I A (nI t) 4096 (nI (2 ^ t)) (nI 0) = some (nI (tm_lkk T B t (T 2))) from L]
    rfl
  · intro n
    show g_X6_lookouts_L1 I A (nI t) (n + 1) _ (nI (T 2)) = _
    rw [g_X6_lookouts_L1, tm_cn2 hC, if_pos (nI_le (Nat.le_refl _) (by omega))]
  · intro n i _ hi
    have hs := tm_W_s hW i hi
    have ha := tm_C_st hC i hi
    show g_X6_lookouts_L1 I A (nI t) (n + 1) (nI (tm_lkk T B t i)) (nI i) = g_X6_lookouts_L1 I A (nI t) n (nI (tm_lkk T B t (i + 1))) (nI (i + 1))
    rw [g_X6_lookouts_L1, tm_cn2 hC, if_neg (nI_ge hi (by omega)), tm_get (by omega) (by decide), tm_get (by omega) (by decide), ha.1, ha.2, hI, ← nI_succ, tm_lkk]
    by_cases e1 : T (11 + 2 * i) = t
    · rw [if_pos (by rw [e1])]
      cases e2 : B.testBit i
      · rw [if_pos ((tm_b0 (by omega) (by omega)).mpr e2), tm_shl1 (by omega), tm_or, Option.bind_some, if_pos ⟨e1, rfl⟩]
      · rw [if_neg (fun q => by rw [(tm_b0 (by omega) (by omega)).mp q] at e2; cases e2), Option.bind_some, if_neg (fun q => by cases q.2), Nat.or_zero]
    · rw [if_neg (fun q => e1 ((nI_eq (by omega) (by omega)).mp q)), Option.bind_some, if_neg (fun q => e1 q.1), Nat.or_zero]
theorem tm_vw {I : Nat → Int32} {A : Nat → Nat → Int32} {T : Nat → Nat} {B : Nat} (hC : tm_C A T) (hW : tm_W T) (hI : I 3601 = nI B) (hB : B < 256) {s : Nat} (hs1 : s < T 1) : g_X6_viewFrom I A (nI s) = some (nI (tm_vwk T B s (T 2))) := by
  have h1 := tm_W_b1 hW
  have h2 := tm_W_b2 hW
  unfold g_X6_viewFrom
  have L := tm_lp (fun n i v => g_X6_viewFrom_L1 I A (nI s) n v i) (T 2) 0 (fun k => nI (tm_vwk T B s k)) (some (nI (tm_vwk T B s (T 2)))) (Nat.zero_le _) ?_ ?_ (m := 4096) (by omega)
  · rw [tm_shl1 (by omega), show (0 : Int32) = nI 0 from rfl]
    rw [show g_X6_viewFrom_L1 I A (nI s) 4096 (nI (2 ^ s)) (nI 0) = some (nI (tm_vwk T B s (T 2))) from L]
    rfl
  · intro n
    show g_X6_viewFrom_L1 I A (nI s) (n + 1) _ (nI (T 2)) = _
    rw [g_X6_viewFrom_L1, tm_cn2 hC, if_pos (nI_le (Nat.le_refl _) (by omega))]
  · intro n i _ hi
    have hs := tm_W_s hW i hi
    have ha := tm_C_st hC i hi
    show g_X6_viewFrom_L1 I A (nI s) (n + 1) (nI (tm_vwk T B s i)) (nI i) = g_X6_viewFrom_L1 I A (nI s) n (nI (tm_vwk T B s (i + 1))) (nI (i + 1))
    rw [g_X6_viewFrom_L1, tm_cn2 hC, if_neg (nI_ge hi (by omega)), tm_get (by omega) (by decide), tm_get (by omega) (by decide), ha.1, ha.2, hI, ← nI_succ, tm_vwk]
    by_cases e1 : T (10 + 2 * i) = s
    · rw [if_pos (by rw [e1])]
      cases e2 : B.testBit i
      · rw [if_pos ((tm_b0 (by omega) (by omega)).mpr e2), tm_shl1 (by omega), tm_or, Option.bind_some, if_pos ⟨e1, rfl⟩]
      · rw [if_neg (fun q => by rw [(tm_b0 (by omega) (by omega)).mp q] at e2; cases e2), Option.bind_some, if_neg (fun q => by cases q.2), Nat.or_zero]
    · rw [if_neg (fun q => e1 ((nI_eq (by omega) (by omega)).mp q)), Option.bind_some, if_neg (fun q => e1 q.1), Nat.or_zero]
theorem tm_has {a k : Nat} (ha : a < 2 ^ 31) (hk : k < 32) : g_X10_hasBit (nI a) (nI k) = a.testBit k := by
  unfold g_X10_hasBit
  cases e : a.testBit k
  · rw [if_neg (fun q => by rw [(tm_b1 ha hk).mp q] at e; cases e)]
  · rw [if_pos ((tm_b1 ha hk).mpr e)]
theorem tm_io {A : Nat → Nat → Int32} {T : Nat → Nat} {B : Nat} (hT : tm_R A T) (hW : tm_W T) (hM : A 52 6 = nI B) (hB : B < 256) {s : Nat} (hs1 : s < T 1) : g_X10_intoOf A (nI s) = some (nI (tm_vwk T B s (T 2))) := by
  have h1 := tm_W_b1 hW
  have h2 := tm_W_b2 hW
  unfold g_X10_intoOf
  have L := tm_lp (fun n i v => g_X10_intoOf_L1 A (nI s) n v i) (T 2) 0 (fun k => nI (tm_vwk T B s k)) (some (nI (tm_vwk T B s (T 2)))) (Nat.zero_le _) ?_ ?_ (m := 4096) (by omega)
  · rw [tm_shl1 (by omega), show (0 : Int32) = nI 0 from rfl]
    rw [show g_X10_intoOf_L1 A (nI s) 4096 (nI (2 ^ s)) (nI 0) = some (nI (tm_vwk T B s (T 2))) from L]
    rfl
  · intro n
    show g_X10_intoOf_L1 A (nI s) (n + 1) _ (nI (T 2)) = _
    rw [g_X10_intoOf_L1, tm_r_c2 hT, Option.bind_some, if_pos (nI_le (Nat.le_refl _) (by omega))]
  · intro n i _ hi
    have hs := tm_W_s hW i hi
    show g_X10_intoOf_L1 A (nI s) (n + 1) (nI (tm_vwk T B s i)) (nI i) = g_X10_intoOf_L1 A (nI s) n (nI (tm_vwk T B s (i + 1))) (nI (i + 1))
    rw [g_X10_intoOf_L1, tm_r_c2 hT, Option.bind_some, if_neg (nI_ge hi (by omega)), tm_r_s0 hT (by omega), Option.bind_some, ← nI_succ, tm_vwk]
    by_cases e1 : T (10 + 2 * i) = s
    · rw [if_pos (by rw [e1]), show tw_ld 8 (A 52) (6 : Int32) = _ from tm_ld (i := 6) (by decide) (by decide), Option.bind_some, hM, tm_has (by omega) (by omega)]
      cases e2 : B.testBit i
      · rw [if_neg (by decide), tm_r_s1 hT (by omega), Option.bind_some, tm_shl1 (by omega), Option.bind_some, tm_or, if_pos ⟨e1, rfl⟩]
      · rw [if_pos rfl, Option.bind_some, if_neg (fun q => by cases q.2), show (0 : Int32) = nI 0 from rfl, tm_or]
    · rw [if_neg (fun q => e1 ((nI_eq (by omega) (by omega)).mp q)), Option.bind_some, if_neg (fun q => e1 q.1), show (0 : Int32) = nI 0 from rfl, tm_or]
theorem tm_bs6 (f : Nat → Bool) {n : Nat} (h : n ≤ 6) : tm_bs f n < 64 := Nat.lt_of_lt_of_le (tm_bs_lt f n) (Nat.pow_le_pow_right (n := 2) (by decide) h)
theorem tm_pp {I : Nat → Int32} {A : Nat → Nat → Int32} {T : Nat → Nat} {B : Nat} {h W E : Nat → Nat} (hC : tm_C A T) (hW : tm_W T) (hS : tm_CS I A T B h W E) (hh : ∀ p, p < 6 → h p ≤ T 1) {z m : Nat} (hz : z < 2 ^ 31) (hm : m < 60) : g_X6_peopleAt I A (nI z) (nI m) = some (nI (tm_bs (fun p => z.testBit (tm_pl T h p m)) (T 3))) := by
  have h3 := tm_W_b3 hW
  have h1 := tm_W_b1 hW
  unfold g_X6_peopleAt
  have L := tm_lp (fun n i v => g_X6_peopleAt_L1 I A (nI z) (nI m) n v i) (T 3) 0 (fun k => nI (tm_bs (fun p => z.testBit (tm_pl T h p m)) k)) (some (nI (tm_bs (fun p => z.testBit (tm_pl T h p m)) (T 3)))) (Nat.zero_le _) ?_ ?_ (m := 4096) (by omega)
  · rw [show (0 : Int32) = nI 0 from rfl]
    rw [show g_X6_peopleAt_L1 I A (nI z) (nI m) 4096 (nI 0) (nI 0) = some (nI (tm_bs (fun p => z.testBit (tm_pl T h p m)) (T 3))) from L]
    rfl
  · intro n
    show g_X6_peopleAt_L1 I A (nI z) (nI m) (n + 1) _ (nI (T 3)) = _
    rw [g_X6_peopleAt_L1, tm_cn3 hC, if_pos (nI_le (Nat.le_refl _) (by omega))]
  · intro n i _ hi
    have hpl := tm_pl_lt hW hh (m := m) hi
    show g_X6_peopleAt_L1 I A (nI z) (nI m) (n + 1) _ (nI i) = g_X6_peopleAt_L1 I A (nI z) (nI m) n _ (nI (i + 1))
    rw [g_X6_peopleAt_L1, tm_cn3 hC, if_neg (nI_ge hi (by omega)), tm_spot hC hW hS hh hi hm, tm_bit hz (by omega), ← nI_succ, tm_bs]
    cases e : z.testBit (tm_pl T h i m)
    · rw [if_neg (by decide), show nI (Bool.toNat false) <<< (nI i &&& 31) = nI (0 * 2 ^ i) from tm_shl 0 (by omega) (by omega), tm_or, Nat.zero_mul]
    · rw [if_pos rfl, show nI (Bool.toNat true) <<< (nI i &&& 31) = nI (2 ^ i) from tm_shl1 (by omega), tm_or]
/-- the class's people who see a place at a minute -/
theorem tm_wt9 {I : Nat → Int32} {A : Nat → Nat → Int32} {T : Nat → Nat} {B : Nat} {h W E : Nat → Nat} (hC : tm_C A T) (hW : tm_W T) (hS : tm_CS I A T B h W E) (hSB : tm_SB T B h W E) {t m : Nat} (ht : t < T 1) (hm : m < 60) : g_X6_peopleAt I A (nI (tm_lkk T B t (T 2))) (nI m) = some (nI (tm_wt T B h t m)) := by
  have hl := tm_lk_lt hW (B := B) ht (T 2) (Nat.le_refl _)
  rw [tm_pp hC hW hS hSB.2.1 (by omega) hm]
  unfold tm_wt
  rw [tm_bs_cong fun p _ => tm_lkB T B t (tm_pl T h p m) (T 2)]
theorem tm_seers {I : Nat → Int32} {A : Nat → Nat → Int32} {T : Nat → Nat} {B : Nat} {h W E : Nat → Nat} (hC : tm_C A T) (hW : tm_W T) (hS : tm_CS I A T B h W E) (hSB : tm_SB T B h W E) {t m : Nat} (ht : t < T 1) (hm : m < 60) : g_X6_seers I A (nI t) (nI m) = some (nI (tm_wt T B h t m)) := by
  unfold g_X6_seers
  rw [tm_lk hC hW hS.1 hSB.1 ht, Option.bind_some, tm_wt9 hC hW hS hSB ht hm, Option.bind_some]
theorem tm_wo {A : Nat → Nat → Int32} {T : Nat → Nat} {B : Nat} {h W E : Nat → Nat} (hT : tm_R A T) (hW : tm_W T) (hM : tm_MS A T B h W E) (hSB : tm_SB T B h W E) {t m : Nat} (ht : t < T 1) (hm : m < 60) : g_X10_watchersOf A (nI t) (nI m) = some (nI (tm_wt T B h t m)) := by
  have h3 := tm_W_b3 hW
  have h1 := tm_W_b1 hW
  unfold g_X10_watchersOf
  have L := tm_lp (fun n i v => g_X10_watchersOf_L1 A (nI t) (nI m) n v i) (T 3) 0 (fun k => nI (tm_bs (fun p => tm_see T B (tm_pl T h p m) t (T 2)) k)) (some (nI (tm_wt T B h t m))) (Nat.zero_le _) ?_ ?_ (m := 4096) (by omega)
  · rw [show (0 : Int32) = nI 0 from rfl]
    rw [show g_X10_watchersOf_L1 A (nI t) (nI m) 4096 (nI 0) (nI 0) = some (nI (tm_wt T B h t m)) from L]
    rfl
  · intro n
    show g_X10_watchersOf_L1 A (nI t) (nI m) (n + 1) _ (nI (T 3)) = _
    rw [g_X10_watchersOf_L1, tm_r_c3 hT, Option.bind_some, if_pos (nI_le (Nat.le_refl _) (by omega))]
    rfl
  · intro n i _ hi
    have hpl := tm_pl_lt hW hSB.2.1 (m := m) hi
    have hv := tm_vw_lt hW (B := B) hpl (T 2) (Nat.le_refl _)
    show g_X10_watchersOf_L1 A (nI t) (nI m) (n + 1) _ (nI i) = g_X10_watchersOf_L1 A (nI t) (nI m) n _ (nI (i + 1))
    rw [g_X10_watchersOf_L1, tm_r_c3 hT, Option.bind_some, if_neg (nI_ge hi (by omega)), tm_plc hT hW hM hSB.2.1 hi hm, Option.bind_some, tm_io hT hW hM.2.1 hSB.1 hpl, Option.bind_some, tm_has (by omega) (by omega), tm_vwB, ← nI_succ, tm_bs]
    cases e : tm_see T B (tm_pl T h i m) t (T 2)
    · rw [if_neg (by decide), if_neg (by decide), Option.bind_some, show (0 : Int32) = nI 0 from rfl, tm_or]
    · rw [if_pos rfl, if_pos rfl, Option.bind_some, tm_shl1 (by omega), tm_or]
theorem tm_wt_lt {T : Nat → Nat} (B : Nat) (h : Nat → Nat) (t m : Nat) : tm_wt T B h t m < 2 ^ T 3 := tm_bs_lt _ _
/-- eyes -/
theorem tm_ey_hi {E : Nat → Nat} {S n : Nat} (hS : S < 2 ^ n) : ∀ k, tm_ey E S (n + k) = tm_ey E S n
  | 0 => rfl
  | k + 1 => by
    show tm_ey E S (n + k) + (if S.testBit (n + k) = true then E (n + k) else 0) = _
    rw [tm_ey_hi hS k, tm_hi hS (Nat.le_add_right n k), if_neg (by decide), Nat.add_zero]
theorem tm_ey_le {E : Nat → Nat} {n : Nat} (S : Nat) (hE : ∀ p, p < n → E p ≤ 2) : tm_ey E S n ≤ 2 * n := by
  refine tm_sm_le fun i hi => ?_
  split
  · exact hE i hi
  · exact Nat.zero_le _
theorem tm_eye9 {A : Nat → Nat → Int32} {T E : Nat → Nat} (hW : tm_W T) (hE : ∀ p, p < T 3 → A 38 p = nI (E p)) {S : Nat} (hS : S < 2 ^ T 3) : g_X6_eyesOf A (nI S) = some (nI (tm_ey E S (T 3))) := by
  have h3 := tm_W_b3 hW
  have hS6 : S < 64 := Nat.lt_of_lt_of_le hS (Nat.pow_le_pow_right (n := 2) (by decide) h3)
  unfold g_X6_eyesOf
  have L := tm_lp (fun n i v => g_X6_eyesOf_L1 A (nI S) n v i) 6 0 (fun k => nI (tm_ey E S k)) (some (nI (tm_ey E S (T 3)))) (by decide) ?_ ?_ (m := 4096) (by decide)
  · rw [show (0 : Int32) = nI 0 from rfl]
    rw [show g_X6_eyesOf_L1 A (nI S) 4096 (nI 0) (nI 0) = some (nI (tm_ey E S (T 3))) from L]
    rfl
  · intro n
    show g_X6_eyesOf_L1 A (nI S) (n + 1) _ (nI 6) = _
    rw [g_X6_eyesOf_L1, if_pos (by decide), show (6 : Nat) = T 3 + (6 - T 3) by omega, tm_ey_hi hS]
  · intro n i _ hi
    show g_X6_eyesOf_L1 A (nI S) (n + 1) (nI (tm_ey E S i)) (nI i) = g_X6_eyesOf_L1 A (nI S) n (nI (tm_ey E S i + (if S.testBit i = true then E i else 0))) (nI (i + 1))
    rw [g_X6_eyesOf_L1, if_neg (tm_ge6 hi), ← nI_succ]
    cases e : S.testBit i
    · rw [if_pos ((tm_b0 (by omega) (by omega)).mpr e), Option.bind_some, if_neg (by decide), show (0 : Int32) = nI 0 from rfl, nI_add]
    · have hi3 : i < T 3 := Nat.lt_of_not_le fun q => by rw [tm_hi hS q] at e; cases e
      rw [if_neg (fun q => by rw [(tm_b0 (by omega) (by omega)).mp q] at e; cases e), Option.bind_some, if_pos rfl, tm_get hi (by decide), hE i hi3, nI_add]
theorem tm_eye10 {A : Nat → Nat → Int32} {T E : Nat → Nat} (hT : tm_R A T) (hW : tm_W T) (hE : ∀ p, p < T 3 → A 54 p = nI (E p)) {S : Nat} (hS : S < 2 ^ 31) : g_X10_eyesOf A (nI S) = some (nI (tm_ey E S (T 3))) := by
  have h3 := tm_W_b3 hW
  unfold g_X10_eyesOf
  have L := tm_lp (fun n i v => g_X10_eyesOf_L1 A (nI S) n v i) (T 3) 0 (fun k => nI (tm_ey E S k)) (some (nI (tm_ey E S (T 3)))) (Nat.zero_le _) ?_ ?_ (m := 4096) (by omega)
  · rw [show (0 : Int32) = nI 0 from rfl]
    rw [show g_X10_eyesOf_L1 A (nI S) 4096 (nI 0) (nI 0) = some (nI (tm_ey E S (T 3))) from L]
    rfl
  · intro n
    show g_X10_eyesOf_L1 A (nI S) (n + 1) _ (nI (T 3)) = _
    rw [g_X10_eyesOf_L1, tm_r_c3 hT, Option.bind_some, if_pos (nI_le (Nat.le_refl _) (by omega))]
  · intro n i _ hi
    show g_X10_eyesOf_L1 A (nI S) (n + 1) (nI (tm_ey E S i)) (nI i) = g_X10_eyesOf_L1 A (nI S) n (nI (tm_ey E S i + (if S.testBit i = true then E i else 0))) (nI (i + 1))
    rw [g_X10_eyesOf_L1, tm_r_c3 hT, Option.bind_some, if_neg (nI_ge hi (by omega)), ← nI_succ, tm_has hS (by omega)]
    cases e : S.testBit i
    · rw [if_neg (by decide), Option.bind_some, if_neg (by decide), show (0 : Int32) = nI 0 from rfl, nI_add]
    · rw [if_pos rfl, tm_ld (by omega) (by decide), Option.bind_some, Option.bind_some, if_pos rfl, hE i hi, nI_add]
