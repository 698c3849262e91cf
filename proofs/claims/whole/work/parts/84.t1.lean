/-! MATHEMATICS, 35: the text's tokens; the class's walk over them -/
def tp_let (x : Nat) : Bool := decide (97 ≤ x ∧ x ≤ 122)
def tp_dig (x : Nat) : Bool := decide (48 ≤ x ∧ x ≤ 57)
def tp_bla (x : Nat) : Bool := decide (x = 32)
def tp_sc (f : Nat → Bool) (c : Nat → Nat) (n : Nat) : Nat → Nat → Nat
  | 0, p => p
  | k + 1, p => if p < n ∧ f (c p) = true then tp_sc f c n k (p + 1) else p
/-- the first place from p on that is the end, or holds another sign -/
def tp_en (f : Nat → Bool) (c : Nat → Nat) (n p : Nat) : Nat := tp_sc f c n (n - p) p
theorem tp_en_s {f : Nat → Bool} {c : Nat → Nat} {n p : Nat} (h : p < n) (hf : f (c p) = true) : tp_en f c n p = tp_en f c n (p + 1) := by
  unfold tp_en
  rw [show n - p = (n - (p + 1)) + 1 by omega, tp_sc, if_pos ⟨h, hf⟩]
theorem tp_en_e {f : Nat → Bool} {c : Nat → Nat} {n p : Nat} (h : ¬ (p < n ∧ f (c p) = true)) : tp_en f c n p = p := by
  unfold tp_en
  cases n - p with
  | zero => rfl
  | succ k => rw [tp_sc, if_neg h]
theorem tp_en_all (f : Nat → Bool) (c : Nat → Nat) (n : Nat) : ∀ d p, n - p = d → p ≤ tp_en f c n p ∧ (p ≤ n → tp_en f c n p ≤ n) ∧ (∀ j, p ≤ j → j < tp_en f c n p → f (c j) = true) ∧ ¬ (tp_en f c n p < n ∧ f (c (tp_en f c n p)) = true) := by
  intro d
  induction d with
  | zero =>
    intro p hp
    have e : tp_en f c n p = p := tp_en_e (by omega)
    rw [e]
    exact ⟨Nat.le_refl _, fun h => h, fun j h1 h2 => by omega, by omega⟩
  | succ d ih =>
    intro p hp
    by_cases h : p < n ∧ f (c p) = true
    · rw [tp_en_s h.1 h.2]
      obtain ⟨a1, a2, a3, a4⟩ := ih (p + 1) (by omega)
      refine ⟨by omega, fun _ => a2 (by omega), fun j h1 h2 => ?_, a4⟩
      by_cases e : j = p
      · rw [e]; exact h.2
      · exact a3 j (by omega) h2
    · rw [tp_en_e h]
      exact ⟨Nat.le_refl _, fun h => h, fun j h1 h2 => by omega, h⟩
theorem tp_en_ge (f : Nat → Bool) (c : Nat → Nat) (n p : Nat) : p ≤ tp_en f c n p := (tp_en_all f c n _ p rfl).1
theorem tp_en_le {f : Nat → Bool} {c : Nat → Nat} {n p : Nat} (h : p ≤ n) : tp_en f c n p ≤ n := (tp_en_all f c n _ p rfl).2.1 h
theorem tp_en_in {f : Nat → Bool} {c : Nat → Nat} {n p j : Nat} (h : p ≤ j) (h2 : j < tp_en f c n p) : f (c j) = true := (tp_en_all f c n _ p rfl).2.2.1 j h h2
theorem tp_en_no (f : Nat → Bool) (c : Nat → Nat) (n p : Nat) : ¬ (tp_en f c n p < n ∧ f (c (tp_en f c n p)) = true) := (tp_en_all f c n _ p rfl).2.2.2
/-- the token behind e: where it begins, its kind (0 end, 1 word, 2 whole, 3 mark, 4 none such), where it stops, what it is worth -/
def tp_at (c : Nat → Nat) (n e : Nat) : Nat := tp_en tp_bla c n e
def tp_wE (c : Nat → Nat) (n e : Nat) : Nat := tp_en tp_let c n (tp_at c n e)
def tp_dE (c : Nat → Nat) (n e : Nat) : Nat := tp_en tp_dig c n (tp_at c n e)
def tp_kd (c : Nat → Nat) (n e : Nat) : Nat := if n ≤ tp_at c n e then 0 else if c (tp_at c n e) = 59 then 3 else if tp_let (c (tp_at c n e)) = true then (if 8 < tp_wE c n e - tp_at c n e then 4 else 1) else if tp_dig (c (tp_at c n e)) = true then (if 3 < tp_dE c n e - tp_at c n e then 4 else 2) else 4
def tp_st (c : Nat → Nat) (n e : Nat) : Nat := if n ≤ tp_at c n e then tp_at c n e else if c (tp_at c n e) = 59 then tp_at c n e + 1 else if tp_let (c (tp_at c n e)) = true then tp_wE c n e else if tp_dig (c (tp_at c n e)) = true then tp_dE c n e else tp_at c n e + 1
def tp_wv (c : Nat → Nat) (a : Nat) : Nat → Nat
  | 0 => 0
  | m + 1 => tp_wv c a m * 27 + c (a + m) - 96
def tp_nv (c : Nat → Nat) (a : Nat) : Nat → Nat
  | 0 => 0
  | m + 1 => tp_nv c a m * 10 + c (a + m) - 48
def tp_v (c : Nat → Nat) (n e : Nat) : Nat := tp_wv c (tp_at c n e) (tp_wE c n e - tp_at c n e)
def tp_w (c : Nat → Nat) (n e : Nat) : Nat := tp_nv c (tp_at c n e) (tp_dE c n e - tp_at c n e)
theorem tp_at_ge (c : Nat → Nat) (n e : Nat) : e ≤ tp_at c n e := tp_en_ge _ _ _ _
theorem tp_at_le {c : Nat → Nat} {n e : Nat} (h : e ≤ n) : tp_at c n e ≤ n := tp_en_le h
theorem tp_st_le {c : Nat → Nat} {n e : Nat} (h : e ≤ n) : tp_st c n e ≤ n := by
  have h1 := tp_at_le (c := c) h
  unfold tp_st
  split
  · exact h1
  · split
    · omega
    · split
      · exact tp_en_le h1
      · split
        · exact tp_en_le h1
        · omega
theorem tp_st_ge (c : Nat → Nat) (n e : Nat) : tp_at c n e ≤ tp_st c n e := by
  unfold tp_st
  split
  · exact Nat.le_refl _
  · split
    · omega
    · split
      · exact tp_en_ge _ _ _ _
      · split
        · exact tp_en_ge _ _ _ _
        · omega
theorem tp_st_gt {c : Nat → Nat} {n e : Nat} (h : tp_kd c n e ≠ 0) : tp_at c n e < tp_st c n e := by
  unfold tp_kd at h
  unfold tp_st
  split
  · next g =>
    rw [if_pos g] at h
    exact absurd rfl h
  · next g =>
    split
    · omega
    · split
      · next g2 =>
        unfold tp_wE
        rw [tp_en_s (by omega) g2]
        exact tp_en_ge _ _ _ _
      · split
        · next g2 =>
          unfold tp_dE
          rw [tp_en_s (by omega) g2]
          exact tp_en_ge _ _ _ _
        · omega
theorem tp_kd4 (c : Nat → Nat) (n e : Nat) : tp_kd c n e ≤ 4 := by
  unfold tp_kd
  repeat' split
  all_goals omega
/-- a word, a whole -/
theorem tp_kd1 {c : Nat → Nat} {n e : Nat} (h : tp_kd c n e = 1) : tp_at c n e < n ∧ tp_st c n e = tp_wE c n e ∧ tp_wE c n e - tp_at c n e ≤ 8 ∧ tp_at c n e < tp_wE c n e ∧ (∀ j, tp_at c n e ≤ j → j < tp_wE c n e → 97 ≤ c j ∧ c j ≤ 122) := by
  unfold tp_kd at h
  unfold tp_st
  split at h
  · omega
  · next g =>
    rw [if_neg g]
    split at h
    · omega
    · next g2 =>
      rw [if_neg g2]
      split at h
      · next g3 =>
        rw [if_pos g3]
        split at h
        · omega
        · refine ⟨by omega, rfl, by omega, ?_, fun j h1 h2 => of_decide_eq_true (tp_en_in h1 h2)⟩
          unfold tp_wE
          rw [tp_en_s (by omega) g3]
          exact tp_en_ge _ _ _ _
      · split at h
        · split at h <;> omega
        · omega
theorem tp_kd2 {c : Nat → Nat} {n e : Nat} (h : tp_kd c n e = 2) : tp_at c n e < n ∧ tp_st c n e = tp_dE c n e ∧ tp_dE c n e - tp_at c n e ≤ 3 ∧ tp_at c n e < tp_dE c n e ∧ (∀ j, tp_at c n e ≤ j → j < tp_dE c n e → 48 ≤ c j ∧ c j ≤ 57) := by
  unfold tp_kd at h
  unfold tp_st
  split at h
  · omega
  · next g =>
    rw [if_neg g]
    split at h
    · omega
    · next g2 =>
      rw [if_neg g2]
      split at h
      · split at h <;> omega
      · next g3 =>
        rw [if_neg g3]
        split at h
        · next g4 =>
          rw [if_pos g4]
          split at h
          · omega
          · refine ⟨by omega, rfl, by omega, ?_, fun j h1 h2 => of_decide_eq_true (tp_en_in h1 h2)⟩
            unfold tp_dE
            rw [tp_en_s (by omega) g4]
            exact tp_en_ge _ _ _ _
        · omega
theorem tp_wv_lt {c : Nat → Nat} {a : Nat} : ∀ {m : Nat}, (∀ j, a ≤ j → j < a + m → 97 ≤ c j ∧ c j ≤ 122) → tp_wv c a m < 27 ^ m
  | 0, _ => by
    rw [tp_wv]
    decide
  | m + 1, h => by
    have h1 := tp_wv_lt (c := c) (a := a) (m := m) (fun j h1 h2 => h j h1 (by omega))
    have h2 := h (a + m) (by omega) (by omega)
    rw [tp_wv, Nat.pow_succ]
    omega
theorem tp_nv_lt {c : Nat → Nat} {a : Nat} : ∀ {m : Nat}, (∀ j, a ≤ j → j < a + m → 48 ≤ c j ∧ c j ≤ 57) → tp_nv c a m < 10 ^ m
  | 0, _ => by
    rw [tp_nv]
    decide
  | m + 1, h => by
    have h1 := tp_nv_lt (c := c) (a := a) (m := m) (fun j h1 h2 => h j h1 (by omega))
    have h2 := h (a + m) (by omega) (by omega)
    rw [tp_nv, Nat.pow_succ]
    omega
theorem tp_v_lt {c : Nat → Nat} {n e : Nat} (h : tp_kd c n e = 1) : tp_v c n e < 2 ^ 40 := by
  obtain ⟨h1, h2, h3, h4, h5⟩ := tp_kd1 h
  have h6 : tp_v c n e < 27 ^ (tp_wE c n e - tp_at c n e) := tp_wv_lt (fun j g1 g2 => h5 j g1 (by omega))
  have h7 : 27 ^ (tp_wE c n e - tp_at c n e) ≤ 27 ^ 8 := Nat.pow_le_pow_right (by decide) h3
  have h8 : 27 ^ 8 < 2 ^ 40 := by decide
  omega
theorem tp_w_lt {c : Nat → Nat} {n e : Nat} (h : tp_kd c n e = 2) : tp_w c n e < 1000 := by
  obtain ⟨h1, h2, h3, h4, h5⟩ := tp_kd2 h
  have h6 : tp_w c n e < 10 ^ (tp_dE c n e - tp_at c n e) := tp_nv_lt (fun j g1 g2 => h5 j g1 (by omega))
  have h7 : 10 ^ (tp_dE c n e - tp_at c n e) ≤ 10 ^ 3 := Nat.pow_le_pow_right (by decide) h3
  omega
/-- the class -/
def tp_by (c : Nat → Nat) (n : Nat) (A : Nat → Nat → Int32) : Prop := n ≤ 900 ∧ ∀ j, j < n → c j < 256 ∧ A 1 j = (nI (c j)).toInt8.toInt32
theorem tp_byt {c : Nat → Nat} {n : Nat} {A : Nat → Nat → Int32} (h : tp_by c n A) {p : Nat} (hp : p < n) : g_X7_byteAt A (nI p) = some ((nI (c p)).toInt8.toInt32) := by
  unfold g_X7_byteAt
  have h1 := h.1
  rw [if_neg (nI_pos (by omega)), if_neg (show ¬ (900 : Int32) ≤ nI p from nI_ge (b := 900) (by omega) (by decide)), tm_ld (by omega) (by decide), Option.bind_some, (h.2 p hp).2]
theorem tp_byo {A : Nat → Nat → Int32} {p : Nat} (hp : p ≤ 900) : ∃ x, g_X7_byteAt A (nI p) = some x := by
  unfold g_X7_byteAt
  rw [if_neg (nI_pos (by omega))]
  by_cases h : p = 900
  · exact ⟨0, by rw [h, if_pos (by decide)]⟩
  · exact ⟨A 1 p, by rw [if_neg (show ¬ (900 : Int32) ≤ nI p from nI_ge (b := 900) (by omega) (by decide)), tm_ld (by omega) (by decide), Option.bind_some]⟩
theorem tp_c_let : ∀ x, x < 256 → g_X7_isLetter ((nI x).toInt8.toInt32) = tp_let x := by decide +kernel
theorem tp_c_dig : ∀ x, x < 256 → g_X7_isDigit ((nI x).toInt8.toInt32) = tp_dig x := by decide +kernel
theorem tp_c_bla : ∀ x, x < 256 → (((nI x).toInt8.toInt32 = (32 : Int32)) ↔ tp_bla x = true) := by decide +kernel
theorem tp_c_mrk : ∀ x, x < 256 → (((nI x).toInt8.toInt32 = (59 : Int32)) ↔ x = 59) := by decide +kernel
theorem tp_c_sm : ∀ x, x < 128 → (nI x).toInt8.toInt32 = nI x := by decide +kernel
theorem tp_skip9 {c : Nat → Nat} {n : Nat} {A : Nat → Nat → Int32} (hb : tp_by c n A) : ∀ d p m (I : Nat → Int32), n - p = d → d < m → p ≤ n → I 3201 = nI n → I 3203 = nI p → ∃ I1, g_X7_next_L1 A m I = some I1 ∧ I1 3203 = nI (tp_en tp_bla c n p) ∧ ∀ k, k ≠ 3203 → I1 k = I k := by
  have hn := hb.1
  intro d
  induction d with
  | zero =>
    intro p m I hd hm hp h1 h2
    obtain ⟨m, rfl⟩ : ∃ q, m = q + 1 := ⟨m - 1, by omega⟩
    refine ⟨I, ?_, ?_, fun _ _ => rfl⟩
    · rw [g_X7_next_L1, h1, h2, if_pos (nI_le (by omega) (by omega))]
    · rw [tp_en_e (by omega)]
      exact h2
  | succ d ih =>
    intro p m I hd hm hp h1 h2
    obtain ⟨m, rfl⟩ : ∃ q, m = q + 1 := ⟨m - 1, by omega⟩
    have hp2 : p < n := by omega
    rw [g_X7_next_L1, h1, h2, if_neg (nI_ge hp2 (by omega)), tp_byt hb hp2, Option.bind_some]
    by_cases g : tp_bla (c p) = true
    · rw [if_pos ((tp_c_bla _ (hb.2 p hp2).1).mpr g), ← nI_succ]
      obtain ⟨I1, e1, e2, e3⟩ := ih (p + 1) m (upd I 3203 (nI (p + 1))) (by omega) (by omega) (by omega) (by rw [tm_un _ (by decide)]; exact h1) (tm_us _ _ _)
      refine ⟨I1, e1, ?_, fun k hk => (e3 k hk).trans (tm_un _ hk)⟩
      rw [tp_en_s hp2 g]
      exact e2
    · rw [if_neg (fun q => g ((tp_c_bla _ (hb.2 p hp2).1).mp q))]
      refine ⟨I, rfl, ?_, fun _ _ => rfl⟩
      rw [tp_en_e (fun q => g q.2)]
      exact h2
theorem tp_word9L {c : Nat → Nat} {n : Nat} {A : Nat → Nat → Int32} (hb : tp_by c n A) {a : Nat} : ∀ d p k (I : Nat → Int32) (L : Nat → Int64), n - p = d → d < k → a ≤ p → p ≤ n → I 3201 = nI n → I 3203 = nI a → I 3204 = nI p → (p - a ≤ 8 → L 3206 = lN (tp_wv c a (p - a))) → ∃ I1 L1, g_X7_takeWord_L1 A k I L = some (I1, L1) ∧ I1 3204 = nI (tp_en tp_let c n p) ∧ (∀ k, k ≠ 3204 → I1 k = I k) ∧ (tp_en tp_let c n p - a ≤ 8 → L1 3206 = lN (tp_wv c a (tp_en tp_let c n p - a))) := by
  have hn := hb.1
  intro d
  induction d with
  | zero =>
    intro p m I L hd hm ha hp h1 h2 h3 h4
    obtain ⟨m, rfl⟩ : ∃ q, m = q + 1 := ⟨m - 1, by omega⟩
    refine ⟨I, L, ?_, ?_, fun _ _ => rfl, ?_⟩
    · rw [g_X7_takeWord_L1, h1, h3, if_pos (nI_le (by omega) (by omega))]
    · rw [tp_en_e (by omega)]
      exact h3
    · rw [tp_en_e (by omega)]
      exact h4
  | succ d ih =>
    intro p m I L hd hm ha hp h1 h2 h3 h4
    obtain ⟨m, rfl⟩ : ∃ q, m = q + 1 := ⟨m - 1, by omega⟩
    have hp2 : p < n := by omega
    have hc := (hb.2 p hp2).1
    rw [g_X7_takeWord_L1, h1, h2, h3, if_neg (nI_ge hp2 (by omega)), tp_byt hb hp2, Option.bind_some]
    by_cases g : tp_let (c p) = true
    · have g2 := of_decide_eq_true g
      rw [if_pos ((tp_c_let _ hc).trans g), pk_sub ha, ← nI_succ, Option.bind_some]
      by_cases g8 : p - a < 8
      · rw [if_neg (show ¬ (8 : Int32) ≤ nI (p - a) from nI_ge (b := 8) g8 (by decide)), Option.bind_some, tp_c_sm _ (by omega), nI_l (by omega), h4 (by omega)]
        obtain ⟨I1, L1, e1, e2, e3, e4⟩ := ih (p + 1) m (upd I 3204 (nI (p + 1))) (vp_updL L 3206 (lN (tp_wv c a (p + 1 - a)))) (by omega) (by omega) (by omega) (by omega) (by rw [tm_un _ (by decide)]; exact h1) (by rw [tm_un _ (by decide)]; exact h2) (tm_us _ _ _) (fun _ => if_pos rfl)
        refine ⟨I1, L1, ?_, ?_, fun k hk => (e3 k hk).trans (tm_un _ hk), ?_⟩
        · rw [← e1]
          congr 2
          rw [show (27 : Int64) = lN 27 from rfl, show (97 : Int64) = lN 97 from rfl, show (1 : Int64) = lN 1 from rfl, lN_mul, lN_add, lN_sub (by omega), lN_add, show p + 1 - a = (p - a) + 1 by omega, tp_wv, show a + (p - a) = p by omega]
          congr 1
          omega
        · rw [tp_en_s hp2 g]
          exact e2
        · rw [tp_en_s hp2 g]
          exact e4
      · rw [if_pos (show (8 : Int32) ≤ nI (p - a) from nI_le (a := 8) (by omega) (by omega)), Option.bind_some]
        obtain ⟨I1, L1, e1, e2, e3, e4⟩ := ih (p + 1) m (upd I 3204 (nI (p + 1))) L (by omega) (by omega) (by omega) (by omega) (by rw [tm_un _ (by decide)]; exact h1) (by rw [tm_un _ (by decide)]; exact h2) (tm_us _ _ _) (fun q => by omega)
        refine ⟨I1, L1, e1, ?_, fun k hk => (e3 k hk).trans (tm_un _ hk), ?_⟩
        · rw [tp_en_s hp2 g]
          exact e2
        · rw [tp_en_s hp2 g]
          exact e4
    · rw [if_neg (fun q => g ((tp_c_let _ hc).symm.trans q))]
      refine ⟨I, L, rfl, ?_, fun _ _ => rfl, ?_⟩
      · rw [tp_en_e (fun q => g q.2)]
        exact h3
      · rw [tp_en_e (fun q => g q.2)]
        exact h4
theorem tp_whol9L {c : Nat → Nat} {n : Nat} {A : Nat → Nat → Int32} (hb : tp_by c n A) {a : Nat} : ∀ d p k (I : Nat → Int32) (L : Nat → Int64), n - p = d → d < k → a ≤ p → p ≤ n → I 3201 = nI n → I 3203 = nI a → I 3204 = nI p → (p - a ≤ 3 → L 3206 = lN (tp_nv c a (p - a))) → ∃ I1 L1, g_X7_takeWhole_L1 A k I L = some (I1, L1) ∧ I1 3204 = nI (tp_en tp_dig c n p) ∧ (∀ k, k ≠ 3204 → I1 k = I k) ∧ (tp_en tp_dig c n p - a ≤ 3 → L1 3206 = lN (tp_nv c a (tp_en tp_dig c n p - a))) := by
  have hn := hb.1
  intro d
  induction d with
  | zero =>
    intro p m I L hd hm ha hp h1 h2 h3 h4
    obtain ⟨m, rfl⟩ : ∃ q, m = q + 1 := ⟨m - 1, by omega⟩
    refine ⟨I, L, ?_, ?_, fun _ _ => rfl, ?_⟩
    · rw [g_X7_takeWhole_L1, h1, h3, if_pos (nI_le (by omega) (by omega))]
    · rw [tp_en_e (by omega)]
      exact h3
    · rw [tp_en_e (by omega)]
      exact h4
  | succ d ih =>
    intro p m I L hd hm ha hp h1 h2 h3 h4
    obtain ⟨m, rfl⟩ : ∃ q, m = q + 1 := ⟨m - 1, by omega⟩
    have hp2 : p < n := by omega
    have hc := (hb.2 p hp2).1
    rw [g_X7_takeWhole_L1, h1, h2, h3, if_neg (nI_ge hp2 (by omega)), tp_byt hb hp2, Option.bind_some]
    by_cases g : tp_dig (c p) = true
    · have g2 := of_decide_eq_true g
      rw [if_pos ((tp_c_dig _ hc).trans g), pk_sub ha, ← nI_succ, Option.bind_some]
      by_cases g8 : p - a < 3
      · rw [if_neg (show ¬ (3 : Int32) ≤ nI (p - a) from nI_ge (b := 3) g8 (by decide)), Option.bind_some, tp_c_sm _ (by omega), nI_l (by omega), h4 (by omega)]
        obtain ⟨I1, L1, e1, e2, e3, e4⟩ := ih (p + 1) m (upd I 3204 (nI (p + 1))) (vp_updL L 3206 (lN (tp_nv c a (p + 1 - a)))) (by omega) (by omega) (by omega) (by omega) (by rw [tm_un _ (by decide)]; exact h1) (by rw [tm_un _ (by decide)]; exact h2) (tm_us _ _ _) (fun _ => if_pos rfl)
        refine ⟨I1, L1, ?_, ?_, fun k hk => (e3 k hk).trans (tm_un _ hk), ?_⟩
        · rw [← e1]
          congr 2
          rw [show (10 : Int64) = lN 10 from rfl, show (48 : Int64) = lN 48 from rfl, lN_mul, lN_add, lN_sub (by omega), show p + 1 - a = (p - a) + 1 by omega, tp_nv, show a + (p - a) = p by omega]
        · rw [tp_en_s hp2 g]
          exact e2
        · rw [tp_en_s hp2 g]
          exact e4
      · rw [if_pos (show (3 : Int32) ≤ nI (p - a) from nI_le (a := 3) (by omega) (by omega)), Option.bind_some]
        obtain ⟨I1, L1, e1, e2, e3, e4⟩ := ih (p + 1) m (upd I 3204 (nI (p + 1))) L (by omega) (by omega) (by omega) (by omega) (by rw [tm_un _ (by decide)]; exact h1) (by rw [tm_un _ (by decide)]; exact h2) (tm_us _ _ _) (fun q => by omega)
        refine ⟨I1, L1, e1, ?_, fun k hk => (e3 k hk).trans (tm_un _ hk), ?_⟩
        · rw [tp_en_s hp2 g]
          exact e2
        · rw [tp_en_s hp2 g]
          exact e4
    · rw [if_neg (fun q => g ((tp_c_dig _ hc).symm.trans q))]
      refine ⟨I, L, rfl, ?_, fun _ _ => rfl, ?_⟩
      · rw [tp_en_e (fun q => g q.2)]
        exact h3
      · rw [tp_en_e (fun q => g q.2)]
        exact h4
/-- the class stands at the token behind e -/
def tp_T9 (c : Nat → Nat) (n : Nat) (I : Nat → Int32) (L : Nat → Int64) (A : Nat → Nat → Int32) (e : Nat) : Prop := tp_by c n A ∧ e ≤ n ∧ I 3201 = nI n ∧ I 3203 = nI (tp_at c n e) ∧ I 3205 = nI (tp_kd c n e) ∧ (tp_kd c n e ≠ 4 → I 3204 = nI (tp_st c n e)) ∧ (tp_kd c n e = 1 → L 3206 = lN (tp_v c n e)) ∧ (tp_kd c n e = 2 → L 3206 = lN (tp_w c n e))
def tp_fr9 (I I1 : Nat → Int32) : Prop := ∀ k, (k < 3202 ∨ 3205 < k) → I1 k = I k
theorem tp_nx9 {c : Nat → Nat} {n : Nat} {A : Nat → Nat → Int32} (hb : tp_by c n A) {e : Nat} (he : e ≤ n) {I : Nat → Int32} (L : Nat → Int64) (h1 : I 3201 = nI n) (h4 : I 3204 = nI e) : ∃ I1 L1, g_X7_next I L A = some (I1, L1) ∧ tp_T9 c n I1 L1 A e ∧ I1 3202 = I 3203 ∧ tp_fr9 I I1 := by
  have hn := hb.1
  obtain ⟨I1, a1, a2, a3⟩ := tp_skip9 hb (n - e) e 4096 (upd (upd I 3202 (I 3203)) 3203 (I 3204)) rfl (by omega) he (by rw [tm_un _ (by decide), tm_un _ (by decide)]; exact h1) (by rw [tm_us]; exact h4)
  have i1 : I1 3201 = nI n := by rw [a3 3201 (by decide), tm_un _ (by decide), tm_un _ (by decide)]; exact h1
  have i2 : I1 3202 = I 3203 := by rw [a3 3202 (by decide), tm_un _ (by decide), tm_us]
  have i3 : I1 3203 = nI (tp_at c n e) := a2
  have fr : ∀ k, k ≠ 3202 → k ≠ 3203 → I1 k = I k := fun k k1 k2 => by rw [a3 k k2, tm_un _ k2, tm_un _ k1]
  have ha := tp_at_le (c := c) he
  have e0 : g_X7_next I L A = (g_X7_byteAt A (I1 3203)).bind fun x6 => if (I1 3203) < (I1 3201) then (if x6 = (59 : Int32) then (some ((upd (upd (upd I1 3204 (I1 3203)) 3205 (3 : Int32)) 3204 ((I1 3203) + (1 : Int32))), L)) else (if (g_X7_isLetter x6) = true then ((g_X7_takeWord (upd I1 3204 (I1 3203)) L A).bind fun (I11, L12) => some (I11, L12)) else (if (g_X7_isDigit x6) = true then ((g_X7_takeWhole (upd I1 3204 (I1 3203)) L A).bind fun (I15, L16) => some (I15, L16)) else (some ((upd (upd I1 3204 (I1 3203)) 3205 (4 : Int32)), L))))) else (some ((upd (upd I1 3204 (I1 3203)) 3205 (0 : Int32)), L)) := by
    unfold g_X7_next
    rw [a1, Option.bind_some]
  rw [e0, i3, i1]
  by_cases g0 : n ≤ tp_at c n e
  · obtain ⟨x, hx⟩ := tp_byo (A := A) (p := tp_at c n e) (by omega)
    rw [hx, Option.bind_some, if_neg (nI_nlt g0 (by omega))]
    have k0 : tp_kd c n e = 0 := if_pos g0
    refine ⟨_, _, rfl, ⟨hb, he, ?_, ?_, ?_, fun _ => ?_, fun q => by omega, fun q => by omega⟩, ?_, fun k hk => ?_⟩
    · rw [tm_un _ (by decide), tm_un _ (by decide)]; exact i1
    · rw [tm_un _ (by decide), tm_un _ (by decide)]; exact i3
    · rw [tm_us, k0]; rfl
    · rw [tm_un _ (by decide), tm_us]
      unfold tp_st
      rw [if_pos g0]
    · rw [tm_un _ (by decide), tm_un _ (by decide)]; exact i2
    · rw [tm_un _ (by omega), tm_un _ (by omega)]; exact fr k (by omega) (by omega)
  · have g0' : tp_at c n e < n := by omega
    have hc := (hb.2 _ g0').1
    rw [tp_byt hb g0', Option.bind_some, if_pos (nI_lt g0' (by omega))]
    by_cases g1 : c (tp_at c n e) = 59
    · rw [if_pos ((tp_c_mrk _ hc).mpr g1), ← nI_succ]
      have k0 : tp_kd c n e = 3 := by unfold tp_kd; rw [if_neg g0, if_pos g1]
      refine ⟨_, _, rfl, ⟨hb, he, ?_, ?_, ?_, fun _ => ?_, fun q => by omega, fun q => by omega⟩, ?_, fun k hk => ?_⟩
      · rw [tm_un _ (by decide), tm_un _ (by decide), tm_un _ (by decide)]; exact i1
      · rw [tm_un _ (by decide), tm_un _ (by decide), tm_un _ (by decide)]; exact i3
      · rw [tm_un _ (by decide), tm_us, k0]; rfl
      · rw [tm_us]
        unfold tp_st
        rw [if_neg g0, if_pos g1]
      · rw [tm_un _ (by decide), tm_un _ (by decide), tm_un _ (by decide)]; exact i2
      · rw [tm_un _ (by omega), tm_un _ (by omega), tm_un _ (by omega)]; exact fr k (by omega) (by omega)
    · rw [if_neg (fun q => g1 ((tp_c_mrk _ hc).mp q)), tp_c_let _ hc]
      by_cases g2 : tp_let (c (tp_at c n e)) = true
      · rw [if_pos g2]
        obtain ⟨I2, L2, b1, b2, b3, b4⟩ := tp_word9L hb (a := tp_at c n e) (n - tp_at c n e) (tp_at c n e) 4096 (upd I1 3204 (nI (tp_at c n e))) (vp_updL L 3206 (0 : Int64)) rfl (by omega) (Nat.le_refl _) ha (by rw [tm_un _ (by decide)]; exact i1) (by rw [tm_un _ (by decide)]; exact i3) (tm_us _ _ _) (fun _ => by rw [Nat.sub_self]; exact if_pos rfl)
        have hw : tp_en tp_let c n (tp_at c n e) = tp_wE c n e := rfl
        rw [hw] at b2 b4
        have hwe : tp_wE c n e ≤ n := tp_en_le ha
        have hwa : tp_at c n e ≤ tp_wE c n e := tp_en_ge _ _ _ _
        have b5 : I2 3203 = nI (tp_at c n e) := by rw [b3 3203 (by decide), tm_un _ (by decide)]; exact i3
        unfold g_X7_takeWord
        rw [b1, Option.bind_some]
        dsimp only
        rw [b2, b5, pk_sub hwa]
        have st : tp_st c n e = tp_wE c n e := by unfold tp_st; rw [if_neg g0, if_neg g1, if_pos g2]
        by_cases g3 : 8 < tp_wE c n e - tp_at c n e
        · rw [if_pos (show (8 : Int32) < nI _ from nI_lt (a := 8) g3 (by omega)), Option.bind_some, Option.bind_some]
          have k0 : tp_kd c n e = 4 := by unfold tp_kd; rw [if_neg g0, if_neg g1, if_pos g2, if_pos g3]
          refine ⟨upd I2 3205 4, L2, rfl, ⟨hb, he, ?_, ?_, ?_, fun q => absurd k0 q, fun q => by omega, fun q => by omega⟩, ?_, fun k hk => ?_⟩
          · rw [tm_un _ (by decide), b3 _ (by decide), tm_un _ (by decide)]; exact i1
          · rw [tm_un _ (by decide)]; exact b5
          · rw [tm_us, k0]; rfl
          · rw [tm_un _ (by decide), b3 _ (by decide), tm_un _ (by decide)]; exact i2
          · rw [tm_un _ (by omega), b3 _ (by omega), tm_un _ (by omega)]; exact fr k (by omega) (by omega)
        · rw [if_neg (show ¬ (8 : Int32) < nI _ from nI_nlt (b := tp_wE c n e - tp_at c n e) (a := 8) (by omega) (by decide)), Option.bind_some, Option.bind_some]
          have k0 : tp_kd c n e = 1 := by unfold tp_kd; rw [if_neg g0, if_neg g1, if_pos g2, if_neg g3]
          refine ⟨upd I2 3205 1, L2, rfl, ⟨hb, he, ?_, ?_, ?_, fun q => ?_, fun q => b4 (by omega), fun q => by omega⟩, ?_, fun k hk => ?_⟩
          · rw [tm_un _ (by decide), b3 _ (by decide), tm_un _ (by decide)]; exact i1
          · rw [tm_un _ (by decide)]; exact b5
          · rw [tm_us, k0]; rfl
          · rw [tm_un _ (by decide), st]; exact b2
          · rw [tm_un _ (by decide), b3 _ (by decide), tm_un _ (by decide)]; exact i2
          · rw [tm_un _ (by omega), b3 _ (by omega), tm_un _ (by omega)]; exact fr k (by omega) (by omega)
      · rw [if_neg g2, tp_c_dig _ hc]
        by_cases g4 : tp_dig (c (tp_at c n e)) = true
        · rw [if_pos g4]
          obtain ⟨I2, L2, b1, b2, b3, b4⟩ := tp_whol9L hb (a := tp_at c n e) (n - tp_at c n e) (tp_at c n e) 4096 (upd I1 3204 (nI (tp_at c n e))) (vp_updL L 3206 (0 : Int64)) rfl (by omega) (Nat.le_refl _) ha (by rw [tm_un _ (by decide)]; exact i1) (by rw [tm_un _ (by decide)]; exact i3) (tm_us _ _ _) (fun _ => by rw [Nat.sub_self]; exact if_pos rfl)
          have hw : tp_en tp_dig c n (tp_at c n e) = tp_dE c n e := rfl
          rw [hw] at b2 b4
          have hwe : tp_dE c n e ≤ n := tp_en_le ha
          have hwa : tp_at c n e ≤ tp_dE c n e := tp_en_ge _ _ _ _
          have b5 : I2 3203 = nI (tp_at c n e) := by rw [b3 3203 (by decide), tm_un _ (by decide)]; exact i3
          unfold g_X7_takeWhole
          rw [b1, Option.bind_some]
          dsimp only
          rw [b2, b5, pk_sub hwa]
          have st : tp_st c n e = tp_dE c n e := by unfold tp_st; rw [if_neg g0, if_neg g1, if_neg g2, if_pos g4]
          by_cases g3 : 3 < tp_dE c n e - tp_at c n e
          · rw [if_pos (show (3 : Int32) < nI _ from nI_lt (a := 3) g3 (by omega)), Option.bind_some, Option.bind_some]
            have k0 : tp_kd c n e = 4 := by unfold tp_kd; rw [if_neg g0, if_neg g1, if_neg g2, if_pos g4, if_pos g3]
            refine ⟨upd I2 3205 4, L2, rfl, ⟨hb, he, ?_, ?_, ?_, fun q => absurd k0 q, fun q => by omega, fun q => by omega⟩, ?_, fun k hk => ?_⟩
            · rw [tm_un _ (by decide), b3 _ (by decide), tm_un _ (by decide)]; exact i1
            · rw [tm_un _ (by decide)]; exact b5
            · rw [tm_us, k0]; rfl
            · rw [tm_un _ (by decide), b3 _ (by decide), tm_un _ (by decide)]; exact i2
            · rw [tm_un _ (by omega), b3 _ (by omega), tm_un _ (by omega)]; exact fr k (by omega) (by omega)
          · rw [if_neg (show ¬ (3 : Int32) < nI _ from nI_nlt (b := tp_dE c n e - tp_at c n e) (a := 3) (by omega) (by decide)), Option.bind_some, Option.bind_some]
            have k0 : tp_kd c n e = 2 := by unfold tp_kd; rw [if_neg g0, if_neg g1, if_neg g2, if_pos g4, if_neg g3]
            refine ⟨upd I2 3205 2, L2, rfl, ⟨hb, he, ?_, ?_, ?_, fun q => ?_, fun q => by omega, fun q => b4 (by omega)⟩, ?_, fun k hk => ?_⟩
            · rw [tm_un _ (by decide), b3 _ (by decide), tm_un _ (by decide)]; exact i1
            · rw [tm_un _ (by decide)]; exact b5
            · rw [tm_us, k0]; rfl
            · rw [tm_un _ (by decide), st]; exact b2
            · rw [tm_un _ (by decide), b3 _ (by decide), tm_un _ (by decide)]; exact i2
            · rw [tm_un _ (by omega), b3 _ (by omega), tm_un _ (by omega)]; exact fr k (by omega) (by omega)
        · rw [if_neg g4]
          have k0 : tp_kd c n e = 4 := by unfold tp_kd; rw [if_neg g0, if_neg g1, if_neg g2, if_neg g4]
          refine ⟨_, _, rfl, ⟨hb, he, ?_, ?_, ?_, fun q => absurd k0 q, fun q => by omega, fun q => by omega⟩, ?_, fun k hk => ?_⟩
          · rw [tm_un _ (by decide), tm_un _ (by decide)]; exact i1
          · rw [tm_un _ (by decide), tm_un _ (by decide)]; exact i3
          · rw [tm_us, k0]; rfl
          · rw [tm_un _ (by decide), tm_un _ (by decide)]; exact i2
          · rw [tm_un _ (by omega), tm_un _ (by omega)]; exact fr k (by omega) (by omega)
theorem tp_nxt9 {c : Nat → Nat} {n : Nat} {A : Nat → Nat → Int32} {e : Nat} {I : Nat → Int32} {L : Nat → Int64} (h : tp_T9 c n I L A e) (hk : tp_kd c n e ≠ 4) : ∃ I1 L1, g_X7_next I L A = some (I1, L1) ∧ tp_T9 c n I1 L1 A (tp_st c n e) ∧ I1 3202 = nI (tp_at c n e) ∧ tp_fr9 I I1 := by
  obtain ⟨hb, he, h1, h3, h5, h4, _⟩ := h
  obtain ⟨I1, L1, a1, a2, a3, a4⟩ := tp_nx9 hb (tp_st_le he) L h1 (h4 hk)
  exact ⟨I1, L1, a1, a2, a3.trans h3, a4⟩
