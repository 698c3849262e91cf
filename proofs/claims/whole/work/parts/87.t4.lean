/-! MATHEMATICS, 38: the reference's walk over the tokens -/
def tp_by10 (c : Nat → Nat) (n : Nat) (A : Nat → Nat → Int32) : Prop := n ≤ 900 ∧ ∀ j, j < n → c j < 256 ∧ A 45 j = nI (c j)
theorem tp_see {c : Nat → Nat} {n : Nat} {I : Nat → Int32} {A : Nat → Nat → Int32} (hb : tp_by10 c n A) (h : I 4403 = nI n) {p : Nat} (hp : p < n) : g_X10_see I A (nI p) = some (nI (c p)) := by
  have h1 := hb.1
  unfold g_X10_see
  rw [h, if_neg (nI_ge hp (by omega)), tm_ld (by omega) (by decide), Option.bind_some, (hb.2 p hp).2]
theorem tp_seeE {n : Nat} {I : Nat → Int32} {A : Nat → Nat → Int32} (hn : n ≤ 900) (h : I 4403 = nI n) {p : Nat} (hp : n ≤ p) (hp2 : p < 2 ^ 31) : g_X10_see I A (nI p) = some (-1 : Int32) := by
  unfold g_X10_see
  rw [h, if_pos (nI_le hp hp2)]
theorem tp_r_let : ∀ x, x < 256 → g_X10_isSmall (nI x) = tp_let x := by decide +kernel
theorem tp_r_dig : ∀ x, x < 256 → g_X10_isDigit (nI x) = tp_dig x := by decide +kernel
theorem tp_m1l : g_X10_isSmall (-1 : Int32) = false := by decide +kernel
theorem tp_m1d : g_X10_isDigit (-1 : Int32) = false := by decide +kernel
theorem tp_skip10 {c : Nat → Nat} {n : Nat} {I : Nat → Int32} {A : Nat → Nat → Int32} (hb : tp_by10 c n A) (h : I 4403 = nI n) : ∀ d p m, n - p = d → d < m → p ≤ n → g_X10_next_L1 I A m (nI p) = some (nI (tp_en tp_bla c n p)) := by
  have hn := hb.1
  intro d
  induction d with
  | zero =>
    intro p m hd hm hp
    obtain ⟨m, rfl⟩ : ∃ q, m = q + 1 := ⟨m - 1, by omega⟩
    rw [g_X10_next_L1, tp_seeE hn h (by omega) (by omega), Option.bind_some, if_neg (by decide), tp_en_e (by omega)]
  | succ d ih =>
    intro p m hd hm hp
    obtain ⟨m, rfl⟩ : ∃ q, m = q + 1 := ⟨m - 1, by omega⟩
    have hp2 : p < n := by omega
    have hc := (hb.2 p hp2).1
    rw [g_X10_next_L1, tp_see hb h hp2, Option.bind_some]
    by_cases g : tp_bla (c p) = true
    · rw [if_pos (by rw [of_decide_eq_true g]; rfl), ← nI_succ, tp_en_s hp2 g]
      exact ih (p + 1) m (by omega) (by omega) (by omega)
    · rw [if_neg (show ¬ nI (c p) = (32 : Int32) from fun q => g (decide_eq_true ((nI_eq (b := 32) (by omega) (by decide)).mp q))), tp_en_e (fun q => g q.2)]
theorem tp_word10L {c : Nat → Nat} {n a : Nat} : ∀ d p m (I : Nat → Int32) (A : Nat → Nat → Int32), tp_by10 c n A → I 4403 = nI n → n - p = d → d < m → a ≤ p → p ≤ n → I 4408 = nI (p - a) → (∀ j, j < p - a → j < 8 → A 46 j = nI (c (a + j))) → ∃ I1 A1, g_X10_next_L2 m (nI p) I A = some (nI (tp_en tp_let c n p), I1, A1) ∧ I1 4408 = nI (tp_en tp_let c n p - a) ∧ (∀ k, k ≠ 4408 → I1 k = I k) ∧ (∀ k, k ≠ 46 → A1 k = A k) ∧ ∀ j, j < tp_en tp_let c n p - a → j < 8 → A1 46 j = nI (c (a + j)) := by
  intro d
  induction d with
  | zero =>
    intro p m I A hb h hd hm ha hp h1 h2
    have hn := hb.1
    obtain ⟨m, rfl⟩ : ∃ q, m = q + 1 := ⟨m - 1, by omega⟩
    refine ⟨I, A, ?_, ?_, fun _ _ => rfl, fun _ _ => rfl, ?_⟩
    · rw [g_X10_next_L2, tp_seeE hn h (by omega) (by omega), Option.bind_some, tp_m1l, if_neg (by decide), tp_en_e (by omega)]
    · rw [tp_en_e (by omega)]; exact h1
    · rw [tp_en_e (by omega)]; exact h2
  | succ d ih =>
    intro p m I A hb h hd hm ha hp h1 h2
    have hn := hb.1
    obtain ⟨m, rfl⟩ : ∃ q, m = q + 1 := ⟨m - 1, by omega⟩
    have hp2 : p < n := by omega
    have hc := (hb.2 p hp2).1
    rw [g_X10_next_L2, tp_see hb h hp2, Option.bind_some, tp_r_let _ hc]
    by_cases g : tp_let (c p) = true
    · rw [if_pos g, h1, ← nI_succ, ← nI_succ, tp_en_s hp2 g]
      have e1 : p - a + 1 = p + 1 - a := by omega
      by_cases g8 : p - a < 8
      · rw [if_neg (show ¬ (8 : Int32) ≤ nI (p - a) from nI_ge (b := 8) g8 (by decide)), Option.bind_some, tm_st g8 (by decide), Option.bind_some, Option.bind_some, e1]
        obtain ⟨I1, A1, a1, a2, a3, a4, a5⟩ := ih (p + 1) m (upd I 4408 (nI (p + 1 - a))) (va_up A 46 (upd (A 46) (p - a) (nI (c p)))) ⟨hn, fun j hj => by rw [tm_vn _ (by decide)]; exact hb.2 j hj⟩ (by rw [tm_un _ (by decide)]; exact h) (by omega) (by omega) (by omega) (by omega) (tm_us _ _ _) (fun j j1 j2 => by
          rw [tm_vs]
          by_cases q : j = p - a
          · rw [q, tm_us, show a + (p - a) = p by omega]
          · rw [tm_un _ q]
            exact h2 j (by omega) j2)
        exact ⟨I1, A1, a1, a2, fun k hk => (a3 k hk).trans (tm_un _ hk), fun k hk => (a4 k hk).trans (tm_vn _ hk), a5⟩
      · rw [if_pos (show (8 : Int32) ≤ nI (p - a) from nI_le (a := 8) (by omega) (by omega)), Option.bind_some, e1]
        obtain ⟨I1, A1, a1, a2, a3, a4, a5⟩ := ih (p + 1) m (upd I 4408 (nI (p + 1 - a))) A hb (by rw [tm_un _ (by decide)]; exact h) (by omega) (by omega) (by omega) (by omega) (tm_us _ _ _) (fun j j1 j2 => h2 j (by omega) j2)
        exact ⟨I1, A1, a1, a2, fun k hk => (a3 k hk).trans (tm_un _ hk), a4, a5⟩
    · rw [if_neg g, tp_en_e (fun q => g q.2)]
      exact ⟨I, A, rfl, h1, fun _ _ => rfl, fun _ _ => rfl, h2⟩
theorem tp_whol10L {c : Nat → Nat} {n a : Nat} {A : Nat → Nat → Int32} (hb : tp_by10 c n A) : ∀ d p m (I : Nat → Int32), I 4403 = nI n → n - p = d → d < m → a ≤ p → p ≤ n → (p - a ≤ 3 → I 4407 = nI (tp_nv c a (p - a))) → ∃ I1, g_X10_next_L3 A m (nI p) (nI (p - a)) I = some (nI (tp_en tp_dig c n p), nI (tp_en tp_dig c n p - a), I1) ∧ (∀ k, k ≠ 4407 → I1 k = I k) ∧ (tp_en tp_dig c n p - a ≤ 3 → I1 4407 = nI (tp_nv c a (tp_en tp_dig c n p - a))) := by
  have hn := hb.1
  intro d
  induction d with
  | zero =>
    intro p m I h hd hm ha hp h2
    obtain ⟨m, rfl⟩ : ∃ q, m = q + 1 := ⟨m - 1, by omega⟩
    refine ⟨I, ?_, fun _ _ => rfl, ?_⟩
    · rw [g_X10_next_L3, tp_seeE hn h (by omega) (by omega), Option.bind_some, tp_m1d, if_neg (by decide), tp_en_e (by omega)]
    · rw [tp_en_e (by omega)]; exact h2
  | succ d ih =>
    intro p m I h hd hm ha hp h2
    obtain ⟨m, rfl⟩ : ∃ q, m = q + 1 := ⟨m - 1, by omega⟩
    have hp2 : p < n := by omega
    have hc := (hb.2 p hp2).1
    rw [g_X10_next_L3, tp_see hb h hp2, Option.bind_some, tp_r_dig _ hc]
    by_cases g : tp_dig (c p) = true
    · have g2 := of_decide_eq_true g
      rw [if_pos g, ← nI_succ, ← nI_succ, tp_en_s hp2 g]
      have e1 : p - a + 1 = p + 1 - a := by omega
      by_cases g8 : p - a < 3
      · rw [if_neg (show ¬ (3 : Int32) ≤ nI (p - a) from nI_ge (b := 3) g8 (by decide)), Option.bind_some, Option.bind_some, e1]
        have e2 : ((10 : Int32) * (I 4407)) + nI (c p) - (48 : Int32) = nI (tp_nv c a (p + 1 - a)) := by
          rw [h2 (by omega), show (10 : Int32) = nI 10 from rfl, show (48 : Int32) = nI 48 from rfl, pk_mul, nI_add, pk_sub (by omega), ← e1, tp_nv, show a + (p - a) = p by omega, Nat.mul_comm]
        rw [e2]
        obtain ⟨I1, a1, a2, a3⟩ := ih (p + 1) m (upd I 4407 (nI (tp_nv c a (p + 1 - a)))) (by rw [tm_un _ (by decide)]; exact h) (by omega) (by omega) (by omega) (by omega) (fun _ => tm_us _ _ _)
        exact ⟨I1, a1, fun k hk => (a2 k hk).trans (tm_un _ hk), a3⟩
      · rw [if_pos (show (3 : Int32) ≤ nI (p - a) from nI_le (a := 3) (by omega) (by omega)), Option.bind_some, e1]
        exact ih (p + 1) m I h (by omega) (by omega) (by omega) (by omega) (fun q => by omega)
    · rw [if_neg g, tp_en_e (fun q => g q.2)]
      exact ⟨I, rfl, fun _ _ => rfl, h2⟩
def tp_rk (k : Nat) : Nat := if k = 0 then 0 else if k = 1 then 2 else if k = 2 then 3 else if k = 3 then 59 else 1
theorem tp_rk60 (k : Nat) : tp_rk k < 60 := by
  unfold tp_rk
  repeat' split
  all_goals omega
/-- the reference stands at the token behind e -/
def tp_T10 (c : Nat → Nat) (n : Nat) (I : Nat → Int32) (A : Nat → Nat → Int32) (e : Nat) : Prop := tp_by10 c n A ∧ e ≤ n ∧ I 4403 = nI n ∧ I 4404 = nI (tp_at c n e) ∧ I 4406 = nI (tp_rk (tp_kd c n e)) ∧ (tp_kd c n e ≠ 4 → I 4405 = nI (tp_st c n e)) ∧ (tp_kd c n e = 1 → I 4408 = nI (tp_wE c n e - tp_at c n e) ∧ ∀ j, j < tp_wE c n e - tp_at c n e → A 46 j = nI (c (tp_at c n e + j))) ∧ (tp_kd c n e = 2 → I 4407 = nI (tp_w c n e))
def tp_g10 (I I1 : Nat → Int32) : Prop := ∀ k, (k < 4404 ∨ 4408 < k) → I1 k = I k
theorem tp_nx10 {c : Nat → Nat} {n : Nat} {A : Nat → Nat → Int32} (hb : tp_by10 c n A) {e : Nat} (he : e ≤ n) {I : Nat → Int32} (h1 : I 4403 = nI n) (h4 : I 4405 = nI e) : ∃ I1 A1, g_X10_next I A = some (I1, A1) ∧ tp_T10 c n I1 A1 e ∧ tp_g10 I I1 ∧ ∀ d, d ≠ 46 → A1 d = A d := by
  have hn := hb.1
  have ha := tp_at_le (c := c) he
  unfold g_X10_next
  rw [h4, tp_skip10 hb h1 (n - e) e 4096 rfl (by omega) he, Option.bind_some, show tp_en tp_bla c n e = tp_at c n e from rfl]
  have h1' : (upd I 4404 (nI (tp_at c n e))) 4403 = nI n := by rw [tm_un _ (by decide)]; exact h1
  by_cases g0 : n ≤ tp_at c n e
  · rw [tp_seeE hn h1' g0 (by omega), Option.bind_some, if_pos rfl]
    have k0 : tp_kd c n e = 0 := if_pos g0
    refine ⟨_, _, rfl, ⟨hb, he, ?_, ?_, ?_, fun _ => ?_, fun q => by omega, fun q => by omega⟩, fun k hk => ?_, fun _ _ => rfl⟩
    · rw [tm_un _ (by decide), tm_un _ (by decide), tm_un _ (by decide), tm_un _ (by decide), tm_un _ (by decide)]; exact h1
    · rw [tm_un _ (by decide), tm_un _ (by decide), tm_un _ (by decide), tm_un _ (by decide), tm_us]
    · rw [tm_un _ (by decide), tm_us, k0]; rfl
    · rw [tm_us]
      unfold tp_st
      rw [if_pos g0]
    · rw [tm_un _ (by omega), tm_un _ (by omega), tm_un _ (by omega), tm_un _ (by omega), tm_un _ (by omega)]
  · have g0' : tp_at c n e < n := by omega
    have hc := (hb.2 _ g0').1
    rw [tp_see hb h1' g0', Option.bind_some, if_neg (tm_nm1 (by omega)), tp_r_let _ hc]
    by_cases g2 : tp_let (c (tp_at c n e)) = true
    · have g1 : ¬ c (tp_at c n e) = 59 := fun q => by rw [q] at g2; exact absurd g2 (by decide)
      rw [if_pos g2]
      obtain ⟨I2, A2, b1, b2, b3, b4, b5⟩ := tp_word10L (a := tp_at c n e) (n - tp_at c n e) (tp_at c n e) 4096 (upd (upd (upd I 4404 (nI (tp_at c n e))) 4408 (0 : Int32)) 4407 (0 : Int32)) A hb (by rw [tm_un _ (by decide), tm_un _ (by decide), tm_un _ (by decide)]; exact h1) rfl (by omega) (Nat.le_refl _) ha (by rw [tm_un _ (by decide), tm_us, Nat.sub_self]; rfl) (fun j hj => by omega)
      have hw : tp_en tp_let c n (tp_at c n e) = tp_wE c n e := rfl
      rw [hw] at b1 b2 b5
      have hwe : tp_wE c n e ≤ n := tp_en_le ha
      rw [b1, Option.bind_some]
      dsimp only
      rw [b2]
      have st : tp_st c n e = tp_wE c n e := by unfold tp_st; rw [if_neg g0, if_neg g1, if_pos g2]
      by_cases g3 : 8 < tp_wE c n e - tp_at c n e
      · rw [if_neg (show ¬ nI _ ≤ (8 : Int32) from nI_ge (a := 8) g3 (by omega)), Option.bind_some]
        have k0 : tp_kd c n e = 4 := by unfold tp_kd; rw [if_neg g0, if_neg g1, if_pos g2, if_pos g3]
        refine ⟨_, _, rfl, ⟨⟨hn, fun j hj => by rw [b4 _ (by decide)]; exact hb.2 j hj⟩, he, ?_, ?_, ?_, fun q => absurd k0 q, fun q => by omega, fun q => by omega⟩, fun k hk => ?_, b4⟩
        · rw [tm_un _ (by decide), tm_un _ (by decide), b3 _ (by decide), tm_un _ (by decide), tm_un _ (by decide), tm_un _ (by decide)]; exact h1
        · rw [tm_un _ (by decide), tm_un _ (by decide), b3 _ (by decide), tm_un _ (by decide), tm_un _ (by decide), tm_us]
        · rw [tm_us, k0]; rfl
        · rw [tm_un _ (by omega), tm_un _ (by omega), b3 _ (by omega), tm_un _ (by omega), tm_un _ (by omega), tm_un _ (by omega)]
      · rw [if_pos (show nI _ ≤ (8 : Int32) from nI_le (b := 8) (by omega) (by decide)), Option.bind_some]
        have k0 : tp_kd c n e = 1 := by unfold tp_kd; rw [if_neg g0, if_neg g1, if_pos g2, if_neg g3]
        refine ⟨_, _, rfl, ⟨⟨hn, fun j hj => by rw [b4 _ (by decide)]; exact hb.2 j hj⟩, he, ?_, ?_, ?_, fun q => ?_, fun q => ⟨?_, fun j hj => b5 j hj (by omega)⟩, fun q => by omega⟩, fun k hk => ?_, b4⟩
        · rw [tm_un _ (by decide), tm_un _ (by decide), b3 _ (by decide), tm_un _ (by decide), tm_un _ (by decide), tm_un _ (by decide)]; exact h1
        · rw [tm_un _ (by decide), tm_un _ (by decide), b3 _ (by decide), tm_un _ (by decide), tm_un _ (by decide), tm_us]
        · rw [tm_us, k0]; rfl
        · rw [tm_un _ (by decide), tm_us, st]
        · rw [tm_un _ (by decide), tm_un _ (by decide)]; exact b2
        · rw [tm_un _ (by omega), tm_un _ (by omega), b3 _ (by omega), tm_un _ (by omega), tm_un _ (by omega), tm_un _ (by omega)]
    · rw [if_neg g2, tp_r_dig _ hc]
      by_cases g4 : tp_dig (c (tp_at c n e)) = true
      · have g1 : ¬ c (tp_at c n e) = 59 := fun q => by rw [q] at g4; exact absurd g4 (by decide)
        rw [if_pos g4]
        obtain ⟨I2, b1, b3, b4⟩ := tp_whol10L hb (a := tp_at c n e) (n - tp_at c n e) (tp_at c n e) 4096 (upd (upd (upd I 4404 (nI (tp_at c n e))) 4408 (0 : Int32)) 4407 (0 : Int32)) (by rw [tm_un _ (by decide), tm_un _ (by decide), tm_un _ (by decide)]; exact h1) rfl (by omega) (Nat.le_refl _) ha (fun _ => by rw [tm_us, Nat.sub_self]; rfl)
        have hw : tp_en tp_dig c n (tp_at c n e) = tp_dE c n e := rfl
        rw [hw, Nat.sub_self] at b1
        rw [hw] at b4
        have hwe : tp_dE c n e ≤ n := tp_en_le ha
        rw [show g_X10_next_L3 A 4096 (nI (tp_at c n e)) (0 : Int32) _ = _ from b1, Option.bind_some]
        dsimp only
        have st : tp_st c n e = tp_dE c n e := by unfold tp_st; rw [if_neg g0, if_neg g1, if_neg g2, if_pos g4]
        by_cases g3 : 3 < tp_dE c n e - tp_at c n e
        · rw [if_neg (show ¬ nI _ ≤ (3 : Int32) from nI_ge (a := 3) g3 (by omega)), Option.bind_some]
          have k0 : tp_kd c n e = 4 := by unfold tp_kd; rw [if_neg g0, if_neg g1, if_neg g2, if_pos g4, if_pos g3]
          refine ⟨_, _, rfl, ⟨hb, he, ?_, ?_, ?_, fun q => absurd k0 q, fun q => by omega, fun q => by omega⟩, fun k hk => ?_, fun _ _ => rfl⟩
          · rw [tm_un _ (by decide), tm_un _ (by decide), b3 _ (by decide), tm_un _ (by decide), tm_un _ (by decide), tm_un _ (by decide)]; exact h1
          · rw [tm_un _ (by decide), tm_un _ (by decide), b3 _ (by decide), tm_un _ (by decide), tm_un _ (by decide), tm_us]
          · rw [tm_us, k0]; rfl
          · rw [tm_un _ (by omega), tm_un _ (by omega), b3 _ (by omega), tm_un _ (by omega), tm_un _ (by omega), tm_un _ (by omega)]
        · rw [if_pos (show nI _ ≤ (3 : Int32) from nI_le (b := 3) (by omega) (by decide)), Option.bind_some]
          have k0 : tp_kd c n e = 2 := by unfold tp_kd; rw [if_neg g0, if_neg g1, if_neg g2, if_pos g4, if_neg g3]
          refine ⟨_, _, rfl, ⟨hb, he, ?_, ?_, ?_, fun q => ?_, fun q => by omega, fun q => ?_⟩, fun k hk => ?_, fun _ _ => rfl⟩
          · rw [tm_un _ (by decide), tm_un _ (by decide), b3 _ (by decide), tm_un _ (by decide), tm_un _ (by decide), tm_un _ (by decide)]; exact h1
          · rw [tm_un _ (by decide), tm_un _ (by decide), b3 _ (by decide), tm_un _ (by decide), tm_un _ (by decide), tm_us]
          · rw [tm_us, k0]; rfl
          · rw [tm_un _ (by decide), tm_us, st]
          · rw [tm_un _ (by decide), tm_un _ (by decide)]; exact b4 (by omega)
          · rw [tm_un _ (by omega), tm_un _ (by omega), b3 _ (by omega), tm_un _ (by omega), tm_un _ (by omega), tm_un _ (by omega)]
      · rw [if_neg g4, ← nI_succ]
        by_cases g1 : c (tp_at c n e) = 59
        · rw [g1, if_pos (show nI 59 = (59 : Int32) from rfl), Option.bind_some]
          have k0 : tp_kd c n e = 3 := by unfold tp_kd; rw [if_neg g0, if_pos g1]
          refine ⟨_, _, rfl, ⟨hb, he, ?_, ?_, ?_, fun _ => ?_, fun q => by omega, fun q => by omega⟩, fun k hk => ?_, fun _ _ => rfl⟩
          · rw [tm_un _ (by decide), tm_un _ (by decide), tm_un _ (by decide), tm_un _ (by decide), tm_un _ (by decide)]; exact h1
          · rw [tm_un _ (by decide), tm_un _ (by decide), tm_un _ (by decide), tm_un _ (by decide), tm_us]
          · rw [tm_us, k0]; rfl
          · rw [tm_un _ (by decide), tm_us]
            unfold tp_st
            rw [if_neg g0, if_pos g1]
          · rw [tm_un _ (by omega), tm_un _ (by omega), tm_un _ (by omega), tm_un _ (by omega), tm_un _ (by omega)]
        · rw [if_neg (show ¬ nI (c (tp_at c n e)) = (59 : Int32) from fun q => g1 ((nI_eq (b := 59) (by omega) (by decide)).mp q)), Option.bind_some]
          have k0 : tp_kd c n e = 4 := by unfold tp_kd; rw [if_neg g0, if_neg g1, if_neg g2, if_neg g4]
          refine ⟨_, _, rfl, ⟨hb, he, ?_, ?_, ?_, fun q => absurd k0 q, fun q => by omega, fun q => by omega⟩, fun k hk => ?_, fun _ _ => rfl⟩
          · rw [tm_un _ (by decide), tm_un _ (by decide), tm_un _ (by decide), tm_un _ (by decide), tm_un _ (by decide)]; exact h1
          · rw [tm_un _ (by decide), tm_un _ (by decide), tm_un _ (by decide), tm_un _ (by decide), tm_us]
          · rw [tm_us, k0]; rfl
          · rw [tm_un _ (by omega), tm_un _ (by omega), tm_un _ (by omega), tm_un _ (by omega), tm_un _ (by omega)]
theorem tp_nxt10 {c : Nat → Nat} {n : Nat} {A : Nat → Nat → Int32} {e : Nat} {I : Nat → Int32} (h : tp_T10 c n I A e) (hk : tp_kd c n e ≠ 4) : ∃ I1 A1, g_X10_next I A = some (I1, A1) ∧ tp_T10 c n I1 A1 (tp_st c n e) ∧ tp_g10 I I1 ∧ ∀ d, d ≠ 46 → A1 d = A d := by
  obtain ⟨hb, he, h1, h3, h5, h4, _⟩ := h
  exact tp_nx10 hb (tp_st_le he) h1 (h4 hk)
theorem tp_T10_k {c : Nat → Nat} {n : Nat} {I : Nat → Int32} {A : Nat → Nat → Int32} {e : Nat} (h : tp_T10 c n I A e) {k : Nat} (hk : k ≤ 4) : I 4406 = nI (tp_rk k) ↔ tp_kd c n e = k := by
  have h1 := tp_kd4 c n e
  have h2 := tp_rk60 k
  have h3 := tp_rk60 (tp_kd c n e)
  rw [h.2.2.2.2.1, nI_eq (by omega) (by omega)]
  unfold tp_rk
  constructor
  · intro q
    repeat' split at q
    all_goals omega
  · intro q
    rw [q]
theorem tp_T10_of {c : Nat → Nat} {n : Nat} {I I1 : Nat → Int32} {A A1 : Nat → Nat → Int32} {e : Nat} (h : tp_T10 c n I A e) (hI : ∀ k, 4402 < k → k < 4409 → I1 k = I k) (h1 : A1 45 = A 45) (h2 : A1 46 = A 46) : tp_T10 c n I1 A1 e := by
  obtain ⟨⟨b1, b2⟩, a1, a2, a3, a4, a5, a6, a7⟩ := h
  refine ⟨⟨b1, fun j hj => by rw [h1]; exact b2 j hj⟩, a1, ?_, ?_, ?_, fun q => ?_, fun q => ⟨?_, fun j hj => ?_⟩, fun q => ?_⟩
  · rw [hI 4403 (by decide) (by decide)]; exact a2
  · rw [hI 4404 (by decide) (by decide)]; exact a3
  · rw [hI 4406 (by decide) (by decide)]; exact a4
  · rw [hI 4405 (by decide) (by decide)]; exact a5 q
  · rw [hI 4408 (by decide) (by decide)]; exact (a6 q).1
  · rw [h2]; exact (a6 q).2 j hj
  · rw [hI 4407 (by decide) (by decide)]; exact a7 q
