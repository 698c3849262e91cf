/-! MATHEMATICS, 25: bricks -/
theorem tm_bm_some {ok : Nat → Bool} {c : Nat → Nat} : ∀ {n b : Nat}, tm_bm ok c n = some b → ok b = true ∧ b < n ∧ (∀ i, i < n → ok i = true → c b ≤ c i) ∧ ∀ i, i < b → ok i = true → c b < c i
  | 0, b, h => by cases h
  | n + 1, b, h => by
    rw [tm_bm] at h
    cases e : tm_bm ok c n with
    | none =>
      rw [e] at h
      dsimp only at h
      have hn : ∀ i, i < n → ok i = false := by
        intro i hi
        have z : ∀ k, tm_bm ok c k = none → ∀ i, i < k → ok i = false := by
          intro k
          induction k with
          | zero => intro _ i hi; omega
          | succ k ih =>
            intro hk i hi
            rw [tm_bm] at hk
            cases e2 : tm_bm ok c k with
            | none =>
              rw [e2] at hk
              dsimp only at hk
              split at hk
              · cases hk
              · next g =>
                by_cases q : i = k
                · subst q
                  cases e3 : ok i
                  · rfl
                  · exact absurd e3 g
                · exact ih e2 i (by omega)
            | some b2 =>
              rw [e2] at hk
              dsimp only at hk
              split at hk <;> cases hk
        exact z n e i hi
      split at h
      · next g =>
        cases h
        refine ⟨g, Nat.lt_succ_self _, fun i hi h2 => ?_, fun i hi h2 => ?_⟩
        · by_cases q : i = n
          · rw [q]
            exact Nat.le_refl _
          · rw [hn i (by omega)] at h2
            cases h2
        · rw [hn i hi] at h2
          cases h2
      · cases h
    | some b2 =>
      rw [e] at h
      dsimp only at h
      obtain ⟨h1, h2, h3, h4⟩ := tm_bm_some e
      split at h
      · next g =>
        cases h
        refine ⟨g.1, Nat.lt_succ_self _, fun i hi q => ?_, fun i hi q => ?_⟩
        · by_cases r : i = n
          · rw [r]
            exact Nat.le_refl _
          · have := h3 i (by omega) q
            omega
        · have := h3 i hi q
          omega
      · next g =>
        cases h
        refine ⟨h1, by omega, fun i hi q => ?_, h4⟩
        by_cases r : i = n
        · subst r
          by_cases r2 : c i < c b
          · exact absurd ⟨q, r2⟩ g
          · omega
        · exact h3 i (by omega) q
theorem tm_bm_none {ok : Nat → Bool} {c : Nat → Nat} {n : Nat} (h : tm_bm ok c n = none) : ∀ i, i < n → ok i = false := by
  induction n with
  | zero => intro i hi; omega
  | succ k ih =>
    intro i hi
    rw [tm_bm] at h
    cases e2 : tm_bm ok c k with
    | none =>
      rw [e2] at h
      dsimp only at h
      split at h
      · cases h
      · next g =>
        by_cases q : i = k
        · subst q
          cases e3 : ok i
          · rfl
          · exact absurd e3 g
        · exact ih e2 i (by omega)
    | some b2 =>
      rw [e2] at h
      dsimp only at h
      split at h <;> cases h
theorem tm_bm_is {ok : Nat → Bool} {c : Nat → Nat} {n b : Nat} (h1 : ok b = true) (h2 : b < n) (h3 : ∀ i, i < n → ok i = true → c b ≤ c i) (h4 : ∀ i, i < b → ok i = true → c b < c i) : tm_bm ok c n = some b := by
  cases e : tm_bm ok c n with
  | none =>
    have := tm_bm_none e b h2
    rw [h1] at this
    cases this
  | some b2 =>
    obtain ⟨g1, g2, g3, g4⟩ := tm_bm_some e
    rcases Nat.lt_trichotomy b b2 with q | q | q
    · have a1 := g4 b q h1
      have a2 := h3 b2 g2 g1
      omega
    · rw [q]
    · have a1 := h4 b2 q g1
      have a2 := g3 b h2 h1
      omega
theorem tm_sm_mono {f g : Nat → Nat} : ∀ {n : Nat}, (∀ i, i < n → f i ≤ g i) → tm_sm f n ≤ tm_sm g n ∧ (tm_sm f n = tm_sm g n → ∀ i, i < n → f i = g i)
  | 0, _ => ⟨Nat.le_refl _, fun _ i hi => absurd hi (Nat.not_lt_zero i)⟩
  | n + 1, h => by
    obtain ⟨a, b⟩ := tm_sm_mono (f := f) (g := g) (n := n) (fun i hi => h i (by omega))
    have c := h n (by omega)
    rw [tm_sm, tm_sm]
    refine ⟨by omega, fun e i hi => ?_⟩
    by_cases q : i = n
    · rw [q]
      omega
    · exact b (by omega) i (by omega)
theorem tm_pc_and {b u : Nat} (hb : b < 256) : tm_pc (b &&& u) ≤ tm_pc b ∧ (tm_pc (b &&& u) = tm_pc b → b &&& u = b) := by
  have m := tm_sm_mono (f := fun k => ((b &&& u).testBit k).toNat) (g := fun k => (b.testBit k).toNat) (n := 8) (fun i _ => by
    rw [Nat.testBit_and]
    cases b.testBit i <;> cases u.testBit i <;> decide)
  refine ⟨m.1, fun e => tm_ext (n := 8) (Nat.lt_of_le_of_lt Nat.and_le_left hb) hb fun i hi => ?_⟩
  have := m.2 e i hi
  revert this
  cases (b &&& u).testBit i <;> cases b.testBit i <;> simp
/-- open sights into a place -/
def tm_us2 (T : Nat → Nat) (B t : Nat) : Nat := tm_dn (tm_bs (fun k => decide (T (11 + 2 * k) = t)) (T 2)) B
theorem tm_see_c (T : Nat → Nat) (B C s t : Nat) : ∀ k, (∀ i, i < k → T (11 + 2 * i) = t → B.testBit i = C.testBit i) → tm_see T B s t k = tm_see T C s t k
  | 0, _ => rfl
  | k + 1, h => by
    rw [tm_see, tm_see, tm_see_c T B C s t k (fun i hi => h i (by omega))]
    by_cases e : T (11 + 2 * k) = t
    · rw [h k (by omega) e]
    · rw [decide_eq_false e, Bool.and_false]
      rfl
theorem tm_res_c (T : Nat → Nat) (B C : Nat) (h W E : Nat → Nat) (q t f : Nat) (e : ∀ i, i < T 2 → T (11 + 2 * i) = t → B.testBit i = C.testBit i) : tm_res T B h W E q t f = tm_res T C h W E q t f := by
  unfold tm_res
  have w : tm_wt T B h t = tm_wt T C h t := by
    funext m
    unfold tm_wt
    exact tm_bs_cong fun p _ => tm_see_c T B C _ t (T 2) e
  rw [w]
def tm_bk9 (T : Nat → Nat) (B : Nat) (h W E : Nat → Nat) (q set : Nat) : Bool := decide (tm_dn set (tm_us2 T B (T (82 + 5 * q))) = 0) && tm_won (tm_res T (B ||| set) h W E q (T (82 + 5 * q)) (T (83 + 5 * q)))
def tm_bk10 (T : Nat → Nat) (B : Nat) (h W E : Nat → Nat) (q set : Nat) : Bool := decide (set &&& B = 0) && tm_won (tm_res T (B ||| set) h W E q (T (82 + 5 * q)) (T (83 + 5 * q)))
theorem tm_bk_eq {T : Nat → Nat} (hW : tm_W T) (B : Nat) (h W E : Nat → Nat) (q : Nat) : tm_bm (tm_bk9 T B h W E q) tm_pc (2 ^ T 2) = tm_bm (tm_bk10 T B h W E q) tm_pc (2 ^ T 2) := by
  have h2 := tm_W_b2 hW
  have h28 : (2 : Nat) ^ T 2 ≤ 2 ^ 8 := Nat.pow_le_pow_right (n := 2) (by decide) h2
  have up : ∀ i, tm_bk9 T B h W E q i = true → tm_bk10 T B h W E q i = true := by
    intro i g
    unfold tm_bk9 at g
    unfold tm_bk10
    rw [Bool.and_eq_true] at g ⊢
    refine ⟨decide_eq_true (Nat.eq_of_testBit_eq fun j => ?_), g.2⟩
    rw [Nat.testBit_and, Nat.zero_testBit]
    cases e : i.testBit j
    · rfl
    · have := tm_dn0.mp (of_decide_eq_true g.1) j e
      unfold tm_us2 at this
      rw [tm_dnB, Bool.and_eq_true] at this
      rw [Bool.not_eq_true'] at this
      rw [this.2]
      rfl
  have down : ∀ i, i < 2 ^ T 2 → tm_bk10 T B h W E q i = true → tm_bk9 T B h W E q (i &&& tm_us2 T B (T (82 + 5 * q))) = true ∧ tm_bk10 T B h W E q (i &&& tm_us2 T B (T (82 + 5 * q))) = true := by
    intro i hi g
    have a : tm_bk9 T B h W E q (i &&& tm_us2 T B (T (82 + 5 * q))) = true := by
      unfold tm_bk10 at g
      unfold tm_bk9
      rw [Bool.and_eq_true] at g ⊢
      refine ⟨decide_eq_true (tm_dn0.mpr fun j hj => ?_), ?_⟩
      · rw [Nat.testBit_and, Bool.and_eq_true] at hj
        exact hj.2
      · rw [tm_res_c T (B ||| (i &&& tm_us2 T B (T (82 + 5 * q)))) (B ||| i) h W E q _ _ fun j hj e => ?_]
        · exact g.2
        · rw [Nat.testBit_or, Nat.testBit_or, Nat.testBit_and]
          unfold tm_us2
          rw [tm_dnB, tm_bsB, decide_eq_true hj, decide_eq_true e]
          cases B.testBit j <;> cases i.testBit j <;> rfl
    exact ⟨a, up _ a⟩
  cases e : tm_bm (tm_bk10 T B h W E q) tm_pc (2 ^ T 2) with
  | none =>
    cases e2 : tm_bm (tm_bk9 T B h W E q) tm_pc (2 ^ T 2) with
    | none => rfl
    | some b =>
      obtain ⟨g1, g2, -, -⟩ := tm_bm_some e2
      have := tm_bm_none e b g2
      rw [up b g1] at this
      cases this
  | some b =>
    obtain ⟨g1, g2, g3, g4⟩ := tm_bm_some e
    obtain ⟨d1, d2⟩ := down b g2 g1
    have hle : b &&& tm_us2 T B (T (82 + 5 * q)) ≤ b := Nat.and_le_left
    have hpc := tm_pc_and (b := b) (u := tm_us2 T B (T (82 + 5 * q))) (by omega)
    have hmin := g3 _ (by omega) d2
    have hbe := hpc.2 (by omega)
    rw [hbe] at d1
    exact tm_bm_is d1 g2 (fun i hi q2 => g3 i hi (up i q2)) (fun i hi q2 => g4 i hi (up i q2))
theorem tm_oi9 {I : Nat → Int32} {A : Nat → Nat → Int32} {T : Nat → Nat} {B t : Nat} (hW : tm_W T) (hC : tm_C A T) (hI : I 3601 = nI B) (ht : t < T 1) : g_X3_openInto I A (nI t) = some (nI (tm_us2 T B t)) := by
  have h1 := tm_W_b1 hW
  have h2 := tm_W_b2 hW
  unfold g_X3_openInto
  rw [show g_X3_openInto_L1 A (nI t) 4096 (0 : Int32) (0 : Int32) = some (nI (tm_bs (fun k => decide (T (11 + 2 * k) = t)) (T 2))) from ?_, Option.bind_some, hI, tm_dnI]
  · rfl
  refine tm_lp (fun n i (v : Int32) => g_X3_openInto_L1 A (nI t) n v i) (T 2) 0 (fun i => nI (tm_bs (fun k => decide (T (11 + 2 * k) = t)) i)) _ (Nat.zero_le _) ?_ ?_ (m := 4096) (by omega)
  · intro n
    show g_X3_openInto_L1 A (nI t) (n + 1) _ (nI (T 2)) = _
    rw [g_X3_openInto_L1, tm_cn2 hC, if_pos (nI_le (Nat.le_refl _) (by omega))]
  · intro n i _ hi
    have hs := tm_W_s hW i hi
    show g_X3_openInto_L1 A (nI t) (n + 1) (nI (tm_bs (fun k => decide (T (11 + 2 * k) = t)) i)) (nI i) = g_X3_openInto_L1 A (nI t) n (nI (tm_bs (fun k => decide (T (11 + 2 * k) = t)) (i + 1))) (nI (i + 1))
    rw [g_X3_openInto_L1, tm_cn2 hC, if_neg (nI_ge hi (by omega)), tm_get (by omega) (by decide), (tm_C_st hC i hi).2, ← nI_succ i, ← tm_acc (decide (T (11 + 2 * i) = t)) (fun k => decide (T (11 + 2 * k) = t)) (i := i) (by omega) rfl]
    by_cases g : T (11 + 2 * i) = t
    · rw [if_pos (by rw [g]), Option.bind_some, decide_eq_true g, if_pos rfl]
    · rw [if_neg (fun q => g ((nI_eq (by omega) (by omega)).mp q)), Option.bind_some, decide_eq_false g, if_neg (by decide)]
theorem tm_fb9 {I : Nat → Int32} {A : Nat → Nat → Int32} {T : Nat → Nat} {B : Nat} {h W E : Nat → Nat} (hW : tm_W T) (hK : tm_K9 I A T B h W E) (hSB : tm_SB T B h W E) {q : Nat} (hq : q < T 5) : ∃ I1 A1, g_X3_fewestBricks I A (nI q) = some (tm_oi (tm_bm (tm_bk10 T B h W E q) tm_pc (2 ^ T 2)), I1, A1) ∧ tm_Sd I1 ∧ tm_f9 I A I1 A1 := by
  have h2 := tm_W_b2 hW
  have h28 : (2 : Nat) ^ T 2 ≤ 2 ^ 8 := Nat.pow_le_pow_right (n := 2) (by decide) h2
  have hqq := tm_W_q hW q hq
  have hul : tm_us2 T B (T (82 + 5 * q)) < 2 ^ T 2 := tm_dn_lt (tm_bs_lt _ _)
  have hB := hSB.1
  rw [← tm_bk_eq hW, tm_bm_to (ok := tm_bk9 T B h W E q) (c := tm_pc) (n := tm_us2 T B (T (82 + 5 * q)) + 1) (by omega) (fun i h1 _ => by
    unfold tm_bk9
    rw [decide_eq_false, Bool.false_and]
    intro g
    have := tm_sub_le g
    omega)]
  have L : ∃ r, g_X3_fewestBricks_L1 I (nI q) (nI (tm_us2 T B (T (82 + 5 * q)))) 4096 (-2 : Int32) (nI 0) I A = some r ∧ (r.1 = tm_oi (tm_bm (tm_bk9 T B h W E q) tm_pc (tm_us2 T B (T (82 + 5 * q)) + 1)) ∧ tm_K9 r.2.1 r.2.2 T B h W E ∧ tm_f9 I A r.2.1 r.2.2) := by
    refine tm_lr (fun n i (s : Int32 × (Nat → Int32) × (Nat → Nat → Int32)) => g_X3_fewestBricks_L1 I (nI q) (nI (tm_us2 T B (T (82 + 5 * q)))) n s.1 i s.2.1 s.2.2) (tm_us2 T B (T (82 + 5 * q)) + 1) 0 (Nat.zero_le _) (fun i s => s.1 = tm_oi (tm_bm (tm_bk9 T B h W E q) tm_pc i) ∧ tm_K9 s.2.1 s.2.2 T B h W E ∧ tm_f9 I A s.2.1 s.2.2) _ ?_ ?_ (s := ((-2 : Int32), I, A)) ⟨rfl, hK, tm_f9_r I A⟩ (m := 4096) (by omega)
    · rintro n ⟨v, I1, A1⟩ ⟨a, b, c⟩
      refine ⟨(v, I1, A1), ?_, a, b, c⟩
      show g_X3_fewestBricks_L1 I (nI q) (nI (tm_us2 T B (T (82 + 5 * q)))) (n + 1) v (nI (tm_us2 T B (T (82 + 5 * q)) + 1)) I1 A1 = _
      rw [g_X3_fewestBricks_L1, if_pos (nI_lt (by omega) (by omega))]
    · rintro n i ⟨v, I1, A1⟩ _ hi _ ⟨a, b, c⟩
      dsimp only at a b c
      have hil : i < 2 ^ T 2 := by omega
      have hd : tm_dn i (tm_us2 T B (T (82 + 5 * q))) < 2 ^ T 2 := tm_dn_lt hil
      have hBi : B ||| i < 2 ^ 8 := Nat.or_lt_two_pow (by omega) (by omega)
      have K : ∃ x8 : Int32, (if v = (-2 : Int32) then (some (1 : Int32)) else (if (g_J6_bitCount_0f7a4 v) ≤ (g_J6_bitCount_0f7a4 (nI i)) then (some (0 : Int32)) else (some (1 : Int32)))) = some x8 ∧ (x8 = 0 ↔ ∃ b', tm_bm (tm_bk9 T B h W E q) tm_pc i = some b' ∧ ¬ tm_pc i < tm_pc b') := by
        rw [a]
        cases e : tm_bm (tm_bk9 T B h W E q) tm_pc i with
        | none =>
          refine ⟨1, by rw [tm_oi_n, if_pos rfl], fun g => absurd g (by decide), ?_⟩
          rintro ⟨b', g, -⟩
          cases g
        | some b' =>
          have hb := tm_bm_lt _ _ _ _ e
          have p1 := tm_pc_le b'
          have p2 := tm_pc_le i
          rw [tm_oi_s, if_neg (tm_nm2 (by omega)), tm_bc9 b' (by omega), tm_bc9 i (by omega), tm_ifs]
          refine ⟨_, rfl, ?_⟩
          by_cases g2 : tm_pc b' ≤ tm_pc i
          · rw [if_pos (nI_le g2 (by omega))]
            exact ⟨fun _ => ⟨b', rfl, by omega⟩, fun _ => rfl⟩
          · rw [if_neg (nI_ge (by omega) (by omega))]
            refine ⟨fun g3 => absurd g3 (by decide), ?_⟩
            rintro ⟨b2, e2, g3⟩
            cases e2
            omega
      obtain ⟨x8, k1, k2⟩ := K
      have S0 : g_X3_fewestBricks_L1 I (nI q) (nI (tm_us2 T B (T (82 + 5 * q)))) (n + 1) v (nI i) I1 A1 = (if nI (tm_dn i (tm_us2 T B (T (82 + 5 * q)))) = 0 then (if x8 = 0 then (some (v, I1, A1)) else ((g_X1_runAsTold (upd I1 3601 (nI (B ||| i))) A1 (nI q)).bind fun (I17, A18) => (if (g_X1_isWon (upd I17 3601 (I 3601))) = true then (some (nI i)) else (some v)).bind fun x21 => some (x21, (upd I17 3601 (I 3601)), A18))) else (some (v, I1, A1))).bind fun (x12, I13, A14) => g_X3_fewestBricks_L1 I (nI q) (nI (tm_us2 T B (T (82 + 5 * q)))) n x12 (nI (i + 1)) I13 A14 := by
        rw [g_X3_fewestBricks_L1, if_neg (nI_nlt (by omega) (by omega)), k1, Option.bind_some, tm_dnI, hK.2.1.1, tm_or, nI_succ]
      by_cases g : tm_dn i (tm_us2 T B (T (82 + 5 * q))) = 0
      · by_cases g2 : x8 = 0
        · obtain ⟨b', e, g3⟩ := k2.mp g2
          refine Or.inr ⟨(tm_oi (tm_bm (tm_bk9 T B h W E q) tm_pc (i + 1)), I1, A1), ⟨rfl, b, c⟩, ?_⟩
          show g_X3_fewestBricks_L1 I (nI q) (nI (tm_us2 T B (T (82 + 5 * q)))) (n + 1) v (nI i) I1 A1 = g_X3_fewestBricks_L1 I (nI q) (nI (tm_us2 T B (T (82 + 5 * q)))) n _ (nI (i + 1)) I1 A1
          rw [S0, if_pos ((tm_z (by omega)).mpr g), if_pos g2, Option.bind_some, tm_bm, e, a, e]
          dsimp only
          rw [if_neg (fun q => g3 q.2)]
        · have kA : tm_K9 (upd I1 3601 (nI (B ||| i))) A1 T (B ||| i) h W E := by
            obtain ⟨z, z1, z2⟩ := b.2.2
            exact ⟨b.1, ⟨tm_us _ _ _, (tm_un _ (by decide)).trans b.2.1.2.1, b.2.1.2.2⟩, z, z1, (tm_un _ (by decide)).trans z2⟩
          have sA : tm_SB T (B ||| i) h W E := ⟨by omega, hSB.2⟩
          obtain ⟨I3, A3, e1, x1, k3, f3, -⟩ := tm_rt9 hW kA sA hq
          have kB : tm_K9 (upd I3 3601 (I 3601)) A3 T B h W E := by
            obtain ⟨z, z1, z2⟩ := k3.2.2
            exact ⟨k3.1, ⟨(tm_us _ _ _).trans hK.2.1.1, (tm_un _ (by decide)).trans k3.2.1.2.1, k3.2.1.2.2⟩, z, z1, (tm_un _ (by decide)).trans z2⟩
          have fB : tm_f9 I A (upd I3 3601 (I 3601)) A3 := tm_f9_t c (tm_f9_t ⟨fun k hk => tm_un _ (by omega), fun _ _ => rfl⟩ (tm_f9_t f3 ⟨fun k hk => tm_un _ (by omega), fun _ _ => rfl⟩))
          have xw : g_X1_isWon (upd I3 3601 (I 3601)) = tm_won (tm_res T (B ||| i) h W E q (T (82 + 5 * q)) (T (83 + 5 * q))) := by
            rw [← tm_won9 x1 (tm_res_how _ _ _ _ _ _ _ _)]
            unfold g_X1_isWon
            rw [tm_un _ (by decide)]
          refine Or.inr ⟨(tm_oi (tm_bm (tm_bk9 T B h W E q) tm_pc (i + 1)), upd I3 3601 (I 3601), A3), ⟨rfl, kB, fB⟩, ?_⟩
          show g_X3_fewestBricks_L1 I (nI q) (nI (tm_us2 T B (T (82 + 5 * q)))) (n + 1) v (nI i) I1 A1 = g_X3_fewestBricks_L1 I (nI q) (nI (tm_us2 T B (T (82 + 5 * q)))) n _ (nI (i + 1)) _ A3
          rw [S0, if_pos ((tm_z (by omega)).mpr g), if_neg g2, e1, Option.bind_some]
          dsimp only
          rw [xw, tm_bm, a]
          have ek : tm_bk9 T B h W E q i = tm_won (tm_res T (B ||| i) h W E q (T (82 + 5 * q)) (T (83 + 5 * q))) := by
            unfold tm_bk9
            rw [decide_eq_true g, Bool.true_and]
          rw [ek]
          cases tm_won (tm_res T (B ||| i) h W E q (T (82 + 5 * q)) (T (83 + 5 * q)))
          · rw [if_neg (by decide), Option.bind_some, Option.bind_some]
            cases e : tm_bm (tm_bk9 T B h W E q) tm_pc i with
            | none =>
              dsimp only
              rw [if_neg (by decide)]
            | some b' =>
              dsimp only
              rw [if_neg (fun q => by cases q.1)]
          · rw [if_pos rfl, Option.bind_some, Option.bind_some]
            cases e : tm_bm (tm_bk9 T B h W E q) tm_pc i with
            | none =>
              dsimp only
              rw [if_pos rfl, tm_oi_s]
            | some b' =>
              dsimp only
              by_cases g5 : tm_pc i < tm_pc b'
              · rw [if_pos ⟨rfl, g5⟩, tm_oi_s]
              · exact absurd (k2.mpr ⟨b', e, g5⟩) g2
      · refine Or.inr ⟨(tm_oi (tm_bm (tm_bk9 T B h W E q) tm_pc (i + 1)), I1, A1), ⟨rfl, b, c⟩, ?_⟩
        show g_X3_fewestBricks_L1 I (nI q) (nI (tm_us2 T B (T (82 + 5 * q)))) (n + 1) v (nI i) I1 A1 = g_X3_fewestBricks_L1 I (nI q) (nI (tm_us2 T B (T (82 + 5 * q)))) n _ (nI (i + 1)) I1 A1
        rw [S0, if_neg (fun q => g ((tm_z (by omega)).mp q)), Option.bind_some, a, tm_bm_no (ok := tm_bk9 T B h W E q) (c := tm_pc) (by unfold tm_bk9; rw [decide_eq_false g, Bool.false_and])]
  obtain ⟨⟨v, I1, A1⟩, e, a, b, d⟩ := L
  dsimp only at a b d
  refine ⟨I1, A1, ?_, b.2.2, d⟩
  unfold g_X3_fewestBricks
  rw [tm_f2 hK.1 hW hq, tm_oi9 hW hK.1 hK.2.1.1 hqq.2.2.1, Option.bind_some, show g_X3_fewestBricks_L1 I (nI q) (nI (tm_us2 T B (T (82 + 5 * q)))) 4096 (-2 : Int32) (0 : Int32) I A = _ from e, Option.bind_some, a]
theorem tm_fb10 {I : Nat → Int32} {A : Nat → Nat → Int32} {T s : Nat → Nat} (hW : tm_W T) (hst : A 49 6 = nI (s 6)) (hs6 : s 6 < 256) (hK : tm_K10 A T (s 6) s (tm_Wt T) (tm_Et T)) (hSB : tm_SB T (s 6) s (tm_Wt T) (tm_Et T)) {q : Nat} (hq : q < T 5) : ∃ I1 A1, g_X10_bricks_L1 (nI q) 4096 (-2 : Int32) (0 : Int32) I A = some (tm_oi (tm_bm (tm_bk10 T (s 6) s (tm_Wt T) (tm_Et T) q) tm_pc (2 ^ T 2)), I1, A1) ∧ (∀ k, k < 4425 → I1 k = I k) ∧ ∀ c, c < 52 → A1 c = A c := by
  have h2 := tm_W_b2 hW
  have h28 : (2 : Nat) ^ T 2 ≤ 2 ^ 8 := Nat.pow_le_pow_right (n := 2) (by decide) h2
  have G : ∃ r, g_X10_bricks_L1 (nI q) 4096 (-2 : Int32) (nI 0) I A = some r ∧ (r.1 = tm_oi (tm_bm (tm_bk10 T (s 6) s (tm_Wt T) (tm_Et T) q) tm_pc (2 ^ T 2)) ∧ (∀ k, k < 4425 → r.2.1 k = I k) ∧ ∀ c, c < 52 → r.2.2 c = A c) := by
    refine tm_lr (fun n i (v : Int32 × (Nat → Int32) × (Nat → Nat → Int32)) => g_X10_bricks_L1 (nI q) n v.1 i v.2.1 v.2.2) (2 ^ T 2) 0 (Nat.zero_le _) (fun i r => r.1 = tm_oi (tm_bm (tm_bk10 T (s 6) s (tm_Wt T) (tm_Et T) q) tm_pc i) ∧ (∀ k, k < 4425 → r.2.1 k = I k) ∧ (∀ c, c ≠ 52 → r.2.2 c = A c) ∧ ∀ p, p < 6 → r.2.2 52 p = A 52 p) _ ?_ ?_ (s := ((-2 : Int32), I, A)) ⟨rfl, fun _ _ => rfl, fun _ _ => rfl, fun _ _ => rfl⟩ (m := 4096) (by omega)
    · rintro n ⟨v, I1, A1⟩ ⟨a, b, c, d⟩
      dsimp only at a b c d
      refine ⟨(v, I1, A1), ?_, a, b, fun e he => c e (by omega)⟩
      show g_X10_bricks_L1 (nI q) (n + 1) v (nI (2 ^ T 2)) I1 A1 = _
      rw [g_X10_bricks_L1, tm_r_c2 (tm_R_of hK.1 (c 47 (by decide))), Option.bind_some, tm_shl1 (by omega), if_pos (nI_le (Nat.le_refl _) (by omega))]
    · rintro n i ⟨v, I1, A1⟩ _ hi _ ⟨a, b, c, d⟩
      dsimp only at a b c d
      have hR1 := tm_R_of hK.1 (c 47 (by decide))
      have hBi : s 6 ||| i < 2 ^ 8 := Nat.or_lt_two_pow (by omega) (by omega)
      have h49 : tw_ld 8 (A1 49) (6 : Int32) = some (nI (s 6)) := by
        rw [c 49 (by decide), ← hst]
        exact tm_ld (i := 6) (by decide) (by decide)
      have hand : nI i &&& nI (s 6) = nI (i &&& s 6) := tm_and i (s 6)
      have hal : i &&& s 6 ≤ i := Nat.and_le_left
      have kA : tm_K10 (va_up A1 52 (upd (A1 52) 6 (nI (s 6 ||| i)))) T (s 6 ||| i) s (tm_Wt T) (tm_Et T) := by
        refine ⟨tm_R_of hR1 (tm_vn _ (by decide)), fun p hp => ?_, ?_, ?_⟩
        · rw [tm_vs, tm_un _ (by omega), d p hp]
          exact hK.2.1 p hp
        · rw [tm_vs, tm_us]
        · rw [tm_vn _ (by decide), tm_vn _ (by decide), c 53 (by decide), c 54 (by decide)]
          exact hK.2.2.2
      have sA : tm_SB T (s 6 ||| i) s (tm_Wt T) (tm_Et T) := ⟨by omega, hSB.2⟩
      obtain ⟨I3, e1, x1, f1⟩ := tm_rt10 (I := I1) hW kA sA hq
      have fA : (∀ k, k < 4425 → I3 k = I k) ∧ (∀ c, c ≠ 52 → va_up A1 52 (upd (A1 52) 6 (nI (s 6 ||| i))) c = A c) ∧ ∀ p, p < 6 → va_up A1 52 (upd (A1 52) 6 (nI (s 6 ||| i))) 52 p = A 52 p := ⟨fun k hk => (f1 k (by omega)).trans (b k hk), fun c2 h2 => (tm_vn _ h2).trans (c c2 h2), fun p hp => by rw [tm_vs, tm_un _ (by omega)]; exact d p hp⟩
      by_cases g : i &&& s 6 = 0
      · have ek : tm_bk10 T (s 6) s (tm_Wt T) (tm_Et T) q i = tm_won (tm_res T (s 6 ||| i) s (tm_Wt T) (tm_Et T) q (T (82 + 5 * q)) (T (83 + 5 * q))) := by
          unfold tm_bk10
          rw [decide_eq_true g, Bool.true_and]
        cases e : tm_bm (tm_bk10 T (s 6) s (tm_Wt T) (tm_Et T) q) tm_pc i with
        | none =>
          refine Or.inr ⟨(tm_oi (tm_bm (tm_bk10 T (s 6) s (tm_Wt T) (tm_Et T) q) tm_pc (i + 1)), I3, va_up A1 52 (upd (A1 52) 6 (nI (s 6 ||| i)))), ⟨rfl, fA⟩, ?_⟩
          show g_X10_bricks_L1 (nI q) (n + 1) v (nI i) I1 A1 = g_X10_bricks_L1 (nI q) n _ (nI (i + 1)) I3 _
          rw [g_X10_bricks_L1, tm_r_c2 hR1, Option.bind_some, tm_shl1 (k := T 2) (by omega), if_neg (nI_ge hi (by omega)), h49, Option.bind_some, hand, if_pos ((tm_z (by omega)).mpr g), a, e, tm_oi_n, if_pos (by decide), Option.bind_some, tm_or, show tw_st 8 (A1 52) (6 : Int32) (nI (s 6 ||| i)) = _ from tm_st (i := 6) (by decide) (by decide), Option.bind_some, e1, Option.bind_some, tm_won10 x1, ← nI_succ i, tm_bm, e, ek]
          dsimp only
          cases tm_won (tm_res T (s 6 ||| i) s (tm_Wt T) (tm_Et T) q (T (82 + 5 * q)) (T (83 + 5 * q)))
          · rw [if_neg (by decide), Option.bind_some, if_neg (by decide), tm_oi_n]
          · rw [if_pos rfl, Option.bind_some, if_pos rfl, tm_oi_s]
        | some b' =>
          have hb := tm_bm_lt _ _ _ _ e
          have p1 := tm_pc_le b'
          have p2 := tm_pc_le i
          have S0 : g_X10_bricks_L1 (nI q) (n + 1) v (nI i) I1 A1 = (if nI (tm_pc i) < nI (tm_pc b') then (if tm_won (tm_res T (s 6 ||| i) s (tm_Wt T) (tm_Et T) q (T (82 + 5 * q)) (T (83 + 5 * q))) = true then (some (nI i, I3, va_up A1 52 (upd (A1 52) 6 (nI (s 6 ||| i))))) else (some (nI b', I3, va_up A1 52 (upd (A1 52) 6 (nI (s 6 ||| i)))))) else (some (nI b', I1, A1))).bind fun (x17, I18, A19) => g_X10_bricks_L1 (nI q) n x17 (nI (i + 1)) I18 A19 := by
            rw [g_X10_bricks_L1, tm_r_c2 hR1, Option.bind_some, tm_shl1 (k := T 2) (by omega), if_neg (nI_ge hi (by omega)), h49, Option.bind_some, hand, if_pos ((tm_z (by omega)).mpr g), a, e, tm_oi_s, if_neg (nI_pos (by omega)), tm_on10 (by omega), Option.bind_some, tm_on10 (by omega), Option.bind_some, Option.bind_some, tm_or, show tw_st 8 (A1 52) (6 : Int32) (nI (s 6 ||| i)) = _ from tm_st (i := 6) (by decide) (by decide), Option.bind_some, e1, Option.bind_some, tm_won10 x1, ← nI_succ i]
          by_cases g5 : tm_pc i < tm_pc b'
          · refine Or.inr ⟨(tm_oi (tm_bm (tm_bk10 T (s 6) s (tm_Wt T) (tm_Et T) q) tm_pc (i + 1)), I3, va_up A1 52 (upd (A1 52) 6 (nI (s 6 ||| i)))), ⟨rfl, fA⟩, ?_⟩
            show g_X10_bricks_L1 (nI q) (n + 1) v (nI i) I1 A1 = g_X10_bricks_L1 (nI q) n _ (nI (i + 1)) I3 _
            rw [S0, if_pos (nI_lt g5 (by omega)), tm_bm, e, ek]
            dsimp only
            cases tm_won (tm_res T (s 6 ||| i) s (tm_Wt T) (tm_Et T) q (T (82 + 5 * q)) (T (83 + 5 * q)))
            · rw [if_neg (by decide), Option.bind_some, if_neg (fun r => by cases r.1), tm_oi_s]
            · rw [if_pos rfl, Option.bind_some, if_pos ⟨rfl, g5⟩, tm_oi_s]
          · refine Or.inr ⟨(tm_oi (tm_bm (tm_bk10 T (s 6) s (tm_Wt T) (tm_Et T) q) tm_pc (i + 1)), I1, A1), ⟨rfl, b, c, d⟩, ?_⟩
            show g_X10_bricks_L1 (nI q) (n + 1) v (nI i) I1 A1 = g_X10_bricks_L1 (nI q) n _ (nI (i + 1)) I1 A1
            rw [S0, if_neg (nI_nlt (by omega) (by omega)), Option.bind_some, tm_bm, e]
            dsimp only
            rw [if_neg (fun r => g5 r.2), tm_oi_s]
      · refine Or.inr ⟨(tm_oi (tm_bm (tm_bk10 T (s 6) s (tm_Wt T) (tm_Et T) q) tm_pc (i + 1)), I1, A1), ⟨rfl, b, c, d⟩, ?_⟩
        show g_X10_bricks_L1 (nI q) (n + 1) v (nI i) I1 A1 = g_X10_bricks_L1 (nI q) n _ (nI (i + 1)) I1 A1
        rw [g_X10_bricks_L1, tm_r_c2 hR1, Option.bind_some, tm_shl1 (k := T 2) (by omega), if_neg (nI_ge hi (by omega)), h49, Option.bind_some, hand, if_neg (fun r => g ((tm_z (by omega)).mp r)), Option.bind_some, a, tm_bm_no (ok := tm_bk10 T (s 6) s (tm_Wt T) (tm_Et T) q) (c := tm_pc) (by unfold tm_bk10; rw [decide_eq_false g, Bool.false_and]), ← nI_succ i]
  obtain ⟨⟨v, I1, A1⟩, e, a, b⟩ := G
  dsimp only at a b
  refine ⟨I1, A1, ?_, b⟩
  rw [show g_X10_bricks_L1 (nI q) 4096 (-2 : Int32) (0 : Int32) I A = _ from e, a]
theorem tm_q_bricks {I : Nat → Int32} {A : Nat → Nat → Int32} (h : tm_Inv I A) (sc : Nat) (a : Int32) : ∃ x I1 A1 sc1, g_X9_bricks I A sc a = some (x, I1, A1, sc1) ∧ ∃ I2 A2, g_X10_bricks I1 A1 a = some (x, I2, A2) ∧ tm_Inv I2 A2 := by
  obtain ⟨⟨T, s, U, V, t, hP⟩, hT, hS⟩ := id h
  obtain ⟨hW, hR, hC, hH, hrow, hrest⟩ := id hP
  have hv : ∀ v : Int32, tm_H (upd (upd (upd I 12 v) 4400 0) 4411 0) T := fun v => tm_H_of hH ((tm_g44 0 0).trans (tm_12_44 v))
  have hSB := tm_SBt hW (fun p hp => (hrow.1 p hp).2) hrow.2.2.1
  by_cases ka : tm_ok (T 5) a
  · obtain ⟨q, hq, rfl⟩ := ka
    obtain ⟨I1, A1, e1, k1, f1, s1⟩ := tm_now9 hP hS
    obtain ⟨I2, A2, e2, z2, f2⟩ := tm_fb9 hW k1 hSB hq
    have f12 := tm_f9_t f1 f2
    obtain ⟨r1, r2, r3⟩ := tm_hand hP f12 0
    obtain ⟨A3, e3, k3, f3⟩ := tm_now10 hW r1 r2
    obtain ⟨I4, A4, e4, f4, f5⟩ := tm_fb10 (I := upd (upd (upd I2 12 0) 4400 0) 4411 0) hW (by rw [f3 49 (by decide)]; exact r2.2.1) hrow.2.2.1 k3 hSB hq
    refine ⟨tm_oi (tm_bm (tm_bk10 T (s 6) s (tm_Wt T) (tm_Et T) q) tm_pc (2 ^ T 2)), upd I2 12 0, A2, 2, ?_, I4, A4, ?_, tm_done h f12 z2 (f4) (fun c hc => (f5 c hc).trans (f3 c hc))⟩
    · unfold g_X9_bricks
      dsimp only [tw_let, g_X9_grant]
      rw [tm_9Quarrel_t hC hW hq, if_pos rfl, e1, Option.bind_some]
      dsimp only
      rw [e2, Option.bind_some]
    · unfold g_X10_bricks g_X10_good
      dsimp only [tw_let, g_X10_no]
      rw [tm_10Quarrel_t r1 hW r3 hq, Option.bind_some, if_pos rfl, e3, Option.bind_some]
      rw [e4, Option.bind_some]
  · refine ⟨-1, upd I 12 1, A, sc, ?_, _, A, ?_, tm_ref h (w := 1) (by decide)⟩
    · unfold g_X9_bricks
      dsimp only [tw_let, g_X9_refuse]
      rw [tm_9Quarrel_f hC hW ka, if_neg (by decide)]
    · unfold g_X10_bricks g_X10_good
      dsimp only [tw_let, g_X10_no]
      rw [tm_10Quarrel_f hR hW ka, Option.bind_some, if_neg (by decide)]
