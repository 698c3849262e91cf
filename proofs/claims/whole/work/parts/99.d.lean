/-! led: what the class's own run comes to, and the reference's -/
def g_X9_led_L1 (a1 : Int32) : Nat → Int32 → Int32 → (Nat → Int32) → (Nat → Nat → Int32) → Option (Option Int32 × (Nat → Int32) × (Nat → Nat → Int32))
  | 0, _, _, _, _ => none
  | n + 1, v2, v3, I, A => if (g_X8_count_2 A (5 : Int32)) ≤ v3 then (some (none, I, A)) else ((g_X1_runAsTold I A v3).bind fun (I1, A1) => if (I1 3902) = (-2 : Int32) then (if v2 = a1 then (some (some v3, I1, A1)) else (g_X9_led_L1 a1 n (v2 + (1 : Int32)) (v3 + (1 : Int32)) I1 A1)) else (g_X9_led_L1 a1 n v2 (v3 + (1 : Int32)) I1 A1))
def g_X9_led (I : Nat → Int32) (A : Nat → Nat → Int32) (a1 : Int32) : Option (Option Int32 × (Nat → Int32) × (Nat → Nat → Int32)) := (g_X9_showNow I A).bind fun (I1, A1) => g_X9_led_L1 a1 4096 (0 : Int32) (0 : Int32) I1 A1
def tw_MP (y : Nat) (c : tw_C) (P : tw_C → Prop) : Prop := ∃ n c', tw_run n y c = some c' ∧ P c'
section
variable {y : Nat} {cd : List tw_E} {P : tw_C → Prop}
theorem tw_brP (hc : tw_code y = cd) {k : Nat} {e : tw_E} (he : cd[k]? = some e) (hp : tw_pl e = true) {ls : tw_Ls} {st : List Value} {σ : tw_S} {c1 : tw_C} (hx : tw_s1 cd e k ls st σ = some c1) (h : tw_MP y c1 P) : tw_MP y (k, ls, st, σ) P := by
  obtain ⟨n, c', h1, h2⟩ := h
  refine ⟨n + 1, c', ?_, h2⟩
  subst hc
  simp only [tw_pl, Bool.not_eq_true', Bool.or_eq_false_iff] at hp
  rw [tw_run, he]
  dsimp only
  rw [hp.1, hp.2, hx]
  simpa using h1
theorem tw_blkP0 (hc : tw_code y = cd) {c1 : tw_C} : ∀ (n : Nat) (k : Nat) (ls : tw_Ls) (st : List Value) (σ : tw_S), tw_ex cd n (cd.drop k) k ls st σ = some c1 → tw_MP y c1 P → tw_MP y (k, ls, st, σ) P
  | 0, k, ls, st, σ, hx, h => by
    rw [tw_ex] at hx
    cases hx
    exact h
  | n + 1, k, ls, st, σ, hx, h => by
    cases hd : cd.drop k with
    | nil => rw [hd, tw_ex] at hx; cases hx
    | cons e es =>
      rw [hd, tw_ex] at hx
      have hlt : k < cd.length := by
        rcases Nat.lt_or_ge k cd.length with q | q
        · exact q
        · rw [List.drop_eq_nil_of_le q] at hd; cases hd
      rw [List.drop_eq_getElem_cons hlt] at hd
      injection hd with hd1 hd2
      have he : cd[k]? = some e := by rw [List.getElem?_eq_getElem hlt, hd1]
      split at hx
      · next hp =>
        split at hx
        · next k1 ls1 st1 σ1 hs =>
          split at hx
          · next hk =>
            refine tw_brP hc he hp hs ?_
            rcases hk with hk | hk
            · subst hk
              rw [← hd2] at hx
              exact tw_blkP0 hc n (k + 1) ls1 st1 σ1 hx h
            · subst hk
              rw [tw_ex] at hx
              cases hx
              exact h
          · cases hx
        · cases hx
      · cases hx
theorem tw_blkP (hc : tw_code y = cd) (n : Nat) {k : Nat} {ls : tw_Ls} {st : List Value} {σ : tw_S} {c1 : tw_C} (hx : tw_ex cd n (cd.drop k) k ls st σ = some c1) (h : tw_MP y c1 P) : tw_MP y (k, ls, st, σ) P := tw_blkP0 hc n k ls st σ hx h
theorem tw_calP (hc : tw_code y = cd) {k : Nat} {e : tw_E} (he : cd[k]? = some e) (hp : (!tw_end e && tw_call e) = true) {ls : tw_Ls} {st as rest : List Value} {σ σ' : tw_S} {r : Option Value} (hpre : tw_pre e st σ.2.2.2.2.2 = some (as, rest)) (hal : Nat.ble (tw_al as).length (tw_ml e.2.2.2.1) = true) (hcal : tw_ME e.2.2.2.1 (0, tw_args as (tw_ml e.2.2.2.1), [], σ) (r, σ')) (hn : σ'.2.2.2.2.2 = σ.2.2.2.2.2 ∨ tw_vok σ.2.2.2.2.2 ls rest = true) (h : tw_MP y (k + 1, ls, r.toList ++ rest, σ') P) : tw_MP y (k, ls, st, σ) P := by
  obtain ⟨n1, c1, h1, h2⟩ := hcal
  obtain ⟨n2, c2, h3, h4⟩ := h
  subst hc
  rw [Bool.and_eq_true, Bool.not_eq_true'] at hp
  refine ⟨max n1 n2 + 1, c2, ?_, h4⟩
  rw [tw_run, he]
  dsimp only
  rw [hp.1, hp.2, hpre]
  dsimp only
  rw [if_neg (by decide), if_pos rfl, if_pos (Nat.le_of_ble_eq_true hal), tw_run_le h1 (Nat.le_max_left _ _)]
  dsimp only
  rw [h2]
  dsimp only
  rw [if_pos hn]
  exact tw_run_le h3 (Nat.le_max_right _ _)
theorem tw_endP (hc : tw_code y = cd) {k : Nat} {e : tw_E} (he : cd[k]? = some e) (hp : tw_end e = true) {ls : tw_Ls} {st : List Value} {σ : tw_S} (ho : P (k, ls, st, σ)) : tw_MP y (k, ls, st, σ) P := by
  subst hc
  refine ⟨1, (k, ls, st, σ), ?_, ho⟩
  rw [tw_run, he]
  dsimp only
  rw [if_pos hp]
end
/-- where led's run ends: at its return, or at the making of the exception -/
def tw_lend (r : Option Int32) (σ : tw_S) (c' : tw_C) : Prop := match r with
  | some q => tw_out 170 c' = some (some (.int q), σ)
  | none => c'.1 = 29 ∧ c'.2.2.1 = [] ∧ c'.2.2.2 = σ
theorem tw_ledL (L : Nat → Int64) (J : Nat → Nat → Int64) (rt : Nat) (a1 : Int32) : ∀ (n : Nat) (v2 v3 : Int32) (I : Nat → Int32) (A : Nat → Nat → Int32) (r : Option Int32) (I9 : Nat → Int32) (A9 : Nat → Nat → Int32), g_X9_led_L1 a1 n v2 v3 I A = some (r, I9, A9) → tw_MP 170 (6, [some (.ref 0), some (.int a1), some (.int v2), some (.int v3)], [], (I, L, tw_P 2 14 rt 2, A, J, 57)) (tw_lend r (I9, L, tw_P 2 14 rt 2, A9, J, 57)) := by
  intro n
  induction n with
  | zero =>
    intro v2 v3 I A r I9 A9 h
    cases h
  | succ n ih =>
    intro v2 v3 I A r I9 A9 h
    rw [g_X9_led_L1] at h
    refine tw_blkP (cd := tw_c170) rfl 4 (c1 := (10, [some (.ref 0), some (.int a1), some (.int v2), some (.int v3)], [.int 5, .ref 2, .int v3], (I, L, tw_P 2 14 rt 2, A, J, 57))) rfl ?_
    refine tw_calP (cd := tw_c170) rfl rfl rfl rfl rfl (e_X8_count_2 I L A J 2 14 rt 2 (5 : Int32) _ rfl) (by exact Or.inl rfl) ?_
    by_cases hc : (g_X8_count_2 A (5 : Int32)) ≤ v3
    · rw [if_pos hc] at h
      cases h
      refine tw_brP (cd := tw_c170) rfl rfl rfl (by exact if_pos hc) ?_
      exact tw_endP (cd := tw_c170) rfl rfl rfl ⟨rfl, rfl, rfl⟩
    · rw [if_neg hc] at h
      refine tw_brP (cd := tw_c170) rfl rfl rfl (by exact if_neg hc) ?_
      refine tw_blkP (cd := tw_c170) rfl 3 (c1 := (15, [some (.ref 0), some (.int a1), some (.int v2), some (.int v3)], [.int v3, .ref 39], (I, L, tw_P 2 14 rt 2, A, J, 57))) rfl ?_
      obtain ⟨⟨I1, A1⟩, h1, h⟩ := tw_bindE h
      dsimp only at h
      refine tw_calP (cd := tw_c170) rfl rfl rfl rfl rfl (e_X1_runAsTold I L A J 2 14 rt v3 _ h1) (by exact Or.inl rfl) ?_
      refine tw_blkP (cd := tw_c170) rfl 4 (c1 := (20, [some (.ref 0), some (.int a1), some (.int v2), some (.int v3)], [.int (-2), .int (I1 3902)], (I1, L, tw_P 2 14 rt 2, A1, J, 57))) rfl ?_
      by_cases h2 : (I1 3902) = (-2 : Int32)
      · rw [if_pos h2] at h
        refine tw_brP (cd := tw_c170) rfl rfl rfl (by exact if_pos h2) ?_
        refine tw_blkP (cd := tw_c170) rfl 2 (c1 := (23, [some (.ref 0), some (.int a1), some (.int v2), some (.int v3)], [.int a1, .int v2], (I1, L, tw_P 2 14 rt 2, A1, J, 57))) rfl ?_
        by_cases h3 : v2 = a1
        · rw [if_pos h3] at h
          cases h
          refine tw_brP (cd := tw_c170) rfl rfl rfl (by exact if_pos h3) ?_
          refine tw_blkP (cd := tw_c170) rfl 1 (c1 := (25, [some (.ref 0), some (.int a1), some (.int v2), some (.int v3)], [.int v3], (I9, L, tw_P 2 14 rt 2, A9, J, 57))) rfl ?_
          exact tw_endP (cd := tw_c170) rfl rfl rfl (show tw_out 170 _ = _ from rfl)
        · rw [if_neg h3] at h
          refine tw_brP (cd := tw_c170) rfl rfl rfl (by exact if_neg h3) ?_
          refine tw_blkP (cd := tw_c170) rfl 3 (c1 := (6, [some (.ref 0), some (.int a1), some (.int (v2 + (1 : Int32))), some (.int (v3 + (1 : Int32)))], [], (I1, L, tw_P 2 14 rt 2, A1, J, 57))) rfl ?_
          exact ih _ _ _ _ _ _ _ h
      · rw [if_neg h2] at h
        refine tw_brP (cd := tw_c170) rfl rfl rfl (by exact if_neg h2) ?_
        refine tw_blkP (cd := tw_c170) rfl 2 (c1 := (6, [some (.ref 0), some (.int a1), some (.int v2), some (.int (v3 + (1 : Int32)))], [], (I1, L, tw_P 2 14 rt 2, A1, J, 57))) rfl ?_
        exact ih _ _ _ _ _ _ _ h
theorem tw_led (I : Nat → Int32) (L : Nat → Int64) (A : Nat → Nat → Int32) (J : Nat → Nat → Int64) (rt sc : Nat) (a1 : Int32) {r : Option Int32} {I9 : Nat → Int32} {A9 : Nat → Nat → Int32} (h : g_X9_led I A a1 = some (r, I9, A9)) : tw_MP 170 (0, [some (.ref 0), some (.int a1), none, none], [], (I, L, tw_P 2 14 rt sc, A, J, 57)) (tw_lend r (I9, L, tw_P 2 14 rt 2, A9, J, 57)) := by
  unfold g_X9_led at h
  obtain ⟨⟨I1, A1⟩, h1, h⟩ := tw_bindE h
  dsimp only at h
  refine tw_blkP (cd := tw_c170) rfl 1 (c1 := (1, [some (.ref 0), some (.int a1), none, none], [.ref 0], (I, L, tw_P 2 14 rt sc, A, J, 57))) rfl ?_
  refine tw_calP (cd := tw_c170) rfl rfl rfl rfl rfl (e_X9_showNow I L A J rt sc _ h1) (by exact Or.inl rfl) ?_
  refine tw_blkP (cd := tw_c170) rfl 4 (c1 := (6, [some (.ref 0), some (.int a1), some (.int 0), some (.int 0)], [], (I1, L, tw_P 2 14 rt 2, A1, J, 57))) rfl ?_
  exact tw_ledL L J rt a1 4096 _ _ _ _ _ _ _ h
/-! its mathematics -/
def tm_lq (o : Nat → Bool) (a : Int32) : Nat → Nat → Nat → Option Nat
  | 0, _, _ => none
  | d + 1, c, q => if o q = true then (if nI c = a then some q else tm_lq o a d (c + 1) (q + 1)) else tm_lq o a d c (q + 1)
def tm_oq (T : Nat → Nat) (B : Nat) (h W E : Nat → Nat) (q : Nat) : Bool := decide ((tm_res T B h W E q (T (82 + 5 * q)) (T (83 + 5 * q))).1 = (-2 : Int32))
theorem tm_le9 {T : Nat → Nat} {B : Nat} {h W E : Nat → Nat} (hW : tm_W T) (hSB : tm_SB T B h W E) (a : Int32) : ∀ d q c m (I : Nat → Int32) (A : Nat → Nat → Int32), T 5 - q = d → d < m → q ≤ T 5 → tm_K9 I A T B h W E → ∃ I1 A1, g_X9_led_L1 a m (nI c) (nI q) I A = some ((tm_lq (tm_oq T B h W E) a d c q).map nI, I1, A1) ∧ tm_K9 I1 A1 T B h W E ∧ tm_f9 I A I1 A1 := by
  have h5 := tm_W_b5 hW
  intro d
  induction d with
  | zero =>
    intro q c m I A hd hm hq hK
    obtain ⟨m, rfl⟩ : ∃ z, m = z + 1 := ⟨m - 1, by omega⟩
    refine ⟨I, A, ?_, hK, tm_f9_r I A⟩
    rw [g_X9_led_L1, tm_cn5 hK.1, if_pos (nI_le (by omega) (by omega))]
    rfl
  | succ d ih =>
    intro q c m I A hd hm hq hK
    obtain ⟨m, rfl⟩ : ∃ z, m = z + 1 := ⟨m - 1, by omega⟩
    have hq2 : q < T 5 := by omega
    obtain ⟨I2, A2, e1, e2, e3, e4, -⟩ := tm_rt9 hW hK hSB hq2
    rw [g_X9_led_L1, tm_cn5 hK.1, if_neg (nI_ge hq2 (by omega)), e1, Option.bind_some, tm_lq]
    dsimp only
    rw [e2.1, ← nI_succ, ← nI_succ]
    by_cases g : (tm_res T B h W E q (T (82 + 5 * q)) (T (83 + 5 * q))).1 = (-2 : Int32)
    · rw [if_pos g, if_pos (show tm_oq T B h W E q = true from decide_eq_true g)]
      by_cases g2 : nI c = a
      · rw [if_pos g2, if_pos g2]
        exact ⟨I2, A2, rfl, e3, e4⟩
      · rw [if_neg g2, if_neg g2]
        obtain ⟨I3, A3, f1, f2, f3⟩ := ih (q + 1) (c + 1) m I2 A2 (by omega) (by omega) (by omega) e3
        exact ⟨I3, A3, f1, f2, tm_f9_t e4 f3⟩
    · rw [if_neg g, if_neg (show ¬ tm_oq T B h W E q = true from fun z => g (of_decide_eq_true z))]
      obtain ⟨I3, A3, f1, f2, f3⟩ := ih (q + 1) c m I2 A2 (by omega) (by omega) (by omega) e3
      exact ⟨I3, A3, f1, f2, tm_f9_t e4 f3⟩
theorem tm_le10 {T s : Nat → Nat} (hW : tm_W T) {x y z : Int32} (h1 : T 1 ≠ 0) (hs : ∀ p, p < 6 → s p ≤ T 1) (hs6 : s 6 < 256) (a : Int32) : ∀ d q c m (I : Nat → Int32) (A : Nat → Nat → Int32), T 5 - q = d → d < m → q ≤ T 5 → tm_R A T → tm_row T x y z (A 49) s → tm_H I T → ∃ b I1 A1, g_X10_led_L1 a (fun (I1, A2) => some ((0 : Int32), (upd I1 4400 (1 : Int32)), A2)) m (nI c) (nI q) I A = some (b, I1, A1) ∧ (∀ k, k < 4425 → k ≠ 4400 → I1 k = I k) ∧ (∀ c, c < 52 → A1 c = A c) ∧ match tm_lq (tm_oq T (s 6) s (tm_Wt T) (tm_Et T)) a d c q with
    | some q => b = nI q ∧ I1 4400 = 0
    | none => I1 4400 = 1 := by
  have h5 := tm_W_b5 hW
  have hSB := tm_SBt hW hs hs6
  intro d
  induction d with
  | zero =>
    intro q c m I A hd hm hq hR hrow hH
    obtain ⟨m, rfl⟩ : ∃ z, m = z + 1 := ⟨m - 1, by omega⟩
    refine ⟨0, upd I 4400 1, A, ?_, fun k _ k2 => tm_un _ k2, fun _ _ => rfl, tm_us _ _ _⟩
    have e : ¬ I 4414 = 0 := by rw [hH, if_neg h1]; decide
    rw [g_X10_led_L1, if_neg e, tm_r_c5 hR, Option.bind_some, if_pos (nI_le (by omega) (by omega))]
  | succ d ih =>
    intro q c m I A hd hm hq hR hrow hH
    obtain ⟨m, rfl⟩ : ∃ z, m = z + 1 := ⟨m - 1, by omega⟩
    have hq2 : q < T 5 := by omega
    have e : ¬ I 4414 = 0 := by rw [hH, if_neg h1]; decide
    obtain ⟨A2, e3, k3, f3⟩ := tm_now10 hW hR hrow
    obtain ⟨I2, e4, x4, f4⟩ := tm_rt10 (I := I) hW k3 hSB hq2
    have eg : g_X10_goOver I A (nI q) = some (true, I2, A2) := by
      unfold g_X10_goOver
      rw [tm_10Quarrel_t hR hW hH hq2, Option.bind_some, if_pos rfl, e3, Option.bind_some, e4, Option.bind_some]
    have hR2 := tm_R_of hR (f3 47 (by decide))
    have hrow2 : tm_row T x y z (A2 49) s := by rw [f3 49 (by decide)]; exact hrow
    have hH2 := tm_H_of hH (f4 4414 (by decide))
    rw [g_X10_led_L1, if_neg e, tm_r_c5 hR, Option.bind_some, if_neg (nI_ge hq2 (by omega)), eg, Option.bind_some, tm_lq]
    dsimp only
    rw [x4.1, ← nI_succ, ← nI_succ]
    by_cases g : (tm_res T (s 6) s (tm_Wt T) (tm_Et T) q (T (82 + 5 * q)) (T (83 + 5 * q))).1 = (-2 : Int32)
    · rw [if_pos g, if_pos (show tm_oq T (s 6) s (tm_Wt T) (tm_Et T) q = true from decide_eq_true g)]
      by_cases g2 : nI c = a
      · rw [if_pos g2, if_pos g2]
        exact ⟨nI q, _, A2, rfl, fun k k1 k2 => (tm_un _ k2).trans (f4 k (by omega)), f3, rfl, tm_us _ _ _⟩
      · rw [if_neg g2, if_neg g2]
        obtain ⟨b, I3, A3, p1, p2, p3, p4⟩ := ih (q + 1) (c + 1) m I2 A2 (by omega) (by omega) (by omega) hR2 hrow2 hH2
        exact ⟨b, I3, A3, p1, fun k k1 k2 => (p2 k k1 k2).trans (f4 k (by omega)), fun d hd => (p3 d hd).trans (f3 d hd), p4⟩
    · rw [if_neg g, if_neg (show ¬ tm_oq T (s 6) s (tm_Wt T) (tm_Et T) q = true from fun z => g (of_decide_eq_true z))]
      obtain ⟨b, I3, A3, p1, p2, p3, p4⟩ := ih (q + 1) c m I2 A2 (by omega) (by omega) (by omega) hR2 hrow2 hH2
      exact ⟨b, I3, A3, p1, fun k k1 k2 => (p2 k k1 k2).trans (f4 k (by omega)), fun d hd => (p3 d hd).trans (f3 d hd), p4⟩
theorem tm_q_led {I : Nat → Int32} {A : Nat → Nat → Int32} (h : tm_Inv I A) (a : Int32) : ∃ r I1 A1, g_X9_led I A a = some (r, I1, A1) ∧ ∃ b I2 A2, g_X10_led I1 A1 a = some (b, I2, A2) ∧ tm_Inv I2 A2 ∧ match r with
    | some q => b = q ∧ I2 4400 = 0
    | none => I2 4400 = 1 := by
  obtain ⟨⟨T, s, U, V, t, hP⟩, hT, hS⟩ := id h
  obtain ⟨hW, hR, hC, hH, hrow, hrest⟩ := id hP
  have hs : ∀ p, p < 6 → s p ≤ T 1 := fun p hp => (hrow.1 p hp).2
  have hSB := tm_SBt hW hs hrow.2.2.1
  have h5 := tm_W_b5 hW
  obtain ⟨I1, A1, e1, k1, f1, s1⟩ := tm_now9 hP hS
  obtain ⟨I2, A2, e2, k2, f2⟩ := tm_le9 hW hSB a (T 5) 0 0 4096 I1 A1 rfl (by omega) (Nat.zero_le _) k1
  have f12 := tm_f9_t f1 f2
  have hR2 : tm_R A2 T := tm_R_of hR (f12.2 47 (by decide))
  have hrow2 : tm_row T (I 3300) (I 3301) (I 3302) (A2 49) s := by rw [f12.2 49 (by decide)]; exact hrow
  have hH2 : tm_H I2 T := tm_H_of hH (f12.1 4414 (by decide))
  have key : ∃ b I3 A3, g_X10_led I2 A2 a = some (b, I3, A3) ∧ (∀ k, k < 4425 → k ≠ 4400 → I3 k = I2 k) ∧ (∀ c, c < 52 → A3 c = A2 c) ∧ match tm_lq (tm_oq T (s 6) s (tm_Wt T) (tm_Et T)) a (T 5) 0 0 with
      | some q => b = nI q ∧ I3 4400 = 0
      | none => I3 4400 = 1 := by
    by_cases h1 : T 1 = 0
    · have z5 : T 5 = 0 := tm_W_n hW h1 5 (by decide)
      refine ⟨0, upd I2 4400 1, A2, ?_, fun k _ k2 => tm_un _ k2, fun _ _ => rfl, ?_⟩
      · unfold g_X10_led
        rw [g_X10_led_L1, if_pos (by rw [hH2, if_pos h1])]
      · rw [z5]
        exact tm_us _ _ _
    · exact tm_le10 hW h1 hs hrow.2.2.1 a (T 5) 0 0 4096 I2 A2 rfl (by omega) (Nat.zero_le _) hR2 hrow2 hH2
  obtain ⟨b, I3, A3, p1, p2, p3, p4⟩ := key
  have hI : ∀ k, (k < 3600 ∨ 4300 ≤ k) → k < 4425 → k ≠ 4400 → I3 k = I k := fun k q1 q2 q3 => (p2 k q2 q3).trans (f12.1 k (by omega))
  refine ⟨(tm_lq (tm_oq T (s 6) s (tm_Wt T) (tm_Et T)) a (T 5) 0 0).map nI, I2, A2, ?_, b, I3, A3, p1, ⟨⟨T, s, U, V, t, tm_P_of hP (fun k hk => hI k (by omega) (by omega) (by omega)) (fun c hc => (p3 c (by omega)).trans (f12.2 c (by omega)))⟩, ?_, ?_⟩, ?_⟩
  · unfold g_X9_led
    rw [e1, Option.bind_some]
    exact e2
  · unfold tm_Tr
    rw [hI 12 (by decide) (by decide) (by decide), hI 4411 (by decide) (by decide) (by decide), hI 10 (by decide) (by decide) (by decide), hI 4409 (by decide) (by decide) (by decide), hI 11 (by decide) (by decide) (by decide), hI 4410 (by decide) (by decide) (by decide)]
    exact hT
  · obtain ⟨z, z1, z2⟩ := k2.2.2
    exact ⟨z, z1, (p2 3907 (by decide) (by decide)).trans z2⟩
  · cases hq : tm_lq (tm_oq T (s 6) s (tm_Wt T) (tm_Et T)) a (T 5) 0 0 with
    | some q =>
      rw [hq] at p4
      exact p4
    | none =>
      rw [hq] at p4
      exact p4
