/-! MATHEMATICS, 5: how one quarrel goes, in both -/
def tm_two (T : Nat → Nat) (q : Nat) : Nat := 2 ^ T (80 + 5 * q) ||| 2 ^ T (81 + 5 * q)
def tm_gain (T W : Nat → Nat) (q : Nat) : Int32 := nI (W (T (80 + 5 * q))) - nI (W (T (81 + 5 * q)))
abbrev tm_Res : Type := Int32 × Int32 × Int32 × Nat × Nat × Nat
/-- how, when, lead, who has seen it, who had ahead of it, the minute behind -/
def tm_run (Sn : Nat → Nat) (ey : Nat → Nat) (g nd : Int32) (b : Nat → Bool) : Nat → Nat → Nat → Nat → Nat → Int32 → tm_Res
  | 0, m, saw, pre, _, lead => (-2, -2, lead, saw, pre, m)
  | k + 1, m, saw, _, boys, lead => if 6 ≤ ey (saw ||| Sn m) + 2 * (boys + (b m).toNat) then (0, nI m, lead, saw ||| Sn m, saw, m + 1) else if tw_abs (lead + g) < nd then tm_run Sn ey g nd b k (m + 1) (saw ||| Sn m) saw (boys + (b m).toNat) (lead + g) else (if lead + g ≤ 0 then 2 else 1, nI m, lead + g, saw ||| Sn m, saw, m + 1)
def tm_sd (z : Nat) : Nat → Nat
  | 0 => z
  | k + 1 => (75 * tm_sd z k + 74) % 65537
theorem tm_sd_lt {z : Nat} (hz : z < 65537) : ∀ k, tm_sd z k < 65537
  | 0 => hz
  | k + 1 => Nat.mod_lt _ (by decide)
theorem tm_bdr (z bd : Nat) (hz : z < 65537) (hb : bd ≤ 100) {I : Nat → Int32} (hI : I 3907 = nI z) : g_X1_drawsBelow I (nI bd) = (decide ((75 * z + 74) % 65537 % 100 < bd), upd I 3907 (nI ((75 * z + 74) % 65537))) := by
  have e1 : ((75 : Int32) * nI z) + (74 : Int32) = nI (75 * z + 74) := by
    rw [show (75 : Int32) * nI z = nI (75 * z) from pk_mul 75 z]
    exact nI_add _ 74
  have e2 : nI (75 * z + 74) - nI (75 * z + 74) / (65537 : Int32) * (65537 : Int32) = nI ((75 * z + 74) % 65537) := pk_rem (d := 65537) (by omega) (by decide) (by decide)
  have hl : (75 * z + 74) % 65537 < 65537 := Nat.mod_lt _ (by decide)
  have e3 : nI ((75 * z + 74) % 65537) - nI ((75 * z + 74) % 65537) / (100 : Int32) * (100 : Int32) = nI ((75 * z + 74) % 65537 % 100) := pk_rem (d := 100) (by omega) (by decide) (by decide)
  have hl2 : (75 * z + 74) % 65537 % 100 < 100 := Nat.mod_lt _ (by decide)
  unfold g_X1_drawsBelow
  rw [hI, e1, e2, e3]
  by_cases h : (75 * z + 74) % 65537 % 100 < bd
  · rw [if_neg (nI_ge h (by omega)), decide_eq_true h]
  · rw [if_pos (nI_le (by omega) (by omega)), decide_eq_false h]
theorem tm_W_two {T : Nat → Nat} (hW : tm_W T) {q : Nat} (hq : q < T 5) : tm_two T q < 64 := by
  have h3 := tm_W_b3 hW
  have h := tm_W_q hW q hq
  exact Nat.or_lt_two_pow (n := 6) (tm_p6 (by omega)) (tm_p6 (by omega))
theorem tm_twoOf {A : Nat → Nat → Int32} {T : Nat → Nat} (hC : tm_C A T) (hW : tm_W T) {q : Nat} (hq : q < T 5) : g_X8_twoOf_2 A (nI q) = nI (tm_two T q) := by
  have h3 := tm_W_b3 hW
  have h := tm_W_q hW q hq
  unfold g_X8_twoOf_2
  rw [tm_f0 hC hW hq, tm_f1 hC hW hq, tm_shl1 (by omega), tm_shl1 (by omega), tm_or]
  rfl
theorem tm_gainOf {A : Nat → Nat → Int32} {T W : Nat → Nat} (hC : tm_C A T) (hW : tm_W T) (hw : ∀ p, p < T 3 → A 37 p = nI (W p)) {q : Nat} (hq : q < T 5) : g_X1_gainOf A (nI q) = tm_gain T W q := by
  have h3 := tm_W_b3 hW
  have h := tm_W_q hW q hq
  unfold g_X1_gainOf g_X6_witOf
  rw [tm_f0 hC hW hq, tm_f1 hC hW hq, tm_get (by omega) (by decide), tm_get (by omega) (by decide), hw _ h.1, hw _ h.2.1]
  rfl
theorem tm_ey_or {E : Nat → Nat} (a b : Nat) : ∀ n, tm_ey E a n + tm_ey E (tm_dn (a ||| b) a) n = tm_ey E (a ||| b) n
  | 0 => rfl
  | n + 1 => by
    have ih := tm_ey_or (E := E) a b n
    show tm_ey E a n + (if a.testBit n = true then E n else 0) + (tm_ey E (tm_dn (a ||| b) a) n + (if (tm_dn (a ||| b) a).testBit n = true then E n else 0)) = tm_ey E (a ||| b) n + (if (a ||| b).testBit n = true then E n else 0)
    rw [tm_dnB, Nat.testBit_or]
    cases a.testBit n <;> cases b.testBit n <;> simp <;> omega
theorem tm_ey0 (E : Nat → Nat) : ∀ n, tm_ey E 0 n = 0
  | 0 => rfl
  | n + 1 => by
    show tm_ey E 0 n + (if (0 : Nat).testBit n = true then E n else 0) = 0
    rw [tm_ey0 E n, Nat.zero_testBit]
    rfl
theorem tm_dn_self (a : Nat) : tm_dn a a = 0 := tm_dn0.mpr fun _ h => h
theorem tm_dn_or {a b n : Nat} (ha : a < 2 ^ n) (hb : b < 2 ^ n) : a ||| b < 2 ^ n := Nat.or_lt_two_pow ha hb
/-- the class looks at a place for all minutes -/
theorem tm_watch {I : Nat → Int32} {A : Nat → Nat → Int32} {T : Nat → Nat} {B : Nat} {h W E : Nat → Nat} (hC : tm_C A T) (hW : tm_W T) (hS : tm_CS I A T B h W E) (hSB : tm_SB T B h W E) {t : Nat} (ht : t < T 1) : ∃ A1, g_X1_watch I A (nI t) = some A1 ∧ (∀ m, m < 60 → A1 40 m = nI (tm_wt T B h t m)) ∧ ∀ c, c ≠ 40 → A1 c = A c := by
  have L : ∃ r, g_X1_watch_L1 I (nI (tm_lkk T B t (T 2))) 4096 (nI 0) A = some r ∧ ((∀ m, m < 60 → r 40 m = nI (tm_wt T B h t m)) ∧ ∀ c, c ≠ 40 → r c = A c) := by
    refine tm_lr (fun n i s => g_X1_watch_L1 I (nI (tm_lkk T B t (T 2))) n i s) 60 0 (by decide) (fun i s => (∀ m, m < i → s 40 m = nI (tm_wt T B h t m)) ∧ ∀ c, c ≠ 40 → s c = A c) _ ?_ ?_ ⟨fun m hm => absurd hm (Nat.not_lt_zero m), fun _ _ => rfl⟩ (by decide)
    · rintro n s ⟨a, b⟩
      refine ⟨s, ?_, a, b⟩
      show g_X1_watch_L1 I _ (n + 1) (nI 60) s = some s
      rw [g_X1_watch_L1]
      exact if_pos (by decide)
    · rintro n i s _ hi _ ⟨a, b⟩
      have hs : tm_C s T := tm_C_of hC fun c c1 c2 => b c (by omega)
      have hS2 : tm_CS I s T B h W E := ⟨hS.1, hS.2.1, fun p hp => by rw [b 37 (by decide), b 38 (by decide)]; exact hS.2.2 p hp⟩
      refine Or.inr ⟨va_up s 40 (upd (s 40) i (nI (tm_wt T B h t i))), ⟨?_, ?_⟩, ?_⟩
      · intro m hm
        rw [tm_vs]
        by_cases e : m = i
        · subst e
          rw [tm_us]
        · rw [tm_un _ e]
          exact a m (by omega)
      · intro c hc
        rw [tm_vn _ hc, b c hc]
      · show g_X1_watch_L1 I _ (n + 1) (nI i) s = _
        rw [g_X1_watch_L1, if_neg (tm_ge60 hi), tm_wt9 hs hW hS2 hSB ht hi, Option.bind_some]
        dsimp only [tw_let]
        rw [tm_put hi (by decide), nI_succ]
  obtain ⟨r, e, a, b⟩ := L
  refine ⟨r, ?_, a, b⟩
  unfold g_X1_watch
  rw [tm_lk hC hW hS.1 hSB.1 ht, Option.bind_some, show (0 : Int32) = nI 0 from rfl, e, Option.bind_some]
def tm_sn (S : Nat → Nat) (two m : Nat) : Nat := tm_dn (S m) two
/-- the class's run from a minute, at the place that is watched -/
theorem tm_go {I : Nat → Int32} {A : Nat → Nat → Int32} {T W E : Nat → Nat} (hC : tm_C A T) (hW : tm_W T) (hw : ∀ p, p < T 3 → A 37 p = nI (W p)) (hE : ∀ p, p < T 3 → A 38 p = nI (E p)) (hE2 : ∀ p, p < T 3 → E p ≤ 2) {S : Nat → Nat} (hA : ∀ m, m < 60 → A 40 m = nI (S m)) (hS : ∀ m, S m < 2 ^ T 3) {q f bd z : Nat} (hq : q < T 5) (hf : f < 60) (hbd : bd ≤ 100) (hz : z < 65537) (hI : I 3907 = nI z) {r : tm_Res} (hr : tm_run (tm_sn S (tm_two T q)) (fun s => tm_ey E s (T 3)) (tm_gain T W q) (nI (T (84 + 5 * q))) (fun m => decide (tm_sd z (m - f + 1) % 100 < bd)) (60 - f) f 0 0 0 0 = r) : ∃ I1, g_X1_go I A (nI q) (nI f) (nI bd) = some I1 ∧ I1 3902 = r.1 ∧ I1 3903 = r.2.1 ∧ I1 3904 = r.2.2.1 ∧ I1 3905 = nI r.2.2.2.1 ∧ (r.1 = 0 → I1 3906 = nI (tm_dn r.2.2.2.1 r.2.2.2.2.1)) ∧ (r.1 ≠ 0 → I1 3906 = 0) ∧ I1 3907 = nI (tm_sd z (r.2.2.2.2.2 - f)) ∧ f ≤ r.2.2.2.2.2 ∧ ∀ k, k < 3902 ∨ 3907 < k → I1 k = I k := by
  have h3 := tm_W_b3 hW
  have h26 : (2 : Nat) ^ T 3 ≤ 64 := Nat.pow_le_pow_right (n := 2) (by decide) h3
  have L : ∃ I1, g_X1_go_L1 A (nI q) (nI bd) 4096 (0 : Int32) (nI f) (upd (upd (upd (upd (upd I 3902 (-2 : Int32)) 3903 (-2 : Int32)) 3904 (0 : Int32)) 3905 (0 : Int32)) 3906 (0 : Int32)) = some I1 ∧ (I1 3902 = r.1 ∧ I1 3903 = r.2.1 ∧ I1 3904 = r.2.2.1 ∧ I1 3905 = nI r.2.2.2.1 ∧ (r.1 = 0 → I1 3906 = nI (tm_dn r.2.2.2.1 r.2.2.2.2.1)) ∧ (r.1 ≠ 0 → I1 3906 = 0) ∧ I1 3907 = nI (tm_sd z (r.2.2.2.2.2 - f)) ∧ f ≤ r.2.2.2.2.2 ∧ ∀ k, k < 3902 ∨ 3907 < k → I1 k = I k) := by
    refine tm_lr (fun n i s => g_X1_go_L1 A (nI q) (nI bd) n s.1 i s.2) 60 f (by omega) (fun m s => ∃ saw pre boys lead, tm_run (tm_sn S (tm_two T q)) (fun s => tm_ey E s (T 3)) (tm_gain T W q) (nI (T (84 + 5 * q))) (fun m => decide (tm_sd z (m - f + 1) % 100 < bd)) (60 - m) m saw pre boys lead = r ∧ f ≤ m ∧ m ≤ 60 ∧ saw < 2 ^ T 3 ∧ boys ≤ m ∧ s.1 = nI (tm_ey E saw (T 3) + 2 * boys) ∧ s.2 3902 = -2 ∧ s.2 3903 = -2 ∧ s.2 3904 = lead ∧ s.2 3905 = nI saw ∧ s.2 3906 = 0 ∧ s.2 3907 = nI (tm_sd z (m - f)) ∧ ∀ k, k < 3902 ∨ 3907 < k → s.2 k = I k) _ ?_ ?_ (s := ((0 : Int32), upd (upd (upd (upd (upd I 3902 (-2 : Int32)) 3903 (-2 : Int32)) 3904 (0 : Int32)) 3905 (0 : Int32)) 3906 (0 : Int32))) ⟨0, 0, 0, 0, hr, Nat.le_refl _, by omega, Nat.two_pow_pos _, Nat.zero_le _, ?_, ?_, ?_, ?_, ?_, ?_, ?_, ?_⟩ (by omega)
    · rintro n ⟨v, I1⟩ ⟨saw, pre, boys, lead, a, b, c, d, e, e0, e1, e2, e3, e4, e5, e6, e7⟩
      dsimp only at e0 e1 e2 e3 e4 e5 e6 e7
      rw [Nat.sub_self, tm_run] at a
      subst a
      refine ⟨I1, ?_, e1, e2, e3, e4, fun q => absurd (show (-2 : Int32) = 0 from q) (by decide), fun _ => e5, e6, b, e7⟩
      show g_X1_go_L1 A (nI q) (nI bd) (n + 1) v (nI 60) I1 = some I1
      rw [g_X1_go_L1]
      exact if_pos (by decide)
    · rintro n m ⟨v, I1⟩ _ hm hn ⟨saw, pre, boys, lead, a, b, c, d, e, e0, e1, e2, e3, e4, e5, e6, e7⟩
      dsimp only at e0 e1 e2 e3 e4 e5 e6 e7
      obtain ⟨n, rfl⟩ : ∃ k, n = k + 1 := ⟨n - 1, by omega⟩
      have hsm := hS m
      have hdn : tm_sn S (tm_two T q) m < 2 ^ T 3 := tm_dn_lt hsm
      have hor : saw ||| tm_sn S (tm_two T q) m < 2 ^ T 3 := tm_dn_or d hdn
      have hey := tm_ey_le (saw ||| tm_sn S (tm_two T q) m) hE2
      have hx : tm_ey E saw (T 3) + tm_ey E (tm_dn (saw ||| tm_sn S (tm_two T q) m) saw) (T 3) = tm_ey E (saw ||| tm_sn S (tm_two T q) m) (T 3) := tm_ey_or saw _ _
      have X : g_X1_go_L1 A (nI q) (nI bd) (n + 1 + 1) v (nI m) I1 = (if (nI (tm_ey E (saw ||| tm_sn S (tm_two T q) m) (T 3) + 2 * (boys + (decide (tm_sd z (m - f + 1) % 100 < bd)).toNat))) < (6 : Int32) then (if (tw_abs (lead + tm_gain T W q)) < (nI (T (84 + 5 * q))) then (some (upd (upd (upd I1 3905 (nI (saw ||| tm_sn S (tm_two T q) m))) 3907 (nI (tm_sd z (m - f + 1)))) 3904 (lead + tm_gain T W q))) else ((if (lead + tm_gain T W q) ≤ 0 then (some (2 : Int32)) else (some (1 : Int32))).bind fun x20 => some (upd (upd (upd (upd (upd I1 3905 (nI (saw ||| tm_sn S (tm_two T q) m))) 3907 (nI (tm_sd z (m - f + 1)))) 3904 (lead + tm_gain T W q)) 3902 x20) 3903 (nI m)))) else (some (upd (upd (upd (upd (upd I1 3905 (nI (saw ||| tm_sn S (tm_two T q) m))) 3907 (nI (tm_sd z (m - f + 1)))) 3902 (0 : Int32)) 3903 (nI m)) 3906 (nI (tm_dn (saw ||| tm_sn S (tm_two T q) m) saw))))).bind fun I16 => g_X1_go_L1 A (nI q) (nI bd) (n + 1) (nI (tm_ey E (saw ||| tm_sn S (tm_two T q) m) (T 3) + 2 * (boys + (decide (tm_sd z (m - f + 1) % 100 < bd)).toNat))) (nI (m + 1)) I16 := by
        have hsd : (75 * tm_sd z (m - f) + 74) % 65537 = tm_sd z (m - f + 1) := rfl
        have heye : (if nI (saw ||| tm_sn S (tm_two T q) m) = nI saw then (some (0 : Int32)) else ((g_X6_eyesOf A (nI (tm_dn (saw ||| tm_sn S (tm_two T q) m) saw))).bind fun x7 => some x7)) = some (nI (tm_ey E (tm_dn (saw ||| tm_sn S (tm_two T q) m) saw) (T 3))) := by
          split
          · next g =>
            have g2 := (nI_eq (by omega) (by omega)).mp g
            rw [g2, tm_dn_self, tm_ey0]
            rfl
          · rw [tm_eye9 hW hE (tm_dn_lt hor), Option.bind_some]
        rw [g_X1_go_L1, if_neg (tm_ge60 hm), if_pos e1, tm_get hm (by decide), hA m hm, tm_twoOf hC hW hq, e4, tm_dnI, show tm_dn (S m) (tm_two T q) = tm_sn S (tm_two T q) m from rfl, tm_or, tm_dnI, heye, Option.bind_some, tm_bdr (tm_sd z (m - f)) bd (tm_sd_lt hz _) hbd (by rw [tm_un _ (by decide)]; exact e6), hsd, tm_gainOf hC hW hw hq, tm_f4 hC hW hq]
        have hJ4 : upd (upd I1 3905 (nI (saw ||| tm_sn S (tm_two T q) m))) 3907 (nI (tm_sd z (m - f + 1))) 3904 = lead := by
          rw [tm_un _ (by decide), tm_un _ (by decide)]
          exact e3
        have hJ5 : upd (upd I1 3905 (nI (saw ||| tm_sn S (tm_two T q) m))) 3907 (nI (tm_sd z (m - f + 1))) 3905 = nI (saw ||| tm_sn S (tm_two T q) m) := by
          rw [tm_un _ (by decide), tm_us]
        generalize upd (upd I1 3905 (nI (saw ||| tm_sn S (tm_two T q) m))) 3907 (nI (tm_sd z (m - f + 1))) = J at hJ4 hJ5 ⊢
        subst hJ4
        dsimp only [tw_let]
        rw [hJ5, tm_dnI, e0, ← nI_succ]
        cases decide (tm_sd z (m - f + 1) % 100 < bd)
        · rw [if_neg (by decide), Option.bind_some, nI_add, show (0 : Int32) = nI 0 from rfl, nI_add, show tm_ey E saw (T 3) + 2 * boys + tm_ey E (tm_dn (saw ||| tm_sn S (tm_two T q) m) saw) (T 3) + 0 = tm_ey E (saw ||| tm_sn S (tm_two T q) m) (T 3) + 2 * (boys + Bool.toNat false) by rw [show Bool.toNat false = 0 from rfl]; omega]
        · rw [if_pos rfl, Option.bind_some, nI_add, show (2 : Int32) = nI 2 from rfl, nI_add, show tm_ey E saw (T 3) + 2 * boys + tm_ey E (tm_dn (saw ||| tm_sn S (tm_two T q) m) saw) (T 3) + 2 = tm_ey E (saw ||| tm_sn S (tm_two T q) m) (T 3) + 2 * (boys + Bool.toNat true) by rw [show Bool.toNat true = 1 from rfl]; omega]
      have hbt := tm_tb (decide (tm_sd z (m - f + 1) % 100 < bd))
      rw [show 60 - m = (59 - m) + 1 by omega, tm_run] at a
      dsimp only at a ⊢
      rw [X]
      by_cases g1 : 6 ≤ tm_ey E (saw ||| tm_sn S (tm_two T q) m) (T 3) + 2 * (boys + (decide (tm_sd z (m - f + 1) % 100 < bd)).toNat)
      · rw [if_pos g1] at a
        subst a
        rw [if_neg (tm_nlt6 g1 (by omega)), Option.bind_some]
        refine Or.inl ⟨upd (upd (upd (upd (upd I1 3905 (nI (saw ||| tm_sn S (tm_two T q) m))) 3907 (nI (tm_sd z (m - f + 1)))) 3902 (0 : Int32)) 3903 (nI m)) 3906 (nI (tm_dn (saw ||| tm_sn S (tm_two T q) m) saw)), ?_, ?_, ?_, ?_, ?_, ?_, ?_, ?_, ?_, ?_⟩
        · rw [g_X1_go_L1]
          by_cases g3 : m + 1 = 60
          · rw [g3]
            exact if_pos (by decide)
          · rw [if_neg (tm_ge60 (by omega)), if_neg]
            rw [tm_un _ (by decide), tm_un _ (by decide), tm_us]
            decide
        · rw [tm_un _ (by decide), tm_un _ (by decide), tm_us]
        · rw [tm_un _ (by decide), tm_us]
        · rw [tm_un _ (by decide), tm_un _ (by decide), tm_un _ (by decide), tm_un _ (by decide), tm_un _ (by decide)]
          exact e3
        · rw [tm_un _ (by decide), tm_un _ (by decide), tm_un _ (by decide), tm_un _ (by decide), tm_us]
        · intro _
          rw [tm_us]
        · intro g
          exact absurd rfl g
        · rw [tm_un _ (by decide), tm_un _ (by decide), tm_un _ (by decide), tm_us]
          dsimp only
          rw [show m + 1 - f = m - f + 1 by omega]
        · dsimp only
          omega
        · intro k hk
          rw [tm_un _ (by omega), tm_un _ (by omega), tm_un _ (by omega), tm_un _ (by omega), tm_un _ (by omega)]
          exact e7 k hk
      · rw [if_neg g1] at a
        rw [if_pos (tm_lt6 (by omega))]
        by_cases g2 : tw_abs (lead + tm_gain T W q) < nI (T (84 + 5 * q))
        · rw [if_pos g2] at a
          rw [if_pos g2, Option.bind_some]
          refine Or.inr ⟨(nI (tm_ey E (saw ||| tm_sn S (tm_two T q) m) (T 3) + 2 * (boys + (decide (tm_sd z (m - f + 1) % 100 < bd)).toNat)), upd (upd (upd I1 3905 (nI (saw ||| tm_sn S (tm_two T q) m))) 3907 (nI (tm_sd z (m - f + 1)))) 3904 (lead + tm_gain T W q)), ⟨saw ||| tm_sn S (tm_two T q) m, saw, boys + (decide (tm_sd z (m - f + 1) % 100 < bd)).toNat, lead + tm_gain T W q, ?_, by omega, by omega, hor, by omega, rfl, ?_, ?_, ?_, ?_, ?_, ?_, ?_⟩, rfl⟩
          · rw [show 60 - (m + 1) = 59 - m by omega]
            exact a
          · dsimp only
            rw [tm_un _ (by decide), tm_un _ (by decide), tm_un _ (by decide)]
            exact e1
          · dsimp only
            rw [tm_un _ (by decide), tm_un _ (by decide), tm_un _ (by decide)]
            exact e2
          · dsimp only
            rw [tm_us]
          · dsimp only
            rw [tm_un _ (by decide), tm_un _ (by decide), tm_us]
          · dsimp only
            rw [tm_un _ (by decide), tm_un _ (by decide), tm_un _ (by decide)]
            exact e5
          · dsimp only
            rw [tm_un _ (by decide), tm_us, show m + 1 - f = m - f + 1 by omega]
          · intro k hk
            dsimp only
            rw [tm_un _ (by omega), tm_un _ (by omega), tm_un _ (by omega)]
            exact e7 k hk
        · rw [if_neg g2] at a
          subst a
          rw [if_neg g2]
          have hw12 : ∃ v : Int32, (if lead + tm_gain T W q ≤ 0 then (some (2 : Int32)) else (some (1 : Int32))) = some v ∧ (if lead + tm_gain T W q ≤ 0 then (2 : Int32) else (1 : Int32)) = v ∧ v ≠ 0 ∧ v ≠ -2 := by
            split
            · exact ⟨2, rfl, rfl, by decide, by decide⟩
            · exact ⟨1, rfl, rfl, by decide, by decide⟩
          obtain ⟨v12, w1, w2, w3, w4⟩ := hw12
          rw [w1, Option.bind_some, Option.bind_some, w2]
          refine Or.inl ⟨upd (upd (upd (upd (upd I1 3905 (nI (saw ||| tm_sn S (tm_two T q) m))) 3907 (nI (tm_sd z (m - f + 1)))) 3904 (lead + tm_gain T W q)) 3902 v12) 3903 (nI m), ?_, ?_, ?_, ?_, ?_, ?_, ?_, ?_, ?_, ?_⟩
          · rw [g_X1_go_L1]
            by_cases g3 : m + 1 = 60
            · rw [g3]
              exact if_pos (by decide)
            · rw [if_neg (tm_ge60 (by omega)), if_neg]
              rw [tm_un _ (by decide), tm_us]
              exact w4
          · rw [tm_un _ (by decide), tm_us]
          · rw [tm_us]
          · rw [tm_un _ (by decide), tm_un _ (by decide), tm_us]
          · rw [tm_un _ (by decide), tm_un _ (by decide), tm_un _ (by decide), tm_un _ (by decide), tm_us]
          · intro g
            exact absurd g w3
          · intro _
            rw [tm_un _ (by decide), tm_un _ (by decide), tm_un _ (by decide), tm_un _ (by decide), tm_un _ (by decide)]
            exact e5
          · rw [tm_un _ (by decide), tm_un _ (by decide), tm_un _ (by decide), tm_us]
            dsimp only
            rw [show m + 1 - f = m - f + 1 by omega]
          · dsimp only
            omega
          · intro k hk
            rw [tm_un _ (by omega), tm_un _ (by omega), tm_un _ (by omega), tm_un _ (by omega), tm_un _ (by omega)]
            exact e7 k hk
    · dsimp only
      rw [tm_ey0]
      rfl
    · dsimp only
      rw [tm_un _ (by decide), tm_un _ (by decide), tm_un _ (by decide), tm_un _ (by decide), tm_us]
    · dsimp only
      rw [tm_un _ (by decide), tm_un _ (by decide), tm_un _ (by decide), tm_us]
    · dsimp only
      rw [tm_un _ (by decide), tm_un _ (by decide), tm_us]
    · dsimp only
      rw [tm_un _ (by decide), tm_us]
      rfl
    · dsimp only
      rw [tm_us]
    · dsimp only
      rw [tm_un _ (by decide), tm_un _ (by decide), tm_un _ (by decide), tm_un _ (by decide), tm_un _ (by decide), hI, Nat.sub_self]
      rfl
    · intro k hk
      dsimp only
      rw [tm_un _ (by omega), tm_un _ (by omega), tm_un _ (by omega), tm_un _ (by omega), tm_un _ (by omega)]
  obtain ⟨I1, e, x⟩ := L
  refine ⟨I1, ?_, x⟩
  unfold g_X1_go
  rw [e, Option.bind_some]
