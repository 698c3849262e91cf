/-! MATHEMATICS, 6: the reference's run -/
theorem tm_abs (l nd : Int32) : tw_abs l < nd ↔ (¬ nd ≤ l ∧ ¬ nd ≤ -l) := by
  have hr : -2147483648 ≤ l.toInt ∧ l.toInt < 2147483648 := ⟨Int32.le_toInt l, Int32.toInt_lt l⟩
  unfold tw_abs
  by_cases hm : l = -2147483648
  · subst hm
    rw [if_neg (by decide), show (0 : Int32) - -2147483648 = -2147483648 by decide, show -(-2147483648 : Int32) = -2147483648 by decide, Int32.lt_iff_toInt_lt, Int32.le_iff_toInt_le]
    omega
  · have hne : l.toInt ≠ -2147483648 := fun q => hm (Int32.toInt_inj.mp q)
    have hneg : (-l).toInt = -l.toInt := by
      rw [Int32.toInt_neg]
      exact Int.bmod_eq_of_le (by omega) (by omega)
    have h0 : (0 : Int32) - l = -l := by
      apply Int32.toInt_inj.mp
      rw [hneg, Int32.toInt_sub, show (0 : Int32).toInt = 0 from rfl, Int.zero_sub]
      exact Int.bmod_eq_of_le (by omega) (by omega)
    rw [h0]
    by_cases g : 0 ≤ l
    · rw [if_pos g]
      rw [Int32.le_iff_toInt_le, show (0 : Int32).toInt = 0 from rfl] at g
      rw [Int32.lt_iff_toInt_lt, Int32.le_iff_toInt_le, Int32.le_iff_toInt_le, hneg]
      omega
    · rw [if_neg g]
      rw [Int32.le_iff_toInt_le, show (0 : Int32).toInt = 0 from rfl] at g
      rw [Int32.lt_iff_toInt_lt, Int32.le_iff_toInt_le, Int32.le_iff_toInt_le, hneg]
      omega
theorem tm_run10 {I : Nat → Int32} {A : Nat → Nat → Int32} {T : Nat → Nat} {B : Nat} {h W E : Nat → Nat} (hT : tm_R A T) (hW : tm_W T) (hM : tm_MS A T B h W E) (hSB : tm_SB T B h W E) {q t f : Nat} {a4 : Int32} (hq : q < T 5) (ht : t < T 1) (hf : f < 60) (b : Nat → Bool) (D : Nat → Int32 → Int32 → Prop) (hD : D f (I 4430) (I 4431)) (hb : ∀ (m : Nat) (J : Nat → Int32), f ≤ m → m < 60 → D m (J 4430) (J 4431) → ∃ J', (if a4 = 0 then (some ((0 : Int32), J)) else ((g_X10_comesBoy J A (nI m - nI f)).bind fun (c13, I14) => if c13 = true then (some ((1 : Int32), I14)) else (some ((0 : Int32), I14)))) = some (nI (b m).toNat, J') ∧ D (m + 1) (J' 4430) (J' 4431) ∧ ∀ k, k ≠ 4431 → J' k = J k) {r : tm_Res} (hr : tm_run (tm_sn (tm_wt T B h t) (tm_two T q)) (fun s => tm_ey E s (T 3)) (tm_gain T W q) (nI (T (84 + 5 * q))) b (60 - f) f 0 0 0 0 = r) : ∃ I1, g_X10_run I A (nI q) (nI t) (nI f) a4 = some I1 ∧ I1 4425 = r.1 ∧ I1 4426 = r.2.1 ∧ I1 4427 = r.2.2.1 ∧ I1 4428 = nI r.2.2.2.1 ∧ (r.1 = 0 → I1 4429 = nI r.2.2.2.2.1) ∧ D r.2.2.2.2.2 (I1 4430) (I1 4431) ∧ ∀ k, k < 4425 ∨ 4431 < k → I1 k = I k := by
  have h3 := tm_W_b3 hW
  have h5 := tm_W_b5 hW
  have h26 : (2 : Nat) ^ T 3 ≤ 64 := Nat.pow_le_pow_right (n := 2) (by decide) h3
  have hqq := tm_W_q hW q hq
  have htw : ((1 : Int32) <<< (nI (T (80 + 5 * q)) &&& 31)) ||| ((1 : Int32) <<< (nI (T (81 + 5 * q)) &&& 31)) = nI (tm_two T q) := by
    rw [tm_shl1 (by omega), tm_shl1 (by omega), tm_or]
    rfl
  have L : ∃ I1, g_X10_run_L1 A (nI q) (nI t) (nI f) a4 (nI (T (80 + 5 * q))) (nI (T (81 + 5 * q))) (fun I5 => some I5) 4096 (0 : Int32) (nI f) (upd (upd (upd (upd I 4425 (-2 : Int32)) 4426 (-2 : Int32)) 4427 (0 : Int32)) 4428 (0 : Int32)) = some I1 ∧ (I1 4425 = r.1 ∧ I1 4426 = r.2.1 ∧ I1 4427 = r.2.2.1 ∧ I1 4428 = nI r.2.2.2.1 ∧ (r.1 = 0 → I1 4429 = nI r.2.2.2.2.1) ∧ D r.2.2.2.2.2 (I1 4430) (I1 4431) ∧ ∀ k, k < 4425 ∨ 4431 < k → I1 k = I k) := by
    refine tm_lr (fun n i s => g_X10_run_L1 A (nI q) (nI t) (nI f) a4 (nI (T (80 + 5 * q))) (nI (T (81 + 5 * q))) (fun I5 => some I5) n s.1 i s.2) 60 f (by omega) (fun m s => ∃ saw pre boys lead, tm_run (tm_sn (tm_wt T B h t) (tm_two T q)) (fun s => tm_ey E s (T 3)) (tm_gain T W q) (nI (T (84 + 5 * q))) b (60 - m) m saw pre boys lead = r ∧ f ≤ m ∧ saw < 2 ^ T 3 ∧ boys ≤ m ∧ s.1 = nI boys ∧ s.2 4425 = -2 ∧ s.2 4426 = -2 ∧ s.2 4427 = lead ∧ s.2 4428 = nI saw ∧ D m (s.2 4430) (s.2 4431) ∧ ∀ k, k < 4425 ∨ 4431 < k → s.2 k = I k) _ ?_ ?_ (s := ((0 : Int32), upd (upd (upd (upd I 4425 (-2 : Int32)) 4426 (-2 : Int32)) 4427 (0 : Int32)) 4428 (0 : Int32))) ⟨0, 0, 0, 0, hr, Nat.le_refl _, Nat.two_pow_pos _, Nat.zero_le _, rfl, ?_, ?_, ?_, ?_, ?_, ?_⟩ (by omega)
    · rintro n ⟨v, I1⟩ ⟨saw, pre, boys, lead, a, b, c, d, e0, e1, e2, e3, e4, e5, e6⟩
      dsimp only at e0 e1 e2 e3 e4 e5 e6
      rw [Nat.sub_self, tm_run] at a
      subst a
      refine ⟨I1, ?_, e1, e2, e3, e4, fun q => absurd (show (-2 : Int32) = 0 from q) (by decide), e5, e6⟩
      show g_X10_run_L1 A (nI q) (nI t) (nI f) a4 _ _ _ (n + 1) v (nI 60) I1 = some I1
      rw [g_X10_run_L1]
      exact if_pos (by decide)
    · rintro n m ⟨v, I1⟩ hfm hm hn ⟨saw, pre, boys, lead, a, b0, c, d, e0, e1, e2, e3, e4, e5, e6⟩
      dsimp only at e0 e1 e2 e3 e4 e5 e6
      have hsm := tm_wt_lt (T := T) B h t m
      have hdn : tm_sn (tm_wt T B h t) (tm_two T q) m < 2 ^ T 3 := tm_dn_lt hsm
      have hor : saw ||| tm_sn (tm_wt T B h t) (tm_two T q) m < 2 ^ T 3 := tm_dn_or c hdn
      have hey := tm_ey_le (saw ||| tm_sn (tm_wt T B h t) (tm_two T q) m) (fun p hp => (hSB.2.2 p hp).2)
      have hbt := tm_tb (b m)
      obtain ⟨J', j1, j2, j3⟩ := hb m (upd (upd I1 4429 (nI saw)) 4428 (nI (saw ||| tm_sn (tm_wt T B h t) (tm_two T q) m))) hfm hm (by rw [tm_un _ (by decide), tm_un _ (by decide), tm_un _ (by decide), tm_un _ (by decide)]; exact e5)
      have k1 : J' 4425 = -2 := by rw [j3 _ (by decide), tm_un _ (by decide), tm_un _ (by decide)]; exact e1
      have k2 : J' 4426 = -2 := by rw [j3 _ (by decide), tm_un _ (by decide), tm_un _ (by decide)]; exact e2
      have k3 : J' 4427 = lead := by rw [j3 _ (by decide), tm_un _ (by decide), tm_un _ (by decide)]; exact e3
      have k4 : J' 4428 = nI (saw ||| tm_sn (tm_wt T B h t) (tm_two T q) m) := by rw [j3 _ (by decide), tm_us]
      have k5 : J' 4429 = nI saw := by rw [j3 _ (by decide), tm_un _ (by decide), tm_us]
      have k6 : ∀ k, k < 4425 ∨ 4431 < k → J' k = I k := fun k hk => by
        rw [j3 _ (by omega), tm_un _ (by omega), tm_un _ (by omega)]
        exact e6 k hk
      have X : g_X10_run_L1 A (nI q) (nI t) (nI f) a4 (nI (T (80 + 5 * q))) (nI (T (81 + 5 * q))) (fun I5 => some I5) (n + 1) v (nI m) I1 = if nI (tm_ey E (saw ||| tm_sn (tm_wt T B h t) (tm_two T q) m) (T 3) + 2 * (boys + (b m).toNat)) < (6 : Int32) then (if nI (T (84 + 5 * q)) ≤ (lead + tm_gain T W q) then ((if (lead + tm_gain T W q) ≤ 0 then (some (2 : Int32)) else (some (1 : Int32))).bind fun x32 => some (upd (upd (upd J' 4427 (lead + tm_gain T W q)) 4425 x32) 4426 (nI m))) else (if nI (T (84 + 5 * q)) ≤ (-(lead + tm_gain T W q)) then ((if (lead + tm_gain T W q) ≤ 0 then (some (2 : Int32)) else (some (1 : Int32))).bind fun x38 => some (upd (upd (upd J' 4427 (lead + tm_gain T W q)) 4425 x38) 4426 (nI m))) else (g_X10_run_L1 A (nI q) (nI t) (nI f) a4 (nI (T (80 + 5 * q))) (nI (T (81 + 5 * q))) (fun I5 => some I5) n (nI (boys + (b m).toNat)) (nI (m + 1)) (upd J' 4427 (lead + tm_gain T W q))))) else (some (upd (upd J' 4425 (0 : Int32)) 4426 (nI m))) := by
        rw [g_X10_run_L1, if_neg (tm_n59 hm), tm_wo hT hW hM hSB ht hm, Option.bind_some, e4, htw, tm_dnI, show tm_dn (tm_wt T B h t m) (tm_two T q) = tm_sn (tm_wt T B h t) (tm_two T q) m from rfl, tm_or, j1, Option.bind_some]
        dsimp only
        rw [k4, tm_eye10 hT hW (fun p hp => (hM.2.2 p hp).2) (by omega), Option.bind_some, e0, nI_add, show (2 : Int32) * nI (boys + (b m).toNat) = nI (2 * (boys + (b m).toNat)) from pk_mul 2 _, nI_add, tm_r_q0 hT (by omega), Option.bind_some, tm_ld (N := 6) (by omega) (by decide), Option.bind_some, tm_r_q1 hT (by omega), Option.bind_some, tm_ld (N := 6) (by omega) (by decide), Option.bind_some, tm_r_q4 hT (by omega), Option.bind_some, Option.bind_some, (hM.2.2 _ hqq.1).1, (hM.2.2 _ hqq.2.1).1, k3, nI_succ]
        rfl
      rw [show 60 - m = (59 - m) + 1 by omega, tm_run] at a
      dsimp only at a ⊢
      rw [X]
      by_cases g1 : 6 ≤ tm_ey E (saw ||| tm_sn (tm_wt T B h t) (tm_two T q) m) (T 3) + 2 * (boys + (b m).toNat)
      · rw [if_pos g1] at a
        subst a
        rw [if_neg (tm_nlt6 g1 (by omega))]
        refine Or.inl ⟨_, rfl, ?_, ?_, ?_, ?_, ?_, ?_, ?_⟩
        · rw [tm_un _ (by decide), tm_us]
        · rw [tm_us]
        · rw [tm_un _ (by decide), tm_un _ (by decide)]
          exact k3
        · rw [tm_un _ (by decide), tm_un _ (by decide)]
          exact k4
        · intro _
          rw [tm_un _ (by decide), tm_un _ (by decide)]
          exact k5
        · rw [tm_un _ (by decide), tm_un _ (by decide), tm_un _ (by decide), tm_un _ (by decide)]
          exact j2
        · intro k hk
          rw [tm_un _ (by omega), tm_un _ (by omega)]
          exact k6 k hk
      · rw [if_neg g1] at a
        rw [if_pos (tm_lt6 (by omega))]
        by_cases g2 : tw_abs (lead + tm_gain T W q) < nI (T (84 + 5 * q))
        · rw [if_pos g2] at a
          have g3 := (tm_abs _ _).mp g2
          rw [if_neg g3.1, if_neg g3.2]
          refine Or.inr ⟨(nI (boys + (b m).toNat), upd J' 4427 (lead + tm_gain T W q)), ⟨saw ||| tm_sn (tm_wt T B h t) (tm_two T q) m, saw, boys + (b m).toNat, lead + tm_gain T W q, ?_, by omega, hor, by omega, rfl, ?_, ?_, ?_, ?_, ?_, ?_⟩, rfl⟩
          · rw [show 60 - (m + 1) = 59 - m by omega]
            exact a
          · dsimp only
            rw [tm_un _ (by decide)]
            exact k1
          · dsimp only
            rw [tm_un _ (by decide)]
            exact k2
          · dsimp only
            rw [tm_us]
          · dsimp only
            rw [tm_un _ (by decide)]
            exact k4
          · dsimp only
            rw [tm_un _ (by decide), tm_un _ (by decide)]
            exact j2
          · intro k hk
            dsimp only
            rw [tm_un _ (by omega)]
            exact k6 k hk
        · rw [if_neg g2] at a
          subst a
          have hw12 : ∃ v : Int32, (if lead + tm_gain T W q ≤ 0 then (some (2 : Int32)) else (some (1 : Int32))) = some v ∧ (if lead + tm_gain T W q ≤ 0 then (2 : Int32) else (1 : Int32)) = v ∧ v ≠ 0 := by
            split
            · exact ⟨2, rfl, rfl, by decide⟩
            · exact ⟨1, rfl, rfl, by decide⟩
          obtain ⟨v12, w1, w2, w3⟩ := hw12
          have hY : (if nI (T (84 + 5 * q)) ≤ (lead + tm_gain T W q) then ((if (lead + tm_gain T W q) ≤ 0 then (some (2 : Int32)) else (some (1 : Int32))).bind fun x32 => some (upd (upd (upd J' 4427 (lead + tm_gain T W q)) 4425 x32) 4426 (nI m))) else (if nI (T (84 + 5 * q)) ≤ (-(lead + tm_gain T W q)) then ((if (lead + tm_gain T W q) ≤ 0 then (some (2 : Int32)) else (some (1 : Int32))).bind fun x38 => some (upd (upd (upd J' 4427 (lead + tm_gain T W q)) 4425 x38) 4426 (nI m))) else (g_X10_run_L1 A (nI q) (nI t) (nI f) a4 (nI (T (80 + 5 * q))) (nI (T (81 + 5 * q))) (fun I5 => some I5) n (nI (boys + (b m).toNat)) (nI (m + 1)) (upd J' 4427 (lead + tm_gain T W q))))) = some (upd (upd (upd J' 4427 (lead + tm_gain T W q)) 4425 v12) 4426 (nI m)) := by
            rw [w1, Option.bind_some]
            by_cases g4 : nI (T (84 + 5 * q)) ≤ (lead + tm_gain T W q)
            · rw [if_pos g4]
            · by_cases g5 : nI (T (84 + 5 * q)) ≤ -(lead + tm_gain T W q)
              · rw [if_neg g4, if_pos g5]
              · exact absurd ((tm_abs _ _).mpr ⟨g4, g5⟩) g2
          rw [hY, w2]
          refine Or.inl ⟨_, rfl, ?_, ?_, ?_, ?_, ?_, ?_, ?_⟩
          · rw [tm_un _ (by decide), tm_us]
          · rw [tm_us]
          · rw [tm_un _ (by decide), tm_un _ (by decide), tm_us]
          · rw [tm_un _ (by decide), tm_un _ (by decide), tm_un _ (by decide)]
            exact k4
          · intro g
            exact absurd g w3
          · rw [tm_un _ (by decide), tm_un _ (by decide), tm_un _ (by decide), tm_un _ (by decide), tm_un _ (by decide), tm_un _ (by decide)]
            exact j2
          · intro k hk
            rw [tm_un _ (by omega), tm_un _ (by omega), tm_un _ (by omega)]
            exact k6 k hk
    · dsimp only
      rw [tm_un _ (by decide), tm_un _ (by decide), tm_un _ (by decide), tm_us]
    · dsimp only
      rw [tm_un _ (by decide), tm_un _ (by decide), tm_us]
    · dsimp only
      rw [tm_un _ (by decide), tm_us]
    · dsimp only
      rw [tm_us]
      rfl
    · dsimp only
      rw [tm_un _ (by decide), tm_un _ (by decide), tm_un _ (by decide), tm_un _ (by decide), tm_un _ (by decide), tm_un _ (by decide), tm_un _ (by decide), tm_un _ (by decide)]
      exact hD
    · intro k hk
      dsimp only
      rw [tm_un _ (by omega), tm_un _ (by omega), tm_un _ (by omega), tm_un _ (by omega)]
  obtain ⟨I1, e, x⟩ := L
  refine ⟨I1, ?_, x⟩
  unfold g_X10_run
  rw [tm_r_q0 hT (by omega), Option.bind_some, tm_r_q1 hT (by omega), Option.bind_some, e]
