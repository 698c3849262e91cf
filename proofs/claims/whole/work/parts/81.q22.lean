/-! MATHEMATICS, 32: lasts -/
theorem tm_Ls (f : Nat → Int64) (k : Nat) (x : Int64) : vp_updL f k x k = x := if_pos rfl
theorem tm_Ln {f : Nat → Int64} {k j : Nat} (x : Int64) (h : j ≠ k) : vp_updL f k x j = f j := if_neg h
theorem tm_hun {c : Nat} (h : c ≤ 100) : ((100 : Int32) - nI c).toInt64 = lN (100 - c) := by
  rw [show (100 : Int32) - nI c = nI (100 - c) from pk_sub (a := 100) (b := c) h, nI_l (by omega)]
theorem tm_FF_1 (e : Nat → Nat) (c j : Nat) : tm_FF e c 0 (j + 1) = (if e j < 6 then tm_FF e c 0 j * (100 - c) else 0) ∧ tm_FF e c 1 (j + 1) = (if e j + 2 < 6 then tm_FF e c 1 j * (100 - c) + tm_FF e c 0 j * c else 0) ∧ tm_FF e c 2 (j + 1) = (if e j + 4 < 6 then tm_FF e c 2 j * (100 - c) + tm_FF e c 1 j * c else 0) := by
  rw [tm_FF_s, tm_FF_s, tm_FF_s]
  exact ⟨rfl, rfl, rfl⟩
theorem tm_we9 {I : Nat → Int32} {L : Nat → Int64} {A : Nat → Nat → Int32} {T : Nat → Nat} {B : Nat} {h W E : Nat → Nat} (hW : tm_W T) (hK : tm_K9 I A T B h W E) (hSB : tm_SB T B h W E) {q n : Nat} (hq : q < T 5) (hn : n ≤ 6) : ∃ L1 A1, g_X1_weigh I L A (nI q) (nI n) = some (L1, A1) ∧ L1 3908 = lN (tm_GG (tm_ee T B h W E q) (T 0) (tm_Kq T W q n) (tm_Kq T W q n)) ∧ L1 3909 = lN (100 ^ tm_Kq T W q n) ∧ ∀ c, c ≠ 40 → A1 c = A c := by
  have hqq := tm_W_q hW q hq
  have h3 := tm_W_b3 hW
  have hc := tm_W_b0 hW
  obtain ⟨hC, hS, hz⟩ := hK
  obtain ⟨A1, a1, a2, a3⟩ := tm_watch hC hW hS hSB hqq.2.2.1
  have hC1 : tm_C A1 T := tm_C_of hC fun c c1 _ => a3 c (by omega)
  have hS1 : tm_CS I A1 T B h W E := tm_CS_of hS rfl rfl (a3 37 (by decide)) (a3 38 (by decide))
  have hKN := tm_KK_le (tm_wn (tm_gain T W q) (nI (T (84 + 5 * q)))) (min n (60 - T (83 + 5 * q)))
  have G : ∃ r, g_X1_weigh_L1 (nI q) (nI n) A1 (fun (y3, y4, y5, L6) => some ((vp_updL L6 3908 ((y3 + y4) + y5)), A1)) 4096 (1 : Int64) (0 : Int64) (0 : Int64) (0 : Int32) (0 : Int32) (nI (T (83 + 5 * q))) (vp_updL L 3909 (1 : Int64)) = some r ∧ (r.1 3908 = lN (tm_GG (tm_ee T B h W E q) (T 0) (tm_Kq T W q n) (tm_Kq T W q n)) ∧ r.1 3909 = lN (100 ^ tm_Kq T W q n) ∧ r.2 = A1) := by
    refine tm_lr (fun k i (s : Int64 × Int64 × Int64 × Int32 × Int32 × (Nat → Int64)) => g_X1_weigh_L1 (nI q) (nI n) A1 (fun (y3, y4, y5, L6) => some ((vp_updL L6 3908 ((y3 + y4) + y5)), A1)) k s.1 s.2.1 s.2.2.1 s.2.2.2.1 s.2.2.2.2.1 i s.2.2.2.2.2) (T (83 + 5 * q) + tm_Kq T W q n) (T (83 + 5 * q)) (Nat.le_add_right _ _) (fun i s => ∃ j, i = T (83 + 5 * q) + j ∧ (j = tm_Kq T W q n → tm_Kq T W q n = min n (60 - T (83 + 5 * q))) ∧ s.1 = lN (tm_FF (tm_ee T B h W E q) (T 0) 0 j) ∧ s.2.1 = lN (tm_FF (tm_ee T B h W E q) (T 0) 1 j) ∧ s.2.2.1 = lN (tm_FF (tm_ee T B h W E q) (T 0) 2 j) ∧ s.2.2.2.1 = nI (tm_ws (tm_sn (tm_wt T B h (T (82 + 5 * q))) (tm_two T q)) (T (83 + 5 * q)) j) ∧ s.2.2.2.2.1 = tm_lgn (tm_gain T W q) j ∧ s.2.2.2.2.2 3909 = lN (100 ^ j)) _ ?_ ?_ (s := ((1 : Int64), (0 : Int64), (0 : Int64), (0 : Int32), (0 : Int32), vp_updL L 3909 (1 : Int64))) ⟨0, rfl, tm_KK_0, rfl, rfl, rfl, rfl, rfl, show (if (3909 : Nat) = 3909 then (1 : Int64) else L 3909) = (1 : Int64) from if_pos rfl⟩ (m := 4096) (by unfold tm_Kq; omega)
    · rintro k ⟨v1, v2, v3, v4, v5, L1⟩ ⟨j, i1, i2, i3, i4, i5, i6, i7, i8⟩
      dsimp only at i3 i4 i5 i6 i7 i8
      have e1 : tm_Kq T W q n = j := by omega
      have e2 := i2 e1.symm
      refine ⟨(vp_updL L1 3908 ((v1 + v2) + v3), A1), ?_, ?_, ?_, rfl⟩
      · show g_X1_weigh_L1 (nI q) (nI n) A1 _ (k + 1) v1 v2 v3 v4 v5 (nI (T (83 + 5 * q) + tm_Kq T W q n)) L1 = _
        rw [g_X1_weigh_L1]
        by_cases g : 60 ≤ T (83 + 5 * q) + tm_Kq T W q n
        · rw [if_pos (show (60 : Int32) ≤ nI (T (83 + 5 * q) + tm_Kq T W q n) from nI_le (a := 60) g (by omega))]
        · rw [if_neg (tm_ge60 (by omega)), tm_f3 hC1 hW hq, nI_add, if_pos (nI_le (by omega) (by omega))]
      · show (if (3908 : Nat) = 3908 then (v1 + v2) + v3 else L1 3908) = _
        rw [if_pos rfl, i3, i4, i5, lN_add, lN_add, ← e1, tm_GG_F]
      · show (if (3909 : Nat) = 3908 then (v1 + v2) + v3 else L1 3909) = _
        rw [if_neg (by decide), i8, e1]
    · rintro k i ⟨v1, v2, v3, v4, v5, L1⟩ _ hi _ ⟨j, i1, i2, i3, i4, i5, i6, i7, i8⟩
      dsimp only at i3 i4 i5 i6 i7 i8
      have hjK : j < tm_Kq T W q n := by omega
      have hjN : j < min n (60 - T (83 + 5 * q)) := by unfold tm_Kq at hjK; omega
      have hsw := tm_ws_lt (Sn := tm_sn (tm_wt T B h (T (82 + 5 * q))) (tm_two T q)) (f := T (83 + 5 * q)) (n := T 3) (fun m => tm_dn_lt (tm_wt_lt B h _ m)) (j + 1)
      have hey := tm_ey_le (tm_ws (tm_sn (tm_wt T B h (T (82 + 5 * q))) (tm_two T q)) (T (83 + 5 * q)) (j + 1)) (fun p hp => (hSB.2.2 p hp).2)
      obtain ⟨f0, f1, f2⟩ := tm_FF_1 (tm_ee T B h W E q) (T 0) j
      have S0 : g_X1_weigh_L1 (nI q) (nI n) A1 (fun (y3, y4, y5, L6) => some ((vp_updL L6 3908 ((y3 + y4) + y5)), A1)) (k + 1) v1 v2 v3 v4 v5 (nI i) L1 = if tw_abs (tm_lgn (tm_gain T W q) (j + 1)) < nI (T (84 + 5 * q)) then g_X1_weigh_L1 (nI q) (nI n) A1 (fun (y3, y4, y5, L6) => some ((vp_updL L6 3908 ((y3 + y4) + y5)), A1)) k (lN (tm_FF (tm_ee T B h W E q) (T 0) 0 (j + 1))) (lN (tm_FF (tm_ee T B h W E q) (T 0) 1 (j + 1))) (lN (tm_FF (tm_ee T B h W E q) (T 0) 2 (j + 1))) (nI (tm_ws (tm_sn (tm_wt T B h (T (82 + 5 * q))) (tm_two T q)) (T (83 + 5 * q)) (j + 1))) (tm_lgn (tm_gain T W q) (j + 1)) (nI (i + 1)) (vp_updL L1 3909 (lN (100 ^ (j + 1)))) else some (vp_updL (vp_updL L1 3909 (lN (100 ^ (j + 1)))) 3908 ((lN (tm_FF (tm_ee T B h W E q) (T 0) 0 (j + 1)) + lN (tm_FF (tm_ee T B h W E q) (T 0) 1 (j + 1))) + lN (tm_FF (tm_ee T B h W E q) (T 0) 2 (j + 1))), A1) := by
        have x0 : (nI (tm_ws (tm_sn (tm_wt T B h (T (82 + 5 * q))) (tm_two T q)) (T (83 + 5 * q)) j) ||| ((tw_get0 60 (A1 40) (nI i)) &&& ((g_X8_twoOf_2 A1 (nI q)) ^^^ (-1 : Int32)))) = nI (tm_ws (tm_sn (tm_wt T B h (T (82 + 5 * q))) (tm_two T q)) (T (83 + 5 * q)) (j + 1)) := by
          rw [tm_get (by omega) (by decide), a2 i (by omega), tm_twoOf hC1 hW hq, tm_dnI, tm_or, i1]
          rfl
        have x1 : g_X6_eyesOf A1 (nI (tm_ws (tm_sn (tm_wt T B h (T (82 + 5 * q))) (tm_two T q)) (T (83 + 5 * q)) (j + 1))) = some (nI (tm_ee T B h W E q j)) := tm_eye9 hW (fun p hp => (hS1.2.2 p hp).2) hsw
        have hee : tm_ee T B h W E q j ≤ 12 := by
          show tm_ey E _ (T 3) ≤ 12
          omega
        have x2 : L1 3909 * (100 : Int64) = lN (100 ^ (j + 1)) := by
          rw [i8, show (100 : Int64) = lN 100 from rfl, lN_mul, Nat.pow_succ]
        rw [g_X1_weigh_L1, if_neg (tm_ge60 (by omega)), tm_f3 hC1 hW hq, nI_add, if_neg (nI_ge (by omega) (by omega)), i3, i4, i5, i6, i7, x0, x1, Option.bind_some, tm_gainOf hC1 hW (fun p hp => (hS1.2.2 p hp).1) hq, tm_f4 hC1 hW hq, tm_cn0 hC1, tm_hun hc, nI_l (by omega), lN_mul, lN_mul, lN_mul, lN_mul, lN_mul, lN_add, lN_add, show nI (tm_ee T B h W E q j) + (2 : Int32) = nI (tm_ee T B h W E q j + 2) from nI_add _ 2, show nI (tm_ee T B h W E q j) + (4 : Int32) = nI (tm_ee T B h W E q j + 4) from nI_add _ 4, tm_lo (by omega), tm_lo (by omega), tm_lo (by omega), ← f0, ← f1, ← f2, x2, ← nI_succ]
        rfl
      rcases tm_KK_s hjK with ⟨w1, w2⟩ | ⟨w1, w2⟩
      · have w3 : ¬ tw_abs (tm_lgn (tm_gain T W q) (j + 1)) < nI (T (84 + 5 * q)) := by
          intro q
          unfold tm_wn at w1
          rw [decide_eq_true q] at w1
          cases w1
        have w4 : tm_Kq T W q n = j + 1 := w2.symm
        refine Or.inl ⟨_, S0.trans (if_neg w3), ?_, ?_, rfl⟩
        · dsimp only
          rw [tm_Ls, lN_add, lN_add, w4, tm_GG_F]
        · dsimp only
          rw [tm_Ln _ (by decide), tm_Ls, w4]
      · have w3 : tw_abs (tm_lgn (tm_gain T W q) (j + 1)) < nI (T (84 + 5 * q)) := by
          unfold tm_wn at w1
          rw [Bool.not_eq_false'] at w1
          exact of_decide_eq_true w1
        exact Or.inr ⟨(lN (tm_FF (tm_ee T B h W E q) (T 0) 0 (j + 1)), lN (tm_FF (tm_ee T B h W E q) (T 0) 1 (j + 1)), lN (tm_FF (tm_ee T B h W E q) (T 0) 2 (j + 1)), nI (tm_ws (tm_sn (tm_wt T B h (T (82 + 5 * q))) (tm_two T q)) (T (83 + 5 * q)) (j + 1)), tm_lgn (tm_gain T W q) (j + 1), vp_updL L1 3909 (lN (100 ^ (j + 1)))), ⟨j + 1, by omega, w2, rfl, rfl, rfl, rfl, rfl, show (if (3909 : Nat) = 3909 then lN (100 ^ (j + 1)) else L1 3909) = lN (100 ^ (j + 1)) from if_pos rfl⟩, S0.trans (if_pos w3)⟩
  obtain ⟨⟨L1, A2⟩, e, x1, x2, x3⟩ := G
  dsimp only at x1 x2 x3
  refine ⟨L1, A1, ?_, x1, x2, a3⟩
  unfold g_X1_weigh
  rw [tm_f2 hC hW hq, a1, Option.bind_some, tm_f3 hC1 hW hq, e, x3]
theorem tm_06 {x : Int32} : g_X10_in x (0 : Int32) (6 : Int32) = true ↔ tm_ok 7 x := tm_in_k (c := 6) (by decide)
theorem tm_wg_le (c s : Nat) (hc : c ≤ 100) : ∀ n, tm_wg c s n ≤ 100 ^ n
  | 0 => Nat.le_refl _
  | n + 1 => by
    rw [tm_wg, Nat.pow_succ]
    exact Nat.mul_le_mul (tm_wg_le c s hc n) (by split <;> omega)
theorem tm_la2 {A : Nat → Nat → Int32} {T : Nat → Nat} (hW : tm_W T) (hR : tm_R A T) {n i : Nat} (hn : n ≤ 6) (hi : i < 64) : g_X10_lasts_L2 (nI n) A (nI i) 4096 (1 : Int64) (0 : Int32) = some (lN (tm_wg (T 0) i n)) := by
  have hc := tm_W_b0 hW
  refine tm_lp (fun k j (v : Int64) => g_X10_lasts_L2 (nI n) A (nI i) k v j) n 0 (fun j => lN (tm_wg (T 0) i j)) _ (Nat.zero_le _) ?_ ?_ (m := 4096) (by omega)
  · intro k
    show g_X10_lasts_L2 (nI n) A (nI i) (k + 1) (lN (tm_wg (T 0) i n)) (nI n) = _
    rw [g_X10_lasts_L2, if_pos (nI_le (Nat.le_refl _) (by omega))]
  · intro k j _ hj
    show g_X10_lasts_L2 (nI n) A (nI i) (k + 1) (lN (tm_wg (T 0) i j)) (nI j) = g_X10_lasts_L2 (nI n) A (nI i) k (lN (tm_wg (T 0) i (j + 1))) (nI (j + 1))
    rw [g_X10_lasts_L2, if_neg (nI_ge hj (by omega)), tm_has (by omega) (by omega), tm_r_c0 hR, Option.bind_some, Option.bind_some, tm_hun hc, nI_l (by omega), tm_ifs, Option.bind_some, tm_wg, ← nI_succ]
    cases i.testBit j
    · rw [if_neg (by decide), if_neg (by decide), lN_mul]
    · rw [if_pos rfl, if_pos rfl, lN_mul]
theorem tm_la10 {I : Nat → Int32} {A : Nat → Nat → Int32} {T : Nat → Nat} {B : Nat} {h W E : Nat → Nat} (hW : tm_W T) (hK : tm_K10 A T B h W E) (hSB : tm_SB T B h W E) {q n : Nat} (hq : q < T 5) (hn : n ≤ 6) : ∃ I1, g_X10_lasts_L1 (nI q) (nI n) A 4096 (0 : Int64) (0 : Int64) (0 : Int32) I = some (lN (tm_GG (tm_ee T B h W E q) (T 0) (tm_Kq T W q n) n), lN (100 ^ n), I1) ∧ ∀ k, k < 4425 → I1 k = I k := by
  have hc := tm_W_b0 hW
  have h5 := tm_W_b5 hW
  have h26 : (2 : Nat) ^ n ≤ 64 := Nat.pow_le_pow_right (n := 2) (by decide) hn
  have hqq := tm_W_q hW q hq
  have G : ∃ r, g_X10_lasts_L1 (nI q) (nI n) A 4096 (0 : Int64) (0 : Int64) (nI 0) I = some r ∧ (r.1 = lN (tm_GG (tm_ee T B h W E q) (T 0) (tm_Kq T W q n) n) ∧ r.2.1 = lN (100 ^ n) ∧ ∀ k, k < 4425 → r.2.2 k = I k) := by
    refine tm_lr (fun k i (s : Int64 × Int64 × (Nat → Int32)) => g_X10_lasts_L1 (nI q) (nI n) A k s.1 s.2.1 i s.2.2) (2 ^ n) 0 (Nat.zero_le _) (fun i s => s.1 = lN (tm_sm (fun s => if tm_sv (tm_ee T B h W E q) s (tm_Kq T W q n) = true then tm_wg (T 0) s n else 0) i) ∧ s.2.1 = lN (tm_sm (fun s => tm_wg (T 0) s n) i) ∧ ∀ k, k < 4425 → s.2.2 k = I k) _ ?_ ?_ (s := ((0 : Int64), (0 : Int64), I)) ⟨rfl, rfl, fun _ _ => rfl⟩ (m := 4096) (by omega)
    · rintro k ⟨v1, v2, I1⟩ ⟨a, b, c⟩
      dsimp only at a b c
      refine ⟨(v1, v2, I1), ?_, a, ?_, c⟩
      · show g_X10_lasts_L1 (nI q) (nI n) A (k + 1) v1 v2 (nI (2 ^ n)) I1 = _
        rw [g_X10_lasts_L1, tm_shl1 (by omega), if_pos (nI_le (Nat.le_refl _) (by omega))]
      · dsimp only
        rw [b, ← tm_GG_0 (e := tm_ee T B h W E q) hc n]
        unfold tm_GG
        congr 1
    · rintro k i ⟨v1, v2, I1⟩ _ hi _ ⟨a, b, c⟩
      dsimp only at a b c
      obtain ⟨I2, e0, e1, e2, e3, e4, e5, e6, e7⟩ := tm_run10 (I := upd I1 4430 (nI i)) (a4 := 1) hK.1 hW hK.2 hSB hq hqq.2.2.1 (by omega : T (83 + 5 * q) < 60) (fun m => decide (m - T (83 + 5 * q) < 6) && i.testBit (m - T (83 + 5 * q))) (fun m x y => x = nI i) (tm_us _ _ _) (fun m J hm hm2 d1 => by
        refine ⟨J, ?_, d1, fun _ _ => rfl⟩
        rw [if_neg (by decide)]
        unfold g_X10_comesBoy
        rw [d1, if_neg (nI_pos (by omega)), pk_sub (a := m) (b := T (83 + 5 * q)) hm]
        by_cases g : m - T (83 + 5 * q) < 6
        · rw [if_neg (tm_ge6 g), tm_has (by omega) (by omega), decide_eq_true g, Bool.true_and]
          cases i.testBit (m - T (83 + 5 * q))
          · rfl
          · rfl
        · rw [if_pos (show (6 : Int32) ≤ nI (m - T (83 + 5 * q)) from nI_le (a := 6) (by omega) (by omega)), decide_eq_false g, Bool.false_and]
          rfl) rfl
      have hg := tm_good (Sn := tm_sn (tm_wt T B h (T (82 + 5 * q))) (tm_two T q)) (ey := fun s => tm_ey E s (T 3)) (g := tm_gain T W q) (nd := nI (T (84 + 5 * q))) (b := fun m => decide (m - T (83 + 5 * q) < 6) && i.testBit (m - T (83 + 5 * q))) (f := T (83 + 5 * q)) (n := n) (set := i) (by omega) hn (fun j hj => by
        rw [Nat.add_sub_cancel_left, decide_eq_true (by omega), Bool.true_and]) (tm_Kq T W q n) 0 0 (Nat.zero_add _) rfl tm_KK_0
      have hg2 : (I2 4425 = 0 ∧ ¬ nI (T (83 + 5 * q) + n) ≤ I2 4426) ↔ tm_sv (tm_ee T B h W E q) i (tm_Kq T W q n) = false := by
        rw [e1, e2]
        exact hg
      have V : (if I2 4425 = 0 then ((tw_ld 241 (A 47) (((80 : Int32) + ((5 : Int32) * nI q)) + (3 : Int32))).bind fun x27 => if (x27 + nI n) ≤ (I2 4426) then (some (lN (tm_wg (T 0) i n))) else (some (0 : Int64))) else (some (lN (tm_wg (T 0) i n)))) = some (lN (if tm_sv (tm_ee T B h W E q) i (tm_Kq T W q n) = true then tm_wg (T 0) i n else 0)) := by
        rw [tm_r_q3 hK.1 (by omega), Option.bind_some, nI_add]
        cases e : tm_sv (tm_ee T B h W E q) i (tm_Kq T W q n)
        · have z := hg2.mpr e
          rw [if_pos z.1, if_neg z.2, if_neg (by decide)]
          rfl
        · rw [if_pos rfl]
          by_cases z1 : I2 4425 = 0
          · rw [if_pos z1]
            by_cases z2 : nI (T (83 + 5 * q) + n) ≤ I2 4426
            · rw [if_pos z2]
            · have := hg2.mp ⟨z1, z2⟩
              rw [e] at this
              cases this
          · rw [if_neg z1]
      refine Or.inr ⟨(lN (tm_sm (fun s => if tm_sv (tm_ee T B h W E q) s (tm_Kq T W q n) = true then tm_wg (T 0) s n else 0) (i + 1)), lN (tm_sm (fun s => tm_wg (T 0) s n) (i + 1)), I2), ⟨rfl, rfl, fun k hk => ?_⟩, ?_⟩
      · dsimp only
        rw [e7 k (by omega), tm_un _ (by omega)]
        exact c k hk
      · show g_X10_lasts_L1 (nI q) (nI n) A (k + 1) v1 v2 (nI i) I1 = g_X10_lasts_L1 (nI q) (nI n) A k _ _ (nI (i + 1)) I2
        have RB : g_X10_runWithBoys (upd I1 4430 (nI i)) A (nI q) = some I2 := by
          unfold g_X10_runWithBoys
          rw [tm_r_q2 hK.1 (by omega), Option.bind_some, tm_r_q3 hK.1 (by omega), Option.bind_some, e0, Option.bind_some]
        rw [g_X10_lasts_L1, tm_shl1 (by omega), if_neg (nI_ge hi (by omega)), tm_la2 hW hK.1 hn (by omega), Option.bind_some, RB, Option.bind_some, V, Option.bind_some, a, b, lN_add, lN_add, ← nI_succ]
        rfl
  obtain ⟨⟨v1, v2, I1⟩, e, a, b, c⟩ := G
  dsimp only at a b c
  refine ⟨I1, ?_, c⟩
  rw [show g_X10_lasts_L1 (nI q) (nI n) A 4096 (0 : Int64) (0 : Int64) (0 : Int32) I = _ from e, a, b]
