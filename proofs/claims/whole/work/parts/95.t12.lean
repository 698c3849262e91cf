/-! MATHEMATICS, 46: town -/
/-- the town and the draft, the one for the other -/
def tp_swp (A : Nat → Nat → Int32) : Nat → Nat → Int32 := fun d => if 2 < d ∧ d < 14 then A (d + 12) else if 14 < d ∧ d < 26 then A (d - 12) else A d
theorem tp_swp_o {A : Nat → Nat → Int32} {d : Nat} (h : 25 < d) : tp_swp A d = A d := by
  unfold tp_swp
  rw [if_neg (by omega), if_neg (by omega)]
theorem tp_tn10 {c : Nat → Nat} {n t : Nat} {I : Nat → Int32} {A : Nat → Nat → Int32} (hb : tp_by10 c n A) (ht : t ≤ 900) (h2 : I 4402 = nI t) (hnt : n ≤ t) : match tp_all c n with
    | .inl x => ∃ I2 A2, g_X10_town I A (nI n) = some (-1, I2, A2) ∧ I2 4411 = 4 ∧ I2 4409 = nI x.1 ∧ I2 4410 = nI x.2 ∧ I2 4402 = 0 ∧ (∀ k, (k < 4400 ∨ 4413 < k) → I2 k = I k) ∧ ∀ d, d ≠ 46 → d ≠ 48 → A2 d = A d
    | .inr y => ∃ I2 A2, g_X10_town I A (nI n) = some (nI (y.2 1), I2, A2) ∧ I2 4411 = 0 ∧ I2 4409 = 0 ∧ I2 4402 = 0 ∧ I2 4414 = 1 ∧ I2 4420 = 0 ∧ I2 4421 = 0 ∧ (∀ k, (k < 4400 ∨ 4421 < k) → I2 k = I k) ∧ (∀ j, j < 241 → A2 47 j = nI (y.2 j)) ∧ (∀ j, j < 8 → A2 49 j = 0) ∧ ∀ d, d ≠ 46 → d ≠ 47 → d ≠ 48 → d ≠ 49 → A2 d = A d := by
  have hn := hb.1
  obtain ⟨A4, z1, z2, z3⟩ := tp_zero10 (A := A)
  have hb4 : tp_by10 c n A4 := ⟨hn, fun j hj => by rw [z2 45 (by decide)]; exact hb.2 j hj⟩
  have hB : ∀ k, k ≠ 4400 → k ≠ 4402 → k ≠ 4403 → k ≠ 4405 → k ≠ 4409 → k ≠ 4411 → k ≠ 4413 → (upd (upd (upd (upd (upd (g_X10_good I) 4402 (0 : Int32)) 4409 (0 : Int32)) 4413 (0 : Int32)) 4403 (nI n)) 4405 (0 : Int32)) k = I k := fun k k1 k2 k3 k4 k5 k6 k7 => by
    unfold g_X10_good
    rw [tm_un _ k4, tm_un _ k3, tm_un _ k7, tm_un _ k5, tm_un _ k2, tm_un _ k6, tm_un _ k1]
  have b1 : (upd (upd (upd (upd (upd (g_X10_good I) 4402 (0 : Int32)) 4409 (0 : Int32)) 4413 (0 : Int32)) 4403 (nI n)) 4405 (0 : Int32)) 4403 = nI n := by rw [tm_un _ (by decide), tm_us]
  have b2 : (upd (upd (upd (upd (upd (g_X10_good I) 4402 (0 : Int32)) 4409 (0 : Int32)) 4413 (0 : Int32)) 4403 (nI n)) 4405 (0 : Int32)) 4405 = 0 := tm_us _ _ _
  have b3 : (upd (upd (upd (upd (upd (g_X10_good I) 4402 (0 : Int32)) 4409 (0 : Int32)) 4413 (0 : Int32)) 4403 (nI n)) 4405 (0 : Int32)) 4413 = 0 := by rw [tm_un _ (by decide), tm_un _ (by decide), tm_us]
  have b4 : (upd (upd (upd (upd (upd (g_X10_good I) 4402 (0 : Int32)) 4409 (0 : Int32)) 4413 (0 : Int32)) 4403 (nI n)) 4405 (0 : Int32)) 4409 = 0 := by rw [tm_un _ (by decide), tm_un _ (by decide), tm_un _ (by decide), tm_us]
  have b5 : (upd (upd (upd (upd (upd (g_X10_good I) 4402 (0 : Int32)) 4409 (0 : Int32)) 4413 (0 : Int32)) 4403 (nI n)) 4405 (0 : Int32)) 4402 = 0 := by rw [tm_un _ (by decide), tm_un _ (by decide), tm_un _ (by decide), tm_un _ (by decide), tm_us]
  have hg2 : (g_X10_good I) 4402 = nI t := by
    unfold g_X10_good
    rw [tm_un _ (by decide), tm_un _ (by decide)]
    exact h2
  have g11 : (g_X10_good I) 4411 = 0 := by
    unfold g_X10_good
    rw [tm_us]
  have e0 : g_X10_town I A (nI n) = (g_X10_next (upd (upd (upd (upd (upd (g_X10_good I) 4402 (0 : Int32)) 4409 (0 : Int32)) 4413 (0 : Int32)) 4403 (nI n)) 4405 (0 : Int32)) A4).bind fun (I8, A9) => (g_X10_readLine I8 A9).bind fun (I11, A12) => (g_X10_town_L2 4096 I11 A12).bind fun (I14, A15) => (if (I14 4413) = 0 then (if (I14 4406) = 0 then (some I14) else (tw_let (g_X10_wrong I14 (1 : Int32) (I14 4404)) fun I28 => some I28)) else (some I14)).bind fun I25 => (if (I25 4413) = 0 then ((tw_ld 241 (A15 48) (9 : Int32)).bind fun x34 => if x34 = 0 then (tw_let (g_X10_wrong I25 (6 : Int32) (I25 4404)) fun I36 => some I36) else ((tw_ld 241 (A15 48) (1 : Int32)).bind fun x39 => if x39 = 0 then (tw_let (g_X10_wrong I25 (6 : Int32) (I25 4404)) fun I41 => some I41) else (some I25))) else (some I25)).bind fun I31 => if (I31 4413) = 0 then ((tw_copy0 241 (A15 48) 241 (A15 47) (0 : Int32) (0 : Int32) (241 : Int32)).bind fun w44 => (g_X10_town_L3 4096 (0 : Int32) (va_up A15 47 w44)).bind fun A46 => (tw_ld 241 (A46 47) (1 : Int32)).bind fun x51 => some (x51, (upd (upd (upd I31 4414 (1 : Int32)) 4420 (0 : Int32)) 4421 (0 : Int32)), A46)) else (tw_let (g_X10_no I31 (4 : Int32)) fun (x53, I54) => some (x53, I54, A15)) := by
    unfold g_X10_town
    dsimp only [tw_let]
    rw [hg2, if_pos ((tm_in_k (c := t) (by omega)).mpr ⟨n, by omega, rfl⟩), z1, Option.bind_some]
  have b11 : (upd (upd (upd (upd (upd (g_X10_good I) 4402 (0 : Int32)) 4409 (0 : Int32)) 4413 (0 : Int32)) 4403 (nI n)) 4405 (0 : Int32)) 4411 = 0 := by rw [tm_un _ (by decide), tm_un _ (by decide), tm_un _ (by decide), tm_un _ (by decide), tm_un _ (by decide)]; exact g11
  rw [e0]
  generalize (upd (upd (upd (upd (upd (g_X10_good I) 4402 (0 : Int32)) 4409 (0 : Int32)) 4413 (0 : Int32)) 4403 (nI n)) 4405 (0 : Int32)) = K at hB b1 b2 b3 b4 b5 b11 ⊢
  obtain ⟨I8, A9, I11, A12, I14, A15, I25, I31, p1, p2, p3, p4, p5, p6, p7⟩ := tp_par10 hb4 b1 b2 b3 b4 z3
  rw [p1, Option.bind_some]
  dsimp only
  rw [p2, Option.bind_some]
  dsimp only
  rw [p3, Option.bind_some]
  dsimp only
  rw [p4, Option.bind_some, p5, Option.bind_some]
  have hk : ∀ k, (k < 4400 ∨ 4413 < k) → I31 k = I k := fun k hk => (p6.1 k (by omega) (by omega)).trans (hB k (by omega) (by omega) (by omega) (by omega) (by omega) (by omega) (by omega))
  have hd : ∀ d, d ≠ 46 → d ≠ 48 → A15 d = A d := fun d d1 d2 => (p6.2 d d1 d2).trans (z2 d d2)
  have h42 : I31 4402 = 0 := (p6.1 4402 (by decide) (by decide)).trans b5
  cases hl : tp_all c n with
  | inl x =>
    rw [hl] at p7
    obtain ⟨f1, f2, f3⟩ := p7
    rw [if_neg (by rw [f1]; decide)]
    dsimp only [tw_let, g_X10_no]
    exact ⟨_, _, rfl, tm_us _ _ _, (tm_un _ (by decide)).trans f2, (tm_un _ (by decide)).trans f3, (tm_un _ (by decide)).trans h42, fun k q => (tm_un _ (by omega)).trans (hk k q), hd⟩
  | inr y =>
    rw [hl] at p7
    obtain ⟨f1, f2, f3⟩ := p7
    rw [if_pos f1, show tw_copy0 241 (A15 48) 241 (A15 47) (0 : Int32) (0 : Int32) (241 : Int32) = _ from tm_copy (a := 0) (d := 0) (n := 241) (by decide) (by decide) (by decide) (by decide) (by decide), Option.bind_some]
    obtain ⟨A46, q1, q2, q3⟩ := tp_zst10 (A := va_up A15 47 (fun j => if 0 ≤ j ∧ j < 0 + 241 then A15 48 (0 + (j - 0)) else A15 47 j))
    have r47 : ∀ j, j < 241 → A46 47 j = nI (y.2 j) := fun j hj => by
      rw [q2 47 (by decide), tm_vs, if_pos (by omega), show 0 + (j - 0) = j by omega]
      exact f3 j hj
    rw [q1, Option.bind_some, tm_l_c1, Option.bind_some, r47 1 (by decide)]
    have I411 : I31 4411 = 0 := (p6.1 4411 (by decide) (by decide)).trans b11
    exact ⟨_, _, rfl, by rw [tm_un _ (by decide), tm_un _ (by decide), tm_un _ (by decide)]; exact I411, by rw [tm_un _ (by decide), tm_un _ (by decide), tm_un _ (by decide)]; exact f2, by rw [tm_un _ (by decide), tm_un _ (by decide), tm_un _ (by decide)]; exact h42, by rw [tm_un _ (by decide), tm_un _ (by decide), tm_us], by rw [tm_un _ (by decide), tm_us], tm_us _ _ _, fun k q => by rw [tm_un _ (by omega), tm_un _ (by omega), tm_un _ (by omega)]; exact hk k (by omega), r47, q3, fun d d1 d2 d3 d4 => by rw [q2 d d4, tm_vn _ d2]; exact hd d d1 d3⟩
theorem tm_q_town {I : Nat → Int32} {A : Nat → Nat → Int32} (h : tm_Inv I A) (L : Nat → Int64) (J : Nat → Nat → Int64) (rt : Nat) (a : Int32) : ∃ x I1 L1 A1 J1 tw dr rt1, g_X9_town I L A J rt a = some (x, I1, L1, A1, J1, tw, dr, rt1) ∧ ∃ I2 A2, g_X10_town I1 A1 a = some (x, I2, A2) ∧ ((tw = 2 ∧ dr = 14 ∧ (rt1 = rt ∨ rt1 = 14) ∧ tm_Inv I2 A2) ∨ (tw = 14 ∧ dr = 2 ∧ rt1 = 14 ∧ tm_Inv I2 (tp_swp A2))) := by
  obtain ⟨⟨T, s, U, V, t, h1, h2, h3, h4, h5, h6, h7, ht, i1, i2, hj⟩, hT, hS⟩ := id h
  have bad : ¬ tm_ok (t + 1) a → ∃ I2 A2, g_X10_town (upd I 12 2) A a = some (-1, I2, A2) ∧ tm_Inv I2 A2 := by
    intro hn
    refine ⟨_, A, ?_, tm_ref h (w := 2) (by decide)⟩
    unfold g_X10_town g_X10_good
    dsimp only [tw_let, g_X10_no]
    have e : (upd (upd (upd I 12 2) 4400 0) 4411 0) 4402 = nI t := by
      rw [tm_un _ (by decide), tm_un _ (by decide), tm_un _ (by decide)]
      exact i2
    rw [e, if_neg (fun q => hn ((tm_in_k (c := t) (by omega)).mp q))]
  unfold g_X9_town
  dsimp only [tw_let, g_X9_refuse, g_X9_grant]
  by_cases g0 : a < 0
  · obtain ⟨I2, A2, e1, e2⟩ := bad (fun ⟨p, p1, p2⟩ => by rw [p2] at g0; exact nI_pos (by omega) g0)
    rw [if_pos g0]
    exact ⟨_, _, _, _, _, _, _, _, rfl, I2, A2, e1, Or.inl ⟨rfl, rfl, Or.inl rfl, e2⟩⟩
  · rw [if_neg g0, i1]
    obtain ⟨n, hn31, rfl⟩ := nI_of g0
    by_cases g1 : n ≤ t
    · rw [if_pos (nI_le g1 (by omega))]
      have hby : ∀ j, ∃ c, j < t → c < 256 ∧ A 45 j = nI c ∧ A 1 j = (nI c).toInt8.toInt32 := fun j => by
        by_cases q : j < t
        · obtain ⟨c, c1⟩ := hj j q
          exact ⟨c, fun _ => c1⟩
        · exact ⟨0, fun w => absurd w q⟩
      obtain ⟨c, hc⟩ := Classical.axiomOfChoice hby
      have hb9 : tp_by c n A := ⟨by omega, fun j hj2 => ⟨(hc j (by omega)).1, (hc j (by omega)).2.2⟩⟩
      obtain ⟨b, I7, L8, A9, J10, r1, r2, r3⟩ := tp_town9 (I := I) L J hb9
      rw [r1, Option.bind_some]
      dsimp only
      have hb10 : tp_by10 c n A9 := ⟨by omega, fun j hj2 => ⟨(hc j (by omega)).1, by rw [r2.2 45 (by decide)]; exact (hc j (by omega)).2.1⟩⟩
      cases hl : tp_all c n with
      | inl x =>
        rw [hl] at r3
        obtain ⟨rfl, f1, f2⟩ := r3
        rw [if_neg (by decide)]
        have hI : ∀ k, k ≠ 1 → k ≠ 10 → k ≠ 11 → k ≠ 12 → (k < 2602 ∨ 3205 < k) → (upd (upd (upd (upd I7 1 (0 : Int32)) 10 (I7 2610)) 11 (I7 2611)) 12 4) k = I k := fun k k1 k2 k3 k4 k5 => by
          rw [tm_un _ k4, tm_un _ k3, tm_un _ k2, tm_un _ k1]
          exact r2.1 k k5
        have q1 : (upd (upd (upd (upd I7 1 (0 : Int32)) 10 (I7 2610)) 11 (I7 2611)) 12 4) 1 = 0 := by rw [tm_un _ (by decide), tm_un _ (by decide), tm_un _ (by decide), tm_us]
        have q10 : (upd (upd (upd (upd I7 1 (0 : Int32)) 10 (I7 2610)) 11 (I7 2611)) 12 4) 10 = nI x.1 := by rw [tm_un _ (by decide), tm_un _ (by decide), tm_us]; exact f1
        have q11 : (upd (upd (upd (upd I7 1 (0 : Int32)) 10 (I7 2610)) 11 (I7 2611)) 12 4) 11 = nI x.2 := by rw [tm_un _ (by decide), tm_us]; exact f2
        have q12 : (upd (upd (upd (upd I7 1 (0 : Int32)) 10 (I7 2610)) 11 (I7 2611)) 12 4) 12 = 4 := tm_us _ _ _
        refine ⟨_, _, _, _, _, _, _, _, rfl, ?_⟩
        generalize (upd (upd (upd (upd I7 1 (0 : Int32)) 10 (I7 2610)) 11 (I7 2611)) 12 4) = K at hI q1 q10 q11 q12 ⊢
        have w := tp_tn10 (I := K) hb10 ht ((hI 4402 (by decide) (by decide) (by decide) (by decide) (by decide)).trans i2) g1
        rw [hl] at w
        obtain ⟨I2, A2, w1, w2, w3, w4, w5, w6, w7⟩ := w
        refine ⟨I2, A2, w1, Or.inl ⟨rfl, rfl, Or.inr rfl, ⟨T, s, U, V, 0, h1, ?_, ?_, ?_, ?_, ?_, ?_, by decide, ?_, ?_, fun j hj => absurd hj (Nat.not_lt_zero _)⟩, ⟨?_, ?_, fun _ => ?_⟩, ?_⟩⟩
        · exact tm_R_of h2 ((w7 47 (by decide) (by decide)).trans (r2.2 47 (by decide)))
        · exact tm_C_of h3 (fun d d1 d2 => (w7 d (by omega) (by omega)).trans (r2.2 d (by omega)))
        · exact tm_H_of h4 ((w6 4414 (by decide)).trans (hI 4414 (by decide) (by decide) (by decide) (by decide) (by decide)))
        · rw [w6 3300 (by decide), w6 3301 (by decide), w6 3302 (by decide), w7 49 (by decide) (by decide), hI 3300 (by decide) (by decide) (by decide) (by decide) (by decide), hI 3301 (by decide) (by decide) (by decide) (by decide) (by decide), hI 3302 (by decide) (by decide) (by decide) (by decide) (by decide), r2.2 49 (by decide)]
          exact h5
        · rw [w6 3304 (by decide), w6 4420 (by decide), w7 34 (by decide) (by decide), w7 50 (by decide) (by decide), hI 3304 (by decide) (by decide) (by decide) (by decide) (by decide), hI 4420 (by decide) (by decide) (by decide) (by decide) (by decide), r2.2 34 (by decide), r2.2 50 (by decide)]
          exact h6
        · rw [w6 3306 (by decide), w6 4421 (by decide), w7 35 (by decide) (by decide), w7 51 (by decide) (by decide), hI 3306 (by decide) (by decide) (by decide) (by decide) (by decide), hI 4421 (by decide) (by decide) (by decide) (by decide) (by decide), r2.2 35 (by decide), r2.2 51 (by decide)]
          exact h7
        · exact ((w6 1 (by decide)).trans q1).trans rfl
        · exact w5.trans rfl
        · rw [w6 12 (by decide), q12, w2]
        · rw [w6 10 (by decide), q10, w3]
        · rw [w6 11 (by decide), q11, w4]
        · obtain ⟨z, z1, z2⟩ := hS
          exact ⟨z, z1, by rw [w6 3907 (by decide), hI 3907 (by decide) (by decide) (by decide) (by decide) (by decide)]; exact z2⟩
      | inr y =>
        rw [hl] at r3
        obtain ⟨rfl, f1, f2, f3, f4⟩ := r3
        rw [if_pos rfl]
        have ct : g_X8_count_14 A9 (1 : Int32) = nI (y.2 1) := by
          unfold g_X8_count_14
          rw [show tw_get0 9 (A9 15) (1 : Int32) = A9 15 1 from tm_get (i := 1) (by decide) (by decide), f1.1 1 (by decide)]
        rw [ct]
        unfold g_X0_forget
        have hI : ∀ k, k ≠ 1 → k ≠ 10 → k ≠ 11 → k ≠ 12 → k ≠ 3300 → k ≠ 3301 → k ≠ 3302 → k ≠ 3304 → k ≠ 3306 → (k < 2602 ∨ 3205 < k) → (upd (upd (upd (upd (upd (upd (upd (upd (upd I7 1 (0 : Int32)) 10 (I7 2610)) 11 (I7 2611)) 3300 (0 : Int32)) 3301 (0 : Int32)) 3302 (0 : Int32)) 3304 (0 : Int32)) 3306 (0 : Int32)) 12 (0 : Int32)) k = I k := fun k k1 k2 k3 k4 k5 k6 k7 k8 k9 k0 => by
          rw [tm_un _ k4, tm_un _ k9, tm_un _ k8, tm_un _ k7, tm_un _ k6, tm_un _ k5, tm_un _ k3, tm_un _ k2, tm_un _ k1]
          exact r2.1 k k0
        have q1 : (upd (upd (upd (upd (upd (upd (upd (upd (upd I7 1 (0 : Int32)) 10 (I7 2610)) 11 (I7 2611)) 3300 (0 : Int32)) 3301 (0 : Int32)) 3302 (0 : Int32)) 3304 (0 : Int32)) 3306 (0 : Int32)) 12 (0 : Int32)) 1 = 0 := by rw [tm_un _ (by decide), tm_un _ (by decide), tm_un _ (by decide), tm_un _ (by decide), tm_un _ (by decide), tm_un _ (by decide), tm_un _ (by decide), tm_un _ (by decide), tm_us]
        have q10 : (upd (upd (upd (upd (upd (upd (upd (upd (upd I7 1 (0 : Int32)) 10 (I7 2610)) 11 (I7 2611)) 3300 (0 : Int32)) 3301 (0 : Int32)) 3302 (0 : Int32)) 3304 (0 : Int32)) 3306 (0 : Int32)) 12 (0 : Int32)) 10 = 0 := by rw [tm_un _ (by decide), tm_un _ (by decide), tm_un _ (by decide), tm_un _ (by decide), tm_un _ (by decide), tm_un _ (by decide), tm_un _ (by decide), tm_us]; exact f2
        have q12 : (upd (upd (upd (upd (upd (upd (upd (upd (upd I7 1 (0 : Int32)) 10 (I7 2610)) 11 (I7 2611)) 3300 (0 : Int32)) 3301 (0 : Int32)) 3302 (0 : Int32)) 3304 (0 : Int32)) 3306 (0 : Int32)) 12 (0 : Int32)) 12 = 0 := tm_us _ _ _
        have q6 : (upd (upd (upd (upd (upd (upd (upd (upd (upd I7 1 (0 : Int32)) 10 (I7 2610)) 11 (I7 2611)) 3300 (0 : Int32)) 3301 (0 : Int32)) 3302 (0 : Int32)) 3304 (0 : Int32)) 3306 (0 : Int32)) 12 (0 : Int32)) 3306 = 0 := by rw [tm_un _ (by decide), tm_us]
        have q4 : (upd (upd (upd (upd (upd (upd (upd (upd (upd I7 1 (0 : Int32)) 10 (I7 2610)) 11 (I7 2611)) 3300 (0 : Int32)) 3301 (0 : Int32)) 3302 (0 : Int32)) 3304 (0 : Int32)) 3306 (0 : Int32)) 12 (0 : Int32)) 3304 = 0 := by rw [tm_un _ (by decide), tm_un _ (by decide), tm_us]
        have q2 : (upd (upd (upd (upd (upd (upd (upd (upd (upd I7 1 (0 : Int32)) 10 (I7 2610)) 11 (I7 2611)) 3300 (0 : Int32)) 3301 (0 : Int32)) 3302 (0 : Int32)) 3304 (0 : Int32)) 3306 (0 : Int32)) 12 (0 : Int32)) 3302 = 0 := by rw [tm_un _ (by decide), tm_un _ (by decide), tm_un _ (by decide), tm_us]
        have q31 : (upd (upd (upd (upd (upd (upd (upd (upd (upd I7 1 (0 : Int32)) 10 (I7 2610)) 11 (I7 2611)) 3300 (0 : Int32)) 3301 (0 : Int32)) 3302 (0 : Int32)) 3304 (0 : Int32)) 3306 (0 : Int32)) 12 (0 : Int32)) 3301 = 0 := by rw [tm_un _ (by decide), tm_un _ (by decide), tm_un _ (by decide), tm_un _ (by decide), tm_us]
        have q30 : (upd (upd (upd (upd (upd (upd (upd (upd (upd I7 1 (0 : Int32)) 10 (I7 2610)) 11 (I7 2611)) 3300 (0 : Int32)) 3301 (0 : Int32)) 3302 (0 : Int32)) 3304 (0 : Int32)) 3306 (0 : Int32)) 12 (0 : Int32)) 3300 = 0 := by rw [tm_un _ (by decide), tm_un _ (by decide), tm_un _ (by decide), tm_un _ (by decide), tm_un _ (by decide), tm_us]
        refine ⟨_, _, _, _, _, _, _, _, rfl, ?_⟩
        generalize (upd (upd (upd (upd (upd (upd (upd (upd (upd I7 1 (0 : Int32)) 10 (I7 2610)) 11 (I7 2611)) 3300 (0 : Int32)) 3301 (0 : Int32)) 3302 (0 : Int32)) 3304 (0 : Int32)) 3306 (0 : Int32)) 12 (0 : Int32)) = K at hI q1 q10 q12 q6 q4 q2 q31 q30 ⊢
        have w := tp_tn10 (I := K) hb10 ht ((hI 4402 (by decide) (by decide) (by decide) (by decide) (by decide) (by decide) (by decide) (by decide) (by decide) (by decide)).trans i2) g1
        rw [hl] at w
        obtain ⟨I2, A2, w1, w2, w3, w4, w5, w6, w7, w8, w9, wA, wB⟩ := w
        refine ⟨I2, A2, w1, Or.inr ⟨rfl, rfl, rfl, ⟨y.2, fun _ => 0, 0, 0, 0, tp_WF_W f3 f4, ?_, ?_, ?_, ⟨fun p hp => ⟨?_, Nat.zero_le _⟩, ?_, by decide, ?_, ?_, ?_⟩, ⟨by decide, fun _ => rfl, ?_, ?_, fun i hi => absurd hi (Nat.not_lt_zero _)⟩, ⟨by decide, fun _ => rfl, ?_, ?_, fun i hi => absurd hi (Nat.not_lt_zero _)⟩, by decide, ?_, ?_, fun j hj => absurd hj (Nat.not_lt_zero _)⟩, ⟨?_, ?_, fun q => ?_⟩, ?_⟩⟩
        · intro j hj
          rw [tp_swp_o (by decide)]
          exact w9 j (by omega)
        · have hh : tm_C (fun d => A9 (d + 12)) y.2 := tp_C_C (tp_WF_W f3 f4) f1
          refine tm_C_of hh (fun d d1 d2 => ?_)
          unfold tp_swp
          rw [if_pos ⟨by omega, d1⟩]
          exact wB (d + 12) (by omega) (by omega) (by omega) (by omega)
        · unfold tm_H
          rw [w5, if_neg (by omega)]
        · rw [tp_swp_o (by decide)]
          exact (wA p (by omega)).trans rfl
        · rw [tp_swp_o (by decide)]
          exact (wA 6 (by decide)).trans rfl
        · rw [w8 3300 (by decide), q30]
          rfl
        · rw [w8 3301 (by decide), q31, tm_pk0 (fun _ _ => rfl)]
          rfl
        · rw [w8 3302 (by decide), q2, tp_swp_o (by decide)]
          exact (wA 7 (by decide)).symm
        · exact ((w8 3304 (by decide)).trans q4).trans rfl
        · exact w6.trans rfl
        · exact ((w8 3306 (by decide)).trans q6).trans rfl
        · exact w7.trans rfl
        · exact ((w8 1 (by decide)).trans q1).trans rfl
        · exact w4.trans rfl
        · rw [w8 12 (by decide), q12, w2]
        · rw [w8 10 (by decide), q10, w3]
        · rw [w8 12 (by decide), q12] at q
          exact absurd q (by decide)
        · obtain ⟨z, z1, z2⟩ := hS
          exact ⟨z, z1, by rw [w8 3907 (by decide), hI 3907 (by decide) (by decide) (by decide) (by decide) (by decide) (by decide) (by decide) (by decide) (by decide) (by decide)]; exact z2⟩
    · obtain ⟨I2, A2, e1, e2⟩ := bad (fun ⟨p, p1, p2⟩ => by have := (nI_eq (by omega) (by omega)).mp p2; omega)
      rw [if_neg (nI_ge (by omega) (by omega))]
      exact ⟨_, _, _, _, _, _, _, _, rfl, I2, A2, e1, Or.inl ⟨rfl, rfl, Or.inl rfl, e2⟩⟩
