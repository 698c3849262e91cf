/-! MATHEMATICS, 21: undo, images -/
theorem tm_row_c {T s : Nat → Nat} {x y z : Int32} {m m2 : Nat → Int32} (h : tm_row T x y z m s) (e : ∀ j, j < 8 → m2 j = m j) : tm_row T x y z m2 s := by
  obtain ⟨h1, h2, h3, h4, h5, h6⟩ := h
  exact ⟨fun p hp => by rw [e p (by omega)]; exact h1 p hp, by rw [e 6 (by decide)]; exact h2, h3, h4, h5, by rw [e 7 (by decide)]; exact h6⟩
/-- the acts are as in a kept row -/
theorem tm_goto {I I2 : Nat → Int32} {A A2 : Nat → Nat → Int32} {T s s2 : Nat → Nat} {U V t U2 : Nat} (hP : tm_P I A T s U V t) (hT : tm_Tr I) (hS : tm_Sd I) (hr : tm_row T (I2 3300) (I2 3301) (I2 3302) (A2 49) s2) (hU : U2 ≤ U) (u9 : I2 3304 = nI U2) (u10 : I2 4420 = nI U2) (hk : ∀ k, ((k < 3600 ∧ k ≠ 12 ∧ k ≠ 3300 ∧ k ≠ 3301 ∧ k ≠ 3302 ∧ k ≠ 3304) ∨ k = 3907 ∨ (4400 < k ∧ k < 4425 ∧ k ≠ 4411 ∧ k ≠ 4420)) → I2 k = I k) (hc : ∀ c, c ≠ 49 → A2 c = A c) (ht : I2 12 = I2 4411) (h4 : I2 12 ≠ 4) : tm_Inv I2 A2 := by
  obtain ⟨p1, p2, p3, p4, p5, ⟨pU, pU0, _, _, pr⟩, p7, p8⟩ := hP
  refine ⟨⟨T, s2, U2, V, t, p1, tm_R_of p2 (hc 47 (by decide)), tm_C_of p3 (fun c c1 c2 => hc c (by omega)), tm_H_of p4 (hk 4414 (by decide)), hr, ⟨by omega, fun q => by have := pU0 q; omega, u9, u10, fun i hi => ?_⟩, ?_, ?_⟩, ⟨ht, ?_, fun q => absurd q h4⟩, ?_⟩
  · rw [hc 34 (by decide), hc 50 (by decide)]
    exact pr i (by omega)
  · rw [hk 3306 (by decide), hk 4421 (by decide), hc 35 (by decide), hc 51 (by decide)]
    exact p7
  · rw [hk 1 (by decide), hk 4402 (by decide), hc 45 (by decide), hc 1 (by decide)]
    exact p8
  · rw [hk 10 (by decide), hk 4409 (by decide)]
    exact hT.2.1
  · obtain ⟨z, z1, z2⟩ := hS
    exact ⟨z, z1, by rw [hk 3907 (by decide)]; exact z2⟩
theorem tm_rd3 {f : Nat → Int32} {N u : Nat} (hu : 3 * u + 2 < N) (hN : N < 2 ^ 31) : tw_get0 N f (nI u * (3 : Int32)) = f (3 * u) ∧ tw_get0 N f ((nI u * (3 : Int32)) + (1 : Int32)) = f (3 * u + 1) ∧ tw_get0 N f ((nI u * (3 : Int32)) + (2 : Int32)) = f (3 * u + 2) := by
  have e0 : nI u * (3 : Int32) = nI (3 * u) := by rw [show (3 : Int32) = nI 3 from rfl, pk_mul, Nat.mul_comm]
  rw [e0, show nI (3 * u) + (1 : Int32) = nI (3 * u + 1) from nI_add _ 1, show nI (3 * u) + (2 : Int32) = nI (3 * u + 2) from nI_add _ 2]
  exact ⟨tm_get (by omega) hN, tm_get (by omega) hN, tm_get (by omega) hN⟩
theorem tm_q_undo {I : Nat → Int32} {A : Nat → Nat → Int32} (h : tm_Inv I A) : ∃ x I1, g_X9_undo I A = (x, I1) ∧ ∃ I2 A2, g_X10_undo I1 A = some (x, I2, A2) ∧ tm_Inv I2 A2 := by
  obtain ⟨⟨T, s, U, V, t, hP⟩, hT, hS⟩ := id h
  obtain ⟨p1, p2, p3, p4, p5, ⟨pU, pU0, pi, pj, pr⟩, p7, p8⟩ := id hP
  by_cases g : U = 0
  · refine ⟨false, upd I 12 6, ?_, _, A, ?_, tm_ref h (w := 6) (by decide)⟩
    · unfold g_X9_undo g_X0_takeBack
      dsimp only [tw_let]
      rw [pi, g, if_neg (show ¬ (0 : Int32) < nI 0 by decide)]
      dsimp only [g_X9_deny]
      rw [if_neg (by decide)]
    · unfold g_X10_undo g_X10_good
      dsimp only [tw_let, g_X10_isNot]
      rw [if_pos]
      rw [tm_un _ (by decide), tm_un _ (by decide), tm_un _ (by decide), pj, g]
      rfl
  · obtain ⟨u, rfl⟩ : ∃ u, U = u + 1 := ⟨U - 1, by omega⟩
    obtain ⟨w, hw⟩ := pr u (by omega)
    obtain ⟨d0, d1, d2⟩ := tm_rd3 (f := A 34) (u := u) (N := 48) (by omega) (by decide)
    have e1 : nI (u + 1) - 1 = nI u := nI_pred u
    refine ⟨true, upd (upd (upd (upd (upd I 3304 (nI u)) 3300 (A 34 (3 * u))) 3301 (A 34 (3 * u + 1))) 3302 (A 34 (3 * u + 2))) 12 0, ?_, upd (upd (upd (upd (upd (upd (upd (upd I 3304 (nI u)) 3300 (A 34 (3 * u))) 3301 (A 34 (3 * u + 1))) 3302 (A 34 (3 * u + 2))) 12 0) 4400 0) 4411 0) 4420 (nI u), va_up A 49 (fun j => if 0 ≤ j ∧ j < 0 + 8 then A 50 (8 * u + (j - 0)) else A 49 j), ?_, ?_⟩
    · unfold g_X9_undo g_X0_takeBack g_X0_become_33_34
      dsimp only [tw_let]
      rw [pi, if_pos (show (0 : Int32) < nI (u + 1) from nI_lt (a := 0) (by omega) (by omega)), e1, d0, d1, d2]
      dsimp only [g_X9_allow]
      rw [if_pos rfl]
    · unfold g_X10_undo g_X10_good
      dsimp only [tw_let, g_X10_isNot]
      have e4 : upd (upd (upd (upd (upd (upd (upd I 3304 (nI u)) 3300 (A 34 (3 * u))) 3301 (A 34 (3 * u + 1))) 3302 (A 34 (3 * u + 2))) 12 0) 4400 0) 4411 0 4420 = nI (u + 1) := by
        rw [tm_un _ (by decide), tm_un _ (by decide), tm_un _ (by decide), tm_un _ (by decide), tm_un _ (by decide), tm_un _ (by decide), tm_un _ (by decide)]
        exact pj
      rw [e4, if_neg (nI_ne0 (by omega) (by omega)), e1, show (8 : Int32) * nI u = nI (8 * u) from pk_mul 8 u, show tw_copy0 128 (A 50) 8 (A 49) (nI (8 * u)) (0 : Int32) (8 : Int32) = _ from tm_copy (a := 8 * u) (d := 0) (n := 8) (by omega) (by decide) (by decide) (by decide) (by decide), Option.bind_some]
    · refine tm_goto (s2 := w) (U2 := u) hP hT hS ?_ (by omega) ?_ ?_ (fun k hk => ?_) (fun c hc => tm_vn _ hc) ?_ ?_
      · rw [tm_un _ (by decide), tm_un _ (by decide), tm_un _ (by decide), tm_un _ (by decide), tm_un _ (by decide), tm_un _ (by decide), tm_us, tm_un _ (by decide), tm_un _ (by decide), tm_un _ (by decide), tm_un _ (by decide), tm_un _ (by decide), tm_us, tm_un _ (by decide), tm_un _ (by decide), tm_un _ (by decide), tm_un _ (by decide), tm_us, tm_vs]
        refine tm_row_c hw fun j hj => ?_
        rw [if_pos (by omega)]
        rfl
      · rw [tm_un _ (by decide), tm_un _ (by decide), tm_un _ (by decide), tm_un _ (by decide), tm_un _ (by decide), tm_un _ (by decide), tm_un _ (by decide), tm_us]
      · rw [tm_us]
      · rw [tm_un _ (by omega), tm_un _ (by omega), tm_un _ (by omega), tm_un _ (by omega), tm_un _ (by omega), tm_un _ (by omega), tm_un _ (by omega), tm_un _ (by omega)]
      · rw [tm_un _ (by decide), tm_un _ (by decide), tm_un _ (by decide), tm_us, tm_un _ (by decide), tm_us]
      · rw [tm_un _ (by decide), tm_un _ (by decide), tm_un _ (by decide), tm_us]
        decide
theorem tm_q_back {I : Nat → Int32} {A : Nat → Nat → Int32} (h : tm_Inv I A) (a : Int32) : ∃ x I1, g_X9_back I A a = (x, I1) ∧ ∃ I2 A2, g_X10_back I1 A a = some (x, I2, A2) ∧ tm_Inv I2 A2 := by
  obtain ⟨⟨T, s, U, V, t, hP⟩, hT, hS⟩ := id h
  obtain ⟨p1, p2, p3, p4, p5, ⟨pU, pU0, pi, pj, pr⟩, ⟨pV, pV0, vi, vj, vr⟩, p8⟩ := id hP
  by_cases k : tm_ok V a
  · obtain ⟨u, hu, rfl⟩ := k
    obtain ⟨w, hw⟩ := vr u hu
    obtain ⟨d0, d1, d2⟩ := tm_rd3 (f := A 35) (u := u) (N := 9) (by omega) (by decide)
    refine ⟨true, upd (upd (upd (upd (upd I 3300 (A 35 (3 * u))) 3301 (A 35 (3 * u + 1))) 3302 (A 35 (3 * u + 2))) 3304 0) 12 0, ?_, upd (upd (upd (upd (upd (upd (upd (upd I 3300 (A 35 (3 * u))) 3301 (A 35 (3 * u + 1))) 3302 (A 35 (3 * u + 2))) 3304 0) 12 0) 4400 0) 4411 0) 4420 0, va_up A 49 (fun j => if 0 ≤ j ∧ j < 0 + 8 then A 51 (8 * u + (j - 0)) else A 49 j), ?_, ?_⟩
    · unfold g_X9_back g_X0_becomeAs g_X0_become_33_35
      dsimp only [tw_let]
      rw [if_neg (nI_pos (by omega)), vi, if_pos (nI_lt hu (by omega)), d0, d1, d2]
      dsimp only [g_X9_allow]
      rw [if_pos rfl]
    · unfold g_X10_back g_X10_good
      dsimp only [tw_let, g_X10_isNot]
      have e4 : upd (upd (upd (upd (upd (upd (upd I 3300 (A 35 (3 * u))) 3301 (A 35 (3 * u + 1))) 3302 (A 35 (3 * u + 2))) 3304 0) 12 0) 4400 0) 4411 0 4421 = nI V := by
        rw [tm_un _ (by decide), tm_un _ (by decide), tm_un _ (by decide), tm_un _ (by decide), tm_un _ (by decide), tm_un _ (by decide), tm_un _ (by decide)]
        exact vj
      rw [e4, if_pos (tm_in_t (by omega) hu), show (8 : Int32) * nI u = nI (8 * u) from pk_mul 8 u, show tw_copy0 24 (A 51) 8 (A 49) (nI (8 * u)) (0 : Int32) (8 : Int32) = _ from tm_copy (a := 8 * u) (d := 0) (n := 8) (by omega) (by decide) (by decide) (by decide) (by decide), Option.bind_some]
    · refine tm_goto (s2 := w) (U2 := 0) hP hT hS ?_ (by omega) ?_ ?_ (fun k hk => ?_) (fun c hc => tm_vn _ hc) ?_ ?_
      · rw [tm_un _ (by decide), tm_un _ (by decide), tm_un _ (by decide), tm_un _ (by decide), tm_un _ (by decide), tm_un _ (by decide), tm_un _ (by decide), tm_us, tm_un _ (by decide), tm_un _ (by decide), tm_un _ (by decide), tm_un _ (by decide), tm_un _ (by decide), tm_un _ (by decide), tm_us, tm_un _ (by decide), tm_un _ (by decide), tm_un _ (by decide), tm_un _ (by decide), tm_un _ (by decide), tm_us, tm_vs]
        refine tm_row_c hw fun j hj => ?_
        rw [if_pos (by omega)]
        rfl
      · rw [tm_un _ (by decide), tm_un _ (by decide), tm_un _ (by decide), tm_un _ (by decide), tm_us]
        rfl
      · rw [tm_us]
        rfl
      · rw [tm_un _ (by omega), tm_un _ (by omega), tm_un _ (by omega), tm_un _ (by omega), tm_un _ (by omega), tm_un _ (by omega), tm_un _ (by omega), tm_un _ (by omega)]
      · rw [tm_un _ (by decide), tm_un _ (by decide), tm_un _ (by decide), tm_us, tm_un _ (by decide), tm_us]
      · rw [tm_un _ (by decide), tm_un _ (by decide), tm_un _ (by decide), tm_us]
        decide
  · refine ⟨false, upd I 12 1, ?_, _, A, ?_, tm_ref h (w := 1) (by decide)⟩
    · unfold g_X9_back g_X0_becomeAs
      dsimp only [tw_let]
      by_cases g : a < 0
      · rw [if_pos g]
        dsimp only [g_X9_deny]
        rw [if_neg (by decide)]
      · rw [if_neg g, vi, if_neg (tm_nlt (tm_ok_f (by omega) k g))]
        dsimp only [g_X9_deny]
        rw [if_neg (by decide)]
    · unfold g_X10_back g_X10_good
      dsimp only [tw_let, g_X10_isNot]
      have e4 : upd (upd (upd I 12 1) 4400 0) 4411 0 4421 = nI V := by
        rw [tm_un _ (by decide), tm_un _ (by decide), tm_un _ (by decide)]
        exact vj
      rw [e4, tm_in_f (by omega) k, if_neg (by decide)]
theorem tm_q_image {I : Nat → Int32} {A : Nat → Nat → Int32} (h : tm_Inv I A) : ∃ x I1 A1, g_X9_image I A = (x, I1, A1) ∧ ∃ I2 A2, g_X10_image I1 A1 = some (x, I2, A2) ∧ tm_Inv I2 A2 := by
  obtain ⟨⟨T, s, U, V, t, hP⟩, hT, hS⟩ := id h
  obtain ⟨p1, p2, p3, p4, p5, p6, ⟨pV, pV0, vi, vj, vr⟩, p8⟩ := id hP
  have hv : ∀ v : Int32, tm_H (upd (upd (upd I 12 v) 4400 0) 4411 0) T := fun v => tm_H_of p4 ((tm_g44 0 0).trans (tm_12_44 v))
  by_cases h0 : T 1 = 0
  · refine ⟨-1, upd I 12 1, A, ?_, _, A, ?_, tm_ref h (w := 1) (by decide)⟩
    · unfold g_X9_image
      dsimp only [tw_let, g_X9_refuse]
      rw [tm_town_f p3 h0, if_neg (by decide)]
    · unfold g_X10_image g_X10_good
      dsimp only [tw_let, g_X10_no]
      rw [hv 1, if_pos h0, if_pos rfl]
  · by_cases g : V = 3
    · refine ⟨-1, upd I 12 3, A, ?_, _, A, ?_, tm_ref h (w := 3) (by decide)⟩
      · unfold g_X9_image g_X0_depict
        dsimp only [tw_let, g_X9_refuse]
        rw [tm_town_t p3 p1 h0, if_pos rfl, vi, g, if_neg (show ¬ nI 3 < (3 : Int32) by decide), if_pos rfl]
      · unfold g_X10_image g_X10_good
        dsimp only [tw_let, g_X10_no]
        rw [hv 3, if_neg h0, if_neg (by decide), if_pos]
        rw [tm_un _ (by decide), tm_un _ (by decide), tm_un _ (by decide), vj, g]
        rfl
    · obtain ⟨w, w0, w1, w2, w3, w4⟩ := tm_wr (f := A 35) (u := V) (N := 9) (by omega) (by decide) (I 3300) (I 3301) (I 3302)
      have e1 : (nI V + (1 : Int32)) - (1 : Int32) = nI V := by
        rw [← nI_succ]
        exact nI_pred V
      refine ⟨nI V, upd (upd I 3306 (nI (V + 1))) 12 0, va_up A 35 w, ?_, upd (upd (upd (upd (upd I 3306 (nI (V + 1))) 12 0) 4400 0) 4411 0) 4421 (nI (V + 1)), va_up (va_up A 35 w) 51 (fun j => if 8 * V ≤ j ∧ j < 8 * V + 8 then A 49 (0 + (j - 8 * V)) else A 51 j), ?_, ?_⟩
      · unfold g_X9_image g_X0_depict g_X0_write_33_35
        dsimp only [tw_let, g_X9_grant]
        rw [tm_town_t p3 p1 h0, if_pos rfl, vi, if_pos (show nI V < (3 : Int32) from nI_lt (b := 3) (by omega) (by decide)), w0]
        dsimp only
        rw [e1, if_neg (tm_nm1 (by omega)), ← nI_succ, bx_uu, bx_uu]
      · unfold g_X10_image g_X10_good
        dsimp only [tw_let, g_X10_no]
        have e4 : upd (upd (upd (upd I 3306 (nI (V + 1))) 12 0) 4400 0) 4411 0 4421 = nI V := by
          rw [tm_un _ (by decide), tm_un _ (by decide), tm_un _ (by decide), tm_un _ (by decide)]
          exact vj
        have e5 : upd (upd (upd (upd I 3306 (nI (V + 1))) 12 0) 4400 0) 4411 0 4414 = if T 1 = 0 then (0 : Int32) else 1 := by
          rw [tm_un _ (by decide), tm_un _ (by decide), tm_un _ (by decide), tm_un _ (by decide)]
          exact p4
        rw [e5, if_neg h0, if_neg (by decide), e4, if_neg (show ¬ nI V = (3 : Int32) from fun q => g ((nI_eq (b := 3) (by omega) (by decide)).mp q)), tm_vn (f := A) (k := 35) (j := 49) w (by decide), tm_vn (f := A) (k := 35) (j := 51) w (by decide), show (8 : Int32) * nI V = nI (8 * V) from pk_mul 8 V, show tw_copy0 8 (A 49) 24 (A 51) (0 : Int32) (nI (8 * V)) (8 : Int32) = _ from tm_copy (a := 0) (d := 8 * V) (n := 8) (by decide) (by omega) (by decide) (by decide) (by decide), Option.bind_some, e1, ← nI_succ]
      · have hk : ∀ k, k ≠ 3306 → k ≠ 12 → k ≠ 4400 → k ≠ 4411 → k ≠ 4421 → upd (upd (upd (upd (upd I 3306 (nI (V + 1))) 12 0) 4400 0) 4411 0) 4421 (nI (V + 1)) k = I k := fun k k1 k2 k3 k4 k5 => by rw [tm_un _ k5, tm_un _ k4, tm_un _ k3, tm_un _ k2, tm_un _ k1]
        have hc : ∀ c, c ≠ 35 → c ≠ 51 → va_up (va_up A 35 w) 51 (fun j => if 8 * V ≤ j ∧ j < 8 * V + 8 then A 49 (0 + (j - 8 * V)) else A 51 j) c = A c := fun c c1 c2 => by rw [tm_vn _ c2, tm_vn _ c1]
        refine ⟨⟨T, s, U, V + 1, t, p1, tm_R_of p2 (hc 47 (by decide) (by decide)), tm_C_of p3 (fun c c1 c2 => hc c (by omega) (by omega)), tm_H_of p4 (hk 4414 (by decide) (by decide) (by decide) (by decide) (by decide)), ?_, ?_, ⟨by omega, fun q => absurd q h0, ?_, ?_, fun i hi => ?_⟩, ?_⟩, ⟨?_, ?_, fun q => ?_⟩, ?_⟩
        · rw [hk 3300 (by decide) (by decide) (by decide) (by decide) (by decide), hk 3301 (by decide) (by decide) (by decide) (by decide) (by decide), hk 3302 (by decide) (by decide) (by decide) (by decide) (by decide), hc 49 (by decide) (by decide)]
          exact p5
        · rw [hk 3304 (by decide) (by decide) (by decide) (by decide) (by decide), hk 4420 (by decide) (by decide) (by decide) (by decide) (by decide), hc 34 (by decide) (by decide), hc 50 (by decide) (by decide)]
          exact p6
        · rw [tm_un _ (by decide), tm_un _ (by decide), tm_un _ (by decide), tm_un _ (by decide), tm_us]
        · rw [tm_us]
        · rw [tm_vs, tm_vn _ (by decide), tm_vs]
          by_cases g2 : i < V
          · obtain ⟨w5, hw5⟩ := vr i g2
            refine ⟨w5, ?_⟩
            rw [w4 _ (by omega), w4 _ (by omega), w4 _ (by omega)]
            refine tm_row_c hw5 fun j hj => ?_
            rw [if_neg (by omega)]
          · have e : i = V := by omega
            subst e
            refine ⟨s, ?_⟩
            rw [w1, w2, w3]
            refine tm_row_c p5 fun j hj => ?_
            rw [if_pos (by omega)]
            exact congrArg (A 49) (by omega)
        · rw [hk 1 (by decide) (by decide) (by decide) (by decide) (by decide), hk 4402 (by decide) (by decide) (by decide) (by decide) (by decide), hc 45 (by decide) (by decide), hc 1 (by decide) (by decide)]
          exact p8
        · rw [tm_un _ (by decide), tm_un _ (by decide), tm_un _ (by decide), tm_us, tm_un _ (by decide), tm_us]
        · rw [hk 10 (by decide) (by decide) (by decide) (by decide) (by decide), hk 4409 (by decide) (by decide) (by decide) (by decide) (by decide)]
          exact hT.2.1
        · rw [tm_un _ (by decide), tm_un _ (by decide), tm_un _ (by decide), tm_us] at q
          exact absurd q (by decide)
        · obtain ⟨z, z1, z2⟩ := hS
          exact ⟨z, z1, by rw [hk 3907 (by decide) (by decide) (by decide) (by decide) (by decide)]; exact z2⟩
