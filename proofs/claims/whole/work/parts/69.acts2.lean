/-! MATHEMATICS, 20: the acts -/
theorem tm_act2 {I : Nat → Int32} {A : Nat → Nat → Int32} {T s : Nat → Nat} {U V t : Nat} (hP : tm_P I A T s U V t) (hT : tm_Tr I) (hS : tm_Sd I) (h1 : ¬ T 1 = 0) {Ik : Nat → Int32} {Ak : Nat → Nat → Int32} (a1 : tm_kp9 I A Ak U) (a2 : Ik 3304 = nI (tm_U0 U + 1)) (a3 : ∀ k, k ≠ 3304 → Ik k = I k) (a4 : ∀ c, c ≠ 34 → Ak c = A c) {If : Nat → Int32} (f1 : ∀ k, k ≠ 3300 → k ≠ 3301 → k ≠ 3302 → k ≠ 12 → If k = Ik k) (f2 : If 12 = 0) : ∃ In An, g_X10_note (upd (upd If 4400 0) 4411 0) Ak = some (In, An) ∧ An 49 = A 49 ∧ An 47 = A 47 ∧ ∀ m s2, tm_row T (If 3300) (If 3301) (If 3302) m s2 → tm_Inv In (va_up An 49 m) := by
  have pU := hP.2.2.2.2.2.1.1
  have hI : upd (upd If 4400 0) 4411 0 4420 = nI U := by
    rw [tm_un _ (by decide), tm_un _ (by decide), f1 _ (by decide) (by decide) (by decide) (by decide), a3 _ (by decide)]
    exact hP.2.2.2.2.2.1.2.2.2.1
  obtain ⟨In, An, e1, e2, e3, e4, e5⟩ := tm_note10 Ak pU hI
  refine ⟨In, An, e1, (e5 49 (by decide)).trans (a4 49 (by decide)), (e5 47 (by decide)).trans (a4 47 (by decide)), fun m s2 hr => ?_⟩
  have g : ∀ k, k ≠ 4420 → k ≠ 4400 → k ≠ 4411 → In k = If k := fun k k1 k2 k3 => by rw [e4 k k1, tm_un _ k3, tm_un _ k2]
  refine tm_act (A2 := va_up An 49 m) (s2 := s2) hP hT hS h1 ?_ ?_ ?_ ?_ e3 (fun k hk => ?_) (fun c hc => ?_) ?_ ?_
  · rw [g _ (by decide) (by decide) (by decide), g _ (by decide) (by decide) (by decide), g _ (by decide) (by decide) (by decide), tm_vs]
    exact hr
  · unfold tm_kp9 at *
    rw [tm_vn _ (by decide), e5 34 (by decide)]
    exact a1
  · unfold tm_kp10 at *
    rw [tm_vn _ (by decide)]
    rw [a4 50 (by decide), a4 49 (by decide)] at e2
    exact e2
  · rw [g _ (by decide) (by decide) (by decide), f1 _ (by decide) (by decide) (by decide) (by decide)]
    exact a2
  · rw [g _ (by omega) (by omega) (by omega), f1 _ (by omega) (by omega) (by omega) (by omega), a3 _ (by omega)]
  · rw [tm_vn _ (by omega), e5 _ (by omega), a4 _ (by omega)]
  · rw [g 12 (by decide) (by decide) (by decide), f2, e4 4411 (by decide), tm_us]
  · rw [g 12 (by decide) (by decide) (by decide), f2]
    decide
theorem tm_xo {a k : Nat} (h : a.testBit k = false) : a ^^^ 2 ^ k = a ||| 2 ^ k := by
  apply Nat.eq_of_testBit_eq
  intro i
  rw [Nat.testBit_xor, Nat.testBit_or, tm_twB]
  by_cases e : k = i
  · subst e
    rw [h, decide_eq_true rfl]
    rfl
  · rw [decide_eq_false e]
    cases a.testBit i <;> rfl
theorem tm_xd {a k : Nat} (h : a.testBit k = true) : a ^^^ 2 ^ k = tm_dn a (2 ^ k) := by
  apply Nat.eq_of_testBit_eq
  intro i
  rw [Nat.testBit_xor, tm_dnB, tm_twB]
  by_cases e : k = i
  · subst e
    rw [h, decide_eq_true rfl]
    rfl
  · rw [decide_eq_false e]
    cases a.testBit i <;> rfl
theorem tm_xor (a b : Nat) : nI a ^^^ nI b = nI (a ^^^ b) := by
  apply Int32.toBitVec_inj.1
  show BitVec.ofNat 32 a ^^^ BitVec.ofNat 32 b = BitVec.ofNat 32 (a ^^^ b)
  apply BitVec.eq_of_getLsbD_eq
  intro i hi
  simp [hi]
def tm_s6 (s : Nat → Nat) (v : Nat) : Nat → Nat := fun j => if j = 6 then v else s j
theorem tm_row6 {T s : Nat → Nat} {x y z : Int32} {m : Nat → Int32} (h : tm_row T x y z m s) {v : Nat} (hv : v < 256) : tm_row T (nI v) y z (upd m 6 (nI v)) (tm_s6 s v) := by
  obtain ⟨h1, h2, h3, h4, h5, h6⟩ := h
  refine ⟨fun p hp => ?_, ?_, ?_, ?_, ?_, ?_⟩
  · unfold tm_s6
    rw [tm_un _ (by omega), if_neg (by omega)]
    exact h1 p hp
  · rw [tm_us]
    rfl
  · exact hv
  · rfl
  · rw [h5, tm_pk_cong (fun p hp => show s p = tm_s6 s v p from (if_neg (by omega)).symm)]
  · rw [tm_un _ (by decide)]
    exact h6
theorem tm_rowp {T s : Nat → Nat} {x y z z2 : Int32} {m : Nat → Int32} (h : tm_row T x y z m s) {p v : Nat} (hp : p < 6) (hv : v ≤ T 1) : tm_row T x (nI (tm_pk (tm_hs s p v))) z2 (upd (upd m p (nI v)) 7 z2) (tm_hs s p v) := by
  obtain ⟨h1, h2, h3, h4, h5, h6⟩ := h
  refine ⟨fun j hj => ?_, ?_, ?_, ?_, rfl, ?_⟩
  · rw [tm_un _ (by omega)]
    unfold tm_hs
    by_cases e : j = p
    · rw [if_pos e, e, tm_us]
      exact ⟨rfl, hv⟩
    · rw [if_neg e, tm_un _ e]
      exact h1 j hj
  · rw [tm_un _ (by decide), tm_un _ (by omega), h2]
    unfold tm_hs
    rw [if_neg (by omega)]
  · unfold tm_hs
    rw [if_neg (by omega)]
    exact h3
  · rw [h4]
    unfold tm_hs
    rw [if_neg (by omega)]
  · rw [tm_us]
theorem tm_upd_same (f : Nat → Int32) (k : Nat) : upd f k (f k) = f := by
  funext j
  by_cases e : j = k
  · rw [e, tm_us]
  · rw [tm_un _ e]
theorem tm_q_brick {I : Nat → Int32} {A : Nat → Nat → Int32} (h : tm_Inv I A) (a : Int32) : ∃ x I1 A1, g_X9_brick I A a = (x, I1, A1) ∧ ∃ I2 A2, g_X10_brick I1 A1 a = some (x, I2, A2) ∧ tm_Inv I2 A2 := by
  obtain ⟨⟨T, s, U, V, t, hP⟩, hT, hS⟩ := id h
  obtain ⟨hW, hR, hC, hH, hrow, hrest⟩ := id hP
  have hv : ∀ v : Int32, tm_H (upd (upd (upd I 12 v) 4400 0) 4411 0) T := fun v => tm_H_of hH ((tm_g44 0 0).trans (tm_12_44 v))
  have h1 := tm_W_b1 hW
  have h2 := tm_W_b2 hW
  have h3 := tm_W_b3 hW
  by_cases ka : tm_ok (T 2) a
  · obtain ⟨k, hk, rfl⟩ := ka
    have hT1 : ¬ T 1 = 0 := fun e => by
      have := tm_W_0 hW e
      omega
    have h6 := hrow.2.2.1
    have hpk : 2 ^ k < 256 := Nat.pow_lt_pow_right (n := 8) (by decide) (by omega)
    by_cases g : (s 6).testBit k = false
    · obtain ⟨Ik, Ak, e0, a1, a2, a3, a4⟩ := tm_keep9 (I := I) A hP.2.2.2.2.2.1.1 hP.2.2.2.2.2.1.2.2.1
      have hnv : (s 6 ||| 2 ^ k) < 256 := Nat.or_lt_two_pow (n := 8) h6 hpk
      obtain ⟨In, An, n1, n2, n3, n4⟩ := tm_act2 hP hT hS hT1 a1 a2 a3 a4 (If := upd (upd Ik 3300 (nI (s 6 ||| 2 ^ k))) 12 0) (fun k k1 k2 k3 k4 => by rw [tm_un _ k4, tm_un _ k1]) (tm_us _ _ _)
      refine ⟨true, upd (upd Ik 3300 (nI (s 6 ||| 2 ^ k))) 12 0, Ak, ?_, In, va_up An 49 (upd (An 49) 6 (nI (s 6 ||| 2 ^ k))), ?_, n4 _ (tm_s6 s (s 6 ||| 2 ^ k)) ?_⟩
      · unfold g_X9_brick
        dsimp only [tw_let, g_X9_allow]
        rw [tm_9Sight_t hC hW hk, if_pos rfl, hrow.2.2.2.1, if_pos ((tm_b0 (by omega) (by omega)).mpr g), e0]
        dsimp only
        rw [a3 3300 (by decide), hrow.2.2.2.1, tm_shl1 (by omega), tm_or]
      · unfold g_X10_brick g_X10_good g_X10_becomes
        dsimp only [tw_let]
        rw [tm_10Sight_t (tm_R_of hR (a4 47 (by decide))) hW (tm_H_of hH (by rw [tm_un _ (by decide), tm_un _ (by decide), tm_un _ (by decide), tm_un _ (by decide), a3 _ (by decide)])) hk, Option.bind_some, if_pos rfl, show tw_ld 8 (Ak 49) (6 : Int32) = _ from tm_ld (i := 6) (by decide) (by decide), Option.bind_some, a4 49 (by decide), hrow.2.1, tm_has (by omega) (by omega), g, if_neg (by decide), n1, Option.bind_some]
        dsimp only
        rw [show tw_ld 8 (An 49) (6 : Int32) = _ from tm_ld (i := 6) (by decide) (by decide), Option.bind_some, n2, hrow.2.1, tm_shl1 (by omega), tm_xor, tm_xo g, show tw_st 8 (A 49) (6 : Int32) (nI (s 6 ||| 2 ^ k)) = _ from tm_st (i := 6) (by decide) (by decide), Option.bind_some, Option.bind_some]
      · rw [tm_un _ (by decide), tm_us, tm_un _ (by decide), tm_un _ (by decide), tm_un _ (by decide), tm_un _ (by decide), a3 _ (by decide), a3 _ (by decide), n2]
        exact tm_row6 hrow hnv
    · have g2 : (s 6).testBit k = true := by
        cases e : (s 6).testBit k
        · first | rfl | exact absurd e g
        · first | rfl | exact absurd e g
      refine ⟨false, upd I 12 5, A, ?_, _, A, ?_, tm_ref h (w := 5) (by decide)⟩
      · unfold g_X9_brick
        dsimp only [tw_let, g_X9_deny]
        rw [tm_9Sight_t hC hW hk, if_pos rfl, hrow.2.2.2.1, if_neg (fun q => g ((tm_b0 (by omega) (by omega)).mp q))]
      · unfold g_X10_brick g_X10_good g_X10_becomes
        dsimp only [tw_let, g_X10_isNot]
        rw [tm_10Sight_t hR hW (hv 5) hk, Option.bind_some, if_pos rfl, show tw_ld 8 (A 49) (6 : Int32) = _ from tm_ld (i := 6) (by decide) (by decide), Option.bind_some, hrow.2.1, tm_has (by omega) (by omega), g2, if_pos (by decide), Option.bind_some]
  · refine ⟨false, upd I 12 1, A, ?_, _, A, ?_, tm_ref h (w := 1) (by decide)⟩
    · unfold g_X9_brick
      dsimp only [tw_let, g_X9_deny]
      rw [tm_9Sight_f hC hW ka, if_neg (by decide)]
    · unfold g_X10_brick g_X10_good g_X10_becomes
      dsimp only [tw_let, g_X10_isNot]
      rw [tm_10Sight_f hR hW ka, Option.bind_some, if_neg (by decide), Option.bind_some]
theorem tm_q_open {I : Nat → Int32} {A : Nat → Nat → Int32} (h : tm_Inv I A) (a : Int32) : ∃ x I1 A1, g_X9_open I A a = (x, I1, A1) ∧ ∃ I2 A2, g_X10_open I1 A1 a = some (x, I2, A2) ∧ tm_Inv I2 A2 := by
  obtain ⟨⟨T, s, U, V, t, hP⟩, hT, hS⟩ := id h
  obtain ⟨hW, hR, hC, hH, hrow, hrest⟩ := id hP
  have hv : ∀ v : Int32, tm_H (upd (upd (upd I 12 v) 4400 0) 4411 0) T := fun v => tm_H_of hH ((tm_g44 0 0).trans (tm_12_44 v))
  have h1 := tm_W_b1 hW
  have h2 := tm_W_b2 hW
  have h3 := tm_W_b3 hW
  by_cases ka : tm_ok (T 2) a
  · obtain ⟨k, hk, rfl⟩ := ka
    have hT1 : ¬ T 1 = 0 := fun e => by
      have := tm_W_0 hW e
      omega
    have h6 := hrow.2.2.1
    have hpk : 2 ^ k < 256 := Nat.pow_lt_pow_right (n := 8) (by decide) (by omega)
    by_cases g : (s 6).testBit k = true
    · obtain ⟨Ik, Ak, e0, a1, a2, a3, a4⟩ := tm_keep9 (I := I) A hP.2.2.2.2.2.1.1 hP.2.2.2.2.2.1.2.2.1
      have hnv : (tm_dn (s 6) (2 ^ k)) < 256 := tm_dn_lt (n := 8) h6
      obtain ⟨In, An, n1, n2, n3, n4⟩ := tm_act2 hP hT hS hT1 a1 a2 a3 a4 (If := upd (upd Ik 3300 (nI (tm_dn (s 6) (2 ^ k)))) 12 0) (fun k k1 k2 k3 k4 => by rw [tm_un _ k4, tm_un _ k1]) (tm_us _ _ _)
      refine ⟨true, upd (upd Ik 3300 (nI (tm_dn (s 6) (2 ^ k)))) 12 0, Ak, ?_, In, va_up An 49 (upd (An 49) 6 (nI (tm_dn (s 6) (2 ^ k)))), ?_, n4 _ (tm_s6 s (tm_dn (s 6) (2 ^ k))) ?_⟩
      · unfold g_X9_open
        dsimp only [tw_let, g_X9_allow]
        rw [tm_9Sight_t hC hW hk, if_pos rfl, hrow.2.2.2.1, if_neg (fun q => by rw [(tm_b0 (by omega) (by omega)).mp q] at g; cases g), e0]
        dsimp only
        rw [a3 3300 (by decide), hrow.2.2.2.1, tm_shl1 (by omega), tm_dnI]
      · unfold g_X10_open g_X10_good g_X10_becomes
        dsimp only [tw_let]
        rw [tm_10Sight_t (tm_R_of hR (a4 47 (by decide))) hW (tm_H_of hH (by rw [tm_un _ (by decide), tm_un _ (by decide), tm_un _ (by decide), tm_un _ (by decide), a3 _ (by decide)])) hk, Option.bind_some, if_pos rfl, show tw_ld 8 (Ak 49) (6 : Int32) = _ from tm_ld (i := 6) (by decide) (by decide), Option.bind_some, a4 49 (by decide), hrow.2.1, tm_has (by omega) (by omega), g, if_neg (by decide), n1, Option.bind_some]
        dsimp only
        rw [show tw_ld 8 (An 49) (6 : Int32) = _ from tm_ld (i := 6) (by decide) (by decide), Option.bind_some, n2, hrow.2.1, tm_shl1 (by omega), tm_xor, tm_xd g, show tw_st 8 (A 49) (6 : Int32) (nI (tm_dn (s 6) (2 ^ k))) = _ from tm_st (i := 6) (by decide) (by decide), Option.bind_some, Option.bind_some]
      · rw [tm_un _ (by decide), tm_us, tm_un _ (by decide), tm_un _ (by decide), tm_un _ (by decide), tm_un _ (by decide), a3 _ (by decide), a3 _ (by decide), n2]
        exact tm_row6 hrow hnv
    · have g2 : (s 6).testBit k = false := by
        cases e : (s 6).testBit k
        · first | rfl | exact absurd e g
        · first | rfl | exact absurd e g
      refine ⟨false, upd I 12 5, A, ?_, _, A, ?_, tm_ref h (w := 5) (by decide)⟩
      · unfold g_X9_open
        dsimp only [tw_let, g_X9_deny]
        rw [tm_9Sight_t hC hW hk, if_pos rfl, hrow.2.2.2.1, if_pos ((tm_b0 (by omega) (by omega)).mpr g2)]
      · unfold g_X10_open g_X10_good g_X10_becomes
        dsimp only [tw_let, g_X10_isNot]
        rw [tm_10Sight_t hR hW (hv 5) hk, Option.bind_some, if_pos rfl, show tw_ld 8 (A 49) (6 : Int32) = _ from tm_ld (i := 6) (by decide) (by decide), Option.bind_some, hrow.2.1, tm_has (by omega) (by omega), g2, if_pos (by decide), Option.bind_some]
  · refine ⟨false, upd I 12 1, A, ?_, _, A, ?_, tm_ref h (w := 1) (by decide)⟩
    · unfold g_X9_open
      dsimp only [tw_let, g_X9_deny]
      rw [tm_9Sight_f hC hW ka, if_neg (by decide)]
    · unfold g_X10_open g_X10_good g_X10_becomes
      dsimp only [tw_let, g_X10_isNot]
      rw [tm_10Sight_f hR hW ka, Option.bind_some, if_neg (by decide), Option.bind_some]
theorem tm_q_hire {I : Nat → Int32} {A : Nat → Nat → Int32} (h : tm_Inv I A) (a b : Int32) : ∃ x I1 A1, g_X9_hire I A a b = (x, I1, A1) ∧ ∃ I2 A2, g_X10_hire I1 A1 a b = some (x, I2, A2) ∧ tm_Inv I2 A2 := by
  obtain ⟨⟨T, s, U, V, t, hP⟩, hT, hS⟩ := id h
  obtain ⟨hW, hR, hC, hH, hrow, hrest⟩ := id hP
  have hv : ∀ v : Int32, tm_H (upd (upd (upd I 12 v) 4400 0) 4411 0) T := fun v => tm_H_of hH ((tm_g44 0 0).trans (tm_12_44 v))
  have h1 := tm_W_b1 hW
  have h2 := tm_W_b2 hW
  have h3 := tm_W_b3 hW
  by_cases ka : tm_ok (T 3) a
  · obtain ⟨p, hp, rfl⟩ := ka
    have hT1 : ¬ T 1 = 0 := fun e => by
      have := tm_W_0 hW e
      omega
    have hsp := hrow.1 p (by omega)
    have e8 : s p < 8 := by omega
    by_cases kb : tm_ok (T 1) b
    · obtain ⟨t0, ht, rfl⟩ := kb
      have hpr := tm_W_h hW p (by omega)
      by_cases kc : 0 < T (29 + 4 * p)
      · have hse : nI (s p) - 1 = nI t0 ↔ s p = t0 + 1 := by
          rw [tm_m1v e8]
          constructor
          · intro q
            by_cases e : s p = 0
            · rw [if_pos e] at q
              exact absurd q.symm (tm_nm1 (by omega))
            · rw [if_neg e] at q
              have := (nI_eq (by omega) (by omega)).mp q
              omega
          · intro q
            rw [if_neg (by omega), q, Nat.add_sub_cancel]
        by_cases kd : s p = t0 + 1
        · refine ⟨-1, upd I 12 5, A, ?_, _, A, ?_, tm_ref h (w := 5) (by decide)⟩
          · unfold g_X9_hire
            dsimp only [tw_let, g_X9_refuse]
            rw [tm_9Person_t hC hW hp, if_pos rfl, tm_9Place_t hC hW ht, if_pos rfl, tm_ch9 hC hW (by omega), decide_eq_true kc, if_pos rfl, hrow.2.2.2.2.1, tm_sent (by omega) e8, if_pos (hse.mpr kd)]
          · unfold g_X10_hire g_X10_good
            dsimp only [tw_let, g_X10_no]
            rw [tm_10Person_t hR hW (hv 5) hp, Option.bind_some, if_pos rfl, tm_10Place_t hR hW (hv 5) ht, Option.bind_some, if_pos rfl, tm_ch10 hR hW (by omega), Option.bind_some, decide_eq_true kc, if_pos rfl, tm_ld (by omega : p < 8) (by decide), Option.bind_some, hsp.1, if_pos (by rw [kd, nI_succ])]
        · obtain ⟨Ik, Ak, e0, a1, a2, a3, a4⟩ := tm_keep9 (I := I) A hP.2.2.2.2.2.1.1 hP.2.2.2.2.2.1.2.2.1
          have hgp : tw_get0 6 (Ak 8) (nI p) = nI (T (29 + 4 * p) - 1) := by
            rw [tm_get (by omega) (by decide), a4 8 (by decide), tm_C_pr hC p (by omega)]
            unfold tm_o
            rw [if_neg (by omega)]
          obtain ⟨In, An, n1, n2, n3, n4⟩ := tm_act2 hP hT hS hT1 a1 a2 a3 a4 (If := upd (upd (upd Ik 3301 (nI (tm_pk (tm_hs s p (t0 + 1))))) 3302 (I 3302 + nI (T (29 + 4 * p) - 1))) 12 0) (fun k k1 k2 k3 k4 => by rw [tm_un _ k4, tm_un _ k3, tm_un _ k2]) (tm_us _ _ _)
          have hRn : tm_R An T := tm_R_of hR n3
          refine ⟨nI (T (29 + 4 * p) - 1), upd (upd (upd Ik 3301 (nI (tm_pk (tm_hs s p (t0 + 1))))) 3302 (I 3302 + nI (T (29 + 4 * p) - 1))) 12 0, Ak, ?_, In, va_up An 49 (upd (upd (An 49) p (nI (t0 + 1))) 7 (I 3302 + nI (T (29 + 4 * p) - 1))), ?_, n4 _ (tm_hs s p (t0 + 1)) ?_⟩
          · unfold g_X9_hire
            dsimp only [tw_let, g_X9_grant]
            rw [tm_9Person_t hC hW hp, if_pos rfl, tm_9Place_t hC hW ht, if_pos rfl, tm_ch9 hC hW (by omega), decide_eq_true kc, if_pos rfl, hrow.2.2.2.2.1, tm_sent (by omega) e8, if_neg (fun q => kd (hse.mp q)), e0]
            dsimp only
            rw [hgp, a3 3301 (by decide), a3 3302 (by decide), hrow.2.2.2.2.1, tm_sending (by omega) (by omega) (nI_succ t0).symm]
            rfl
          · unfold g_X10_hire g_X10_good
            dsimp only [tw_let, g_X10_no]
            rw [tm_10Person_t (tm_R_of hR (a4 47 (by decide))) hW (tm_H_of hH (by rw [tm_un _ (by decide), tm_un _ (by decide), tm_un _ (by decide), tm_un _ (by decide), tm_un _ (by decide), a3 _ (by decide)])) hp, Option.bind_some, if_pos rfl, tm_10Place_t (tm_R_of hR (a4 47 (by decide))) hW (tm_H_of hH (by rw [tm_un _ (by decide), tm_un _ (by decide), tm_un _ (by decide), tm_un _ (by decide), tm_un _ (by decide), a3 _ (by decide)])) ht, Option.bind_some, if_pos rfl, tm_ch10 (tm_R_of hR (a4 47 (by decide))) hW (by omega), Option.bind_some, decide_eq_true kc, if_pos rfl, tm_ld (by omega : p < 8) (by decide), Option.bind_some, a4 49 (by decide), hsp.1, if_neg (fun q => by rw [← nI_succ] at q; exact kd ((nI_eq (by omega) (by omega)).mp q)), n1, Option.bind_some]
            dsimp only
            rw [← nI_succ, tm_st (by omega : p < 8) (by decide), Option.bind_some, show tw_ld 8 (upd (An 49) p (nI (t0 + 1))) (7 : Int32) = _ from tm_ld (i := 7) (by decide) (by decide), Option.bind_some, tm_r_p3 hRn (by omega), Option.bind_some, show nI (T (29 + 4 * p)) - 1 = nI (T (29 + 4 * p) - 1) from pk_sub (a := T (29 + 4 * p)) (b := 1) (by omega), tm_un _ (by omega : 7 ≠ p), n2, ← hrow.2.2.2.2.2, show tw_st 8 (upd (A 49) p (nI (t0 + 1))) (7 : Int32) (I 3302 + nI (T (29 + 4 * p) - 1)) = _ from tm_st (i := 7) (by decide) (by decide), Option.bind_some, Option.bind_some, bx_uu, show nI (T (29 + 4 * p)) - 1 = nI (T (29 + 4 * p) - 1) from pk_sub (a := T (29 + 4 * p)) (b := 1) (by omega)]
          · rw [tm_un _ (by decide), tm_un _ (by decide), tm_un _ (by decide), tm_un _ (by decide), tm_un _ (by decide), tm_us, tm_un _ (by decide), tm_us, a3 _ (by decide), n2]
            exact tm_rowp hrow (by omega) (by omega)
      · refine ⟨-1, upd I 12 5, A, ?_, _, A, ?_, tm_ref h (w := 5) (by decide)⟩
        · unfold g_X9_hire
          dsimp only [tw_let, g_X9_refuse]
          rw [tm_9Person_t hC hW hp, if_pos rfl, tm_9Place_t hC hW ht, if_pos rfl, tm_ch9 hC hW (by omega), decide_eq_false kc, if_neg (by decide)]
        · unfold g_X10_hire g_X10_good
          dsimp only [tw_let, g_X10_no]
          rw [tm_10Person_t hR hW (hv 5) hp, Option.bind_some, if_pos rfl, tm_10Place_t hR hW (hv 5) ht, Option.bind_some, if_pos rfl, tm_ch10 hR hW (by omega), Option.bind_some, decide_eq_false kc, if_neg (by decide)]
    · refine ⟨-1, upd I 12 1, A, ?_, _, A, ?_, tm_ref h (w := 1) (by decide)⟩
      · unfold g_X9_hire
        dsimp only [tw_let, g_X9_refuse]
        rw [tm_9Person_t hC hW hp, if_pos rfl, tm_9Place_f hC hW kb, if_neg (by decide)]
      · unfold g_X10_hire g_X10_good
        dsimp only [tw_let, g_X10_no]
        rw [tm_10Person_t hR hW (hv 1) hp, Option.bind_some, if_pos rfl, tm_10Place_f hR hW kb, Option.bind_some, if_neg (by decide)]
  · refine ⟨-1, upd I 12 1, A, ?_, _, A, ?_, tm_ref h (w := 1) (by decide)⟩
    · unfold g_X9_hire
      dsimp only [tw_let, g_X9_refuse]
      rw [tm_9Person_f hC hW ka, if_neg (by decide)]
    · unfold g_X10_hire g_X10_good
      dsimp only [tw_let, g_X10_no]
      rw [tm_10Person_f hR hW ka, Option.bind_some, if_neg (by decide)]
theorem tm_q_dismiss {I : Nat → Int32} {A : Nat → Nat → Int32} (h : tm_Inv I A) (a : Int32) : ∃ x I1 A1, g_X9_dismiss I A a = (x, I1, A1) ∧ ∃ I2 A2, g_X10_dismiss I1 A1 a = some (x, I2, A2) ∧ tm_Inv I2 A2 := by
  obtain ⟨⟨T, s, U, V, t, hP⟩, hT, hS⟩ := id h
  obtain ⟨hW, hR, hC, hH, hrow, hrest⟩ := id hP
  have hv : ∀ v : Int32, tm_H (upd (upd (upd I 12 v) 4400 0) 4411 0) T := fun v => tm_H_of hH ((tm_g44 0 0).trans (tm_12_44 v))
  have h1 := tm_W_b1 hW
  have h2 := tm_W_b2 hW
  have h3 := tm_W_b3 hW
  by_cases ka : tm_ok (T 3) a
  · obtain ⟨p, hp, rfl⟩ := ka
    have hT1 : ¬ T 1 = 0 := fun e => by
      have := tm_W_0 hW e
      omega
    have hsp := hrow.1 p (by omega)
    have e8 : s p < 8 := by omega
    have hhi : g_X0_isHired I (nI p) = decide (0 < s p) := by
      unfold g_X0_isHired
      rw [hrow.2.2.2.2.1, tm_sent (by omega) e8, tm_m1v e8]
      by_cases e : s p = 0
      · rw [if_pos e, if_pos rfl, e]
        rfl
      · rw [if_neg e, if_neg (tm_nm1 (by omega)), decide_eq_true (by omega)]
    by_cases g : s p = 0
    · refine ⟨false, upd I 12 5, A, ?_, _, A, ?_, tm_ref h (w := 5) (by decide)⟩
      · unfold g_X9_dismiss
        dsimp only [tw_let, g_X9_deny]
        rw [tm_9Person_t hC hW hp, if_pos rfl, hhi, decide_eq_false (by omega), if_neg (by decide)]
      · unfold g_X10_dismiss g_X10_good
        dsimp only [tw_let, g_X10_isNot]
        rw [tm_10Person_t hR hW (hv 5) hp, Option.bind_some, if_pos rfl, tm_ld (by omega : p < 8) (by decide), Option.bind_some, hsp.1, g, if_pos (by decide)]
    · obtain ⟨Ik, Ak, e0, a1, a2, a3, a4⟩ := tm_keep9 (I := I) A hP.2.2.2.2.2.1.1 hP.2.2.2.2.2.1.2.2.1
      obtain ⟨In, An, n1, n2, n3, n4⟩ := tm_act2 hP hT hS hT1 a1 a2 a3 a4 (If := upd (upd Ik 3301 (nI (tm_pk (tm_hs s p 0)))) 12 0) (fun k k1 k2 k3 k4 => by rw [tm_un _ k4, tm_un _ k2]) (tm_us _ _ _)
      refine ⟨true, upd (upd Ik 3301 (nI (tm_pk (tm_hs s p 0)))) 12 0, Ak, ?_, In, va_up An 49 (upd (An 49) p (nI 0)), ?_, n4 _ (tm_hs s p 0) ?_⟩
      · unfold g_X9_dismiss
        dsimp only [tw_let, g_X9_allow]
        rw [tm_9Person_t hC hW hp, if_pos rfl, hhi, decide_eq_true (by omega), if_pos rfl, e0]
        dsimp only
        rw [a3 3301 (by decide), hrow.2.2.2.2.1, tm_sending (v := 0) (by omega) (by decide) (by decide)]
        rfl
      · unfold g_X10_dismiss g_X10_good
        dsimp only [tw_let, g_X10_isNot]
        rw [tm_10Person_t (tm_R_of hR (a4 47 (by decide))) hW (tm_H_of hH (by rw [tm_un _ (by decide), tm_un _ (by decide), tm_un _ (by decide), tm_un _ (by decide), a3 _ (by decide)])) hp, Option.bind_some, if_pos rfl, tm_ld (by omega : p < 8) (by decide), Option.bind_some, a4 49 (by decide), hsp.1, if_neg (nI_ne0 (by omega) (by omega)), n1, Option.bind_some]
        dsimp only
        rw [show (0 : Int32) = nI 0 from rfl, tm_st (by omega : p < 8) (by decide), Option.bind_some]
      · rw [tm_un _ (by decide), tm_un _ (by decide), tm_un _ (by decide), tm_us, tm_un _ (by decide), tm_un _ (by decide), a3 _ (by decide), a3 _ (by decide), n2]
        have r := tm_rowp (z2 := I 3302) hrow (by omega : p < 6) (Nat.zero_le (T 1))
        rw [show upd (upd (A 49) p (nI 0)) 7 (I 3302) = upd (A 49) p (nI 0) by
          rw [hrow.2.2.2.2.2]
          have e := tm_upd_same (upd (A 49) p (nI 0)) 7
          rw [tm_un (f := A 49) (j := 7) (k := p) (nI 0) (by omega)] at e
          exact e] at r
        exact r
  · refine ⟨false, upd I 12 1, A, ?_, _, A, ?_, tm_ref h (w := 1) (by decide)⟩
    · unfold g_X9_dismiss
      dsimp only [tw_let, g_X9_deny]
      rw [tm_9Person_f hC hW ka, if_neg (by decide)]
    · unfold g_X10_dismiss g_X10_good
      dsimp only [tw_let, g_X10_isNot]
      rw [tm_10Person_f hR hW ka, Option.bind_some, if_neg (by decide)]
theorem tm_q_spent {I : Nat → Int32} {A : Nat → Nat → Int32} (h : tm_Inv I A) : ∃ x I1, g_X9_spent I A = (x, I1) ∧ ∃ I2, g_X10_spent I1 A = some (x, I2) ∧ tm_Inv I2 A := by
  obtain ⟨⟨T, s, U, V, t, hP⟩, hT, hS⟩ := id h
  obtain ⟨hW, hR, hC, hH, hrow, hrest⟩ := id hP
  have hv : ∀ v : Int32, tm_H (upd (upd (upd I 12 v) 4400 0) 4411 0) T := fun v => tm_H_of hH ((tm_g44 0 0).trans (tm_12_44 v))
  have h1 := tm_W_b1 hW
  have h2 := tm_W_b2 hW
  have h3 := tm_W_b3 hW
  by_cases h0 : T 1 = 0
  · refine ⟨-1, upd I 12 1, ?_, _, ?_, tm_ref h (w := 1) (by decide)⟩
    · unfold g_X9_spent
      dsimp only [tw_let, g_X9_refuse]
      rw [tm_town_f hC h0, if_neg (by decide)]
    · unfold g_X10_spent g_X10_good
      dsimp only [tw_let, g_X10_no]
      rw [hv 1, if_pos h0, if_pos rfl]
  · refine ⟨I 3302, upd I 12 0, ?_, _, ?_, tm_gr0 h⟩
    · unfold g_X9_spent
      dsimp only [tw_let, g_X9_grant]
      rw [tm_town_t hC hW h0, if_pos rfl]
    · unfold g_X10_spent g_X10_good
      dsimp only [tw_let, g_X10_no]
      rw [hv 0, if_neg h0, if_neg (by decide), show tw_ld 8 (A 49) (7 : Int32) = _ from tm_ld (i := 7) (by decide) (by decide), Option.bind_some, hrow.2.2.2.2.2]
