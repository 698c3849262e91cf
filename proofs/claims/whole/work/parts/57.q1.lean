/-! MATHEMATICS, 8: the calls that look -/
theorem tm_thr {I : Nat → Int32} {A : Nat → Nat → Int32} (h : tm_Inv I A) (v : Int32) : tm_Inv (upd I 4400 v) A := by
  obtain ⟨⟨T, s, U, V, t, hP⟩, ⟨a, b, c⟩, z, z1, z2⟩ := h
  refine ⟨⟨T, s, U, V, t, tm_P_of hP (fun k hk => tm_un _ (by omega)) fun _ _ => rfl⟩, ⟨?_, ?_, ?_⟩, z, z1, ?_⟩
  · rw [tm_un _ (by decide), tm_un _ (by decide)]
    exact a
  · rw [tm_un _ (by decide), tm_un _ (by decide)]
    exact b
  · rw [tm_un _ (by decide), tm_un _ (by decide), tm_un _ (by decide)]
    exact c
  · rw [tm_un _ (by decide)]
    exact z2
theorem tm_gr0 {I : Nat → Int32} {A : Nat → Nat → Int32} (h : tm_Inv I A) : tm_Inv (upd (upd (upd I 12 0) 4400 0) 4411 0) A :=
  tm_gr h (fun _ _ => rfl) (fun _ _ => rfl) h.2.2 (fun _ _ => rfl) (fun _ _ => rfl)
theorem tm_q_fault {I : Nat → Int32} {A : Nat → Nat → Int32} (h : tm_Inv I A) : ∃ x, g_X9_fault I = x ∧ ∃ I2, g_X10_fault I = (x, I2) ∧ tm_Inv I2 A :=
  ⟨_, rfl, _, by unfold g_X10_fault g_X9_fault; rw [h.2.1.2.1], tm_thr h 0⟩
theorem tm_q_trouble {I : Nat → Int32} {A : Nat → Nat → Int32} (h : tm_Inv I A) : ∃ x, g_X9_trouble I = x ∧ ∃ I2, g_X10_trouble I = (x, I2) ∧ tm_Inv I2 A :=
  ⟨_, rfl, _, by unfold g_X10_trouble g_X9_trouble; rw [h.2.1.1], tm_thr h 0⟩
theorem tm_q_where {I : Nat → Int32} {A : Nat → Nat → Int32} (h : tm_Inv I A) : ∃ x, g_X9_where I = x ∧ ∃ I2, g_X10_where I = (x, I2) ∧ tm_Inv I2 A := by
  refine ⟨_, rfl, _, ?_, tm_thr h 0⟩
  unfold g_X10_where g_X9_where
  obtain ⟨a, b, c⟩ := h.2.1
  rw [← a]
  by_cases e : I 12 = 4
  · rw [if_pos e, if_pos e, c e]
  · rw [if_neg e, if_neg e]
theorem tm_in_k {c : Nat} {x : Int32} (hc : c + 1 < 2 ^ 30) : g_X10_in x (0 : Int32) (nI c) = true ↔ tm_ok (c + 1) x := by
  have e : nI c = nI (c + 1) - 1 := (nI_pred c).symm
  rw [e]
  constructor
  · intro g
    by_cases h : tm_ok (c + 1) x
    · exact h
    · rw [tm_in_f hc h] at g
      cases g
  · rintro ⟨p, hp, rfl⟩
    exact tm_in_t hc hp
theorem tm_q_size {I : Nat → Int32} {A : Nat → Nat → Int32} (h : tm_Inv I A) (a : Int32) : ∃ x, g_X9_size I A a = x ∧ ∃ I2, g_X10_size I A a = some (x, I2) ∧ tm_Inv I2 A := by
  refine ⟨_, rfl, _, ?_, tm_thr h 0⟩
  obtain ⟨⟨T, s, U, V, t, hW, hR, hC, hH, hrow, ⟨_, hU0, hU, hU2, _⟩, ⟨_, hV0, hV, hV2, _⟩, _, ht, ht2, _⟩, _, _⟩ := h
  unfold g_X10_size g_X9_size
  rw [hH, hU, hU2, hV, hV2, ht, ht2]
  by_cases k : tm_ok 9 a
  · obtain ⟨j, hj, rfl⟩ := k
    have n9 : ¬ nI j = (9 : Int32) := fun q => by have := (nI_eq (a := j) (b := 9) (by omega) (by decide)).mp q; omega
    have n10 : ¬ nI j = (10 : Int32) := fun q => by have := (nI_eq (a := j) (b := 10) (by omega) (by decide)).mp q; omega
    have n11 : ¬ nI j = (11 : Int32) := fun q => by have := (nI_eq (a := j) (b := 11) (by omega) (by decide)).mp q; omega
    have i10 : g_X10_in (nI j) (0 : Int32) (10 : Int32) = true := (tm_in_k (c := 10) (by decide)).mpr ⟨j, by omega, rfl⟩
    have i8 : g_X10_in (nI j) (0 : Int32) (8 : Int32) = true := (tm_in_k (c := 8) (by decide)).mpr ⟨j, by omega, rfl⟩
    rw [if_neg n11, if_neg (nI_pos (by omega)), if_neg (tm_ge9 hj), tm_cnt hC hj]
    by_cases e : T 1 = 0
    · rw [if_pos e, if_pos rfl, if_pos i10, tm_W_n hW e j hj]
      rfl
    · rw [if_neg e, if_neg (by decide), if_pos i8, tm_ld (by omega) (by decide), Option.bind_some, hR j (by omega)]
  · have f8 : ¬ g_X10_in a (0 : Int32) (8 : Int32) = true := fun q => k ((tm_in_k (c := 8) (by decide)).mp q)
    have e0 : (if a < 0 then (if a = 9 then nI U else (if a = 10 then nI V else (if a = 11 then nI t else (-1 : Int32)))) else (if (9 : Int32) ≤ a then (if a = 9 then nI U else (if a = 10 then nI V else (if a = 11 then nI t else (-1 : Int32)))) else (g_X8_count_2 A a))) = (if a = 9 then nI U else (if a = 10 then nI V else (if a = 11 then nI t else (-1 : Int32)))) := by
      by_cases g : a < 0
      · rw [if_pos g]
      · rw [if_neg g]
        exact if_pos (tm_ok_f (c := 9) (by decide) k g)
    rw [e0]
    by_cases e11 : a = 11
    · subst e11
      rw [if_pos rfl, if_neg (by decide), if_neg (by decide), if_pos rfl]
    · rw [if_neg e11, if_neg e11]
      by_cases e : T 1 = 0
      · rw [if_pos e, if_pos rfl, hU0 e, hV0 e]
        by_cases i10 : g_X10_in a (0 : Int32) (10 : Int32) = true
        · rw [if_pos i10]
          obtain ⟨j, hj, rfl⟩ := (tm_in_k (c := 10) (by decide)).mp i10
          rcases (by omega : j < 9 ∨ j = 9 ∨ j = 10) with g | g | g
          · exact absurd ⟨j, g, rfl⟩ k
          · subst g
            rfl
          · subst g
            rfl
        · rw [if_neg i10, if_neg, if_neg]
          · intro q
            exact i10 (by rw [q]; decide)
          · intro q
            exact i10 (by rw [q]; decide)
      · rw [if_neg e, if_neg (by decide), if_neg f8]
        by_cases e9 : a = 9
        · rw [if_pos e9, if_pos e9]
        · rw [if_neg e9, if_neg e9]
          by_cases e10 : a = 10
          · rw [if_pos e10, if_pos e10]
          · rw [if_neg e10, if_neg e10]
/-- quarrels of one -/
def tm_qs (T : Nat → Nat) (p : Nat) (q : Nat) : Bool := (tm_two T q).testBit p
theorem tm_qs9 {A : Nat → Nat → Int32} {T : Nat → Nat} (hC : tm_C A T) (hW : tm_W T) {p : Nat} (hp : p < T 3) : g_X8_quarrelsOf_2 A (nI p) = some (nI (tm_bs (tm_qs T p) (T 5))) := by
  have h3 := tm_W_b3 hW
  have h5 := tm_W_b5 hW
  unfold g_X8_quarrelsOf_2
  have L := tm_lp (fun n i v => g_X8_quarrelsOf_2_L1 A (nI p) n v i) (T 5) 0 (fun k => nI (tm_bs (tm_qs T p) k)) (some (nI (tm_bs (tm_qs T p) (T 5)))) (Nat.zero_le _) ?_ ?_ (m := 4096) (by omega)
  · rw [show (0 : Int32) = nI 0 from rfl]
    rw [show g_X8_quarrelsOf_2_L1 A (nI p) 4096 (nI 0) (nI 0) = some (nI (tm_bs (tm_qs T p) (T 5))) from L]
    rfl
  · intro n
    show g_X8_quarrelsOf_2_L1 A (nI p) (n + 1) _ (nI (T 5)) = _
    rw [g_X8_quarrelsOf_2_L1, tm_cn5 hC, if_pos (nI_le (Nat.le_refl _) (by omega))]
  · intro n i _ hi
    have ht := tm_W_two hW hi
    show g_X8_quarrelsOf_2_L1 A (nI p) (n + 1) (nI (tm_bs (tm_qs T p) i)) (nI i) = g_X8_quarrelsOf_2_L1 A (nI p) n (nI (tm_bs (tm_qs T p) i ||| (if tm_qs T p i = true then 2 ^ i else 0))) (nI (i + 1))
    rw [g_X8_quarrelsOf_2_L1, tm_cn5 hC, if_neg (nI_ge hi (by omega)), tm_twoOf hC hW hi, tm_bit (by omega) (by omega), ← nI_succ]
    show _ = g_X8_quarrelsOf_2_L1 A (nI p) n (nI (tm_bs (tm_qs T p) i ||| (if (tm_two T i).testBit p = true then 2 ^ i else 0))) _
    cases e : (tm_two T i).testBit p
    · rw [if_neg (by decide), show nI (Bool.toNat false) <<< (nI i &&& 31) = nI (0 * 2 ^ i) from tm_shl 0 (by omega) (by omega), tm_or, Nat.zero_mul]
    · rw [if_pos rfl, show nI (Bool.toNat true) <<< (nI i &&& 31) = nI (2 ^ i) from tm_shl1 (by omega), tm_or]
theorem tm_qs10 {A : Nat → Nat → Int32} {T : Nat → Nat} (hT : tm_R A T) (hW : tm_W T) {p : Nat} (hp : p < T 3) : g_X10_quarrelsOf A (nI p) = some (nI (tm_bs (tm_qs T p) (T 5))) := by
  have h3 := tm_W_b3 hW
  have h5 := tm_W_b5 hW
  unfold g_X10_quarrelsOf
  have L := tm_lp (fun n i v => g_X10_quarrelsOf_L1 A (nI p) n v i) (T 5) 0 (fun k => nI (tm_bs (tm_qs T p) k)) (some (nI (tm_bs (tm_qs T p) (T 5)))) (Nat.zero_le _) ?_ ?_ (m := 4096) (by omega)
  · rw [show (0 : Int32) = nI 0 from rfl]
    rw [show g_X10_quarrelsOf_L1 A (nI p) 4096 (nI 0) (nI 0) = some (nI (tm_bs (tm_qs T p) (T 5))) from L]
    rfl
  · intro n
    show g_X10_quarrelsOf_L1 A (nI p) (n + 1) _ (nI (T 5)) = _
    rw [g_X10_quarrelsOf_L1, tm_r_c5 hT, Option.bind_some, if_pos (nI_le (Nat.le_refl _) (by omega))]
  · intro n i _ hi
    have hq := tm_W_q hW i hi
    show g_X10_quarrelsOf_L1 A (nI p) (n + 1) (nI (tm_bs (tm_qs T p) i)) (nI i) = g_X10_quarrelsOf_L1 A (nI p) n (nI (tm_bs (tm_qs T p) i ||| (if tm_qs T p i = true then 2 ^ i else 0))) (nI (i + 1))
    rw [g_X10_quarrelsOf_L1, tm_r_c5 hT, Option.bind_some, if_neg (nI_ge hi (by omega)), tm_r_q0 hT (by omega), Option.bind_some, ← nI_succ]
    have hB : tm_qs T p i = (decide (T (80 + 5 * i) = p) || decide (T (81 + 5 * i) = p)) := by
      unfold tm_qs tm_two
      rw [Nat.testBit_or, tm_twB, tm_twB]
    rw [hB]
    by_cases e1 : T (80 + 5 * i) = p
    · rw [if_pos (by rw [e1]), Option.bind_some, decide_eq_true e1, Bool.true_or, if_pos rfl, tm_shl1 (by omega), tm_or]
    · rw [if_neg (fun q => e1 ((nI_eq (by omega) (by omega)).mp q)), tm_r_q1 hT (by omega), Option.bind_some, decide_eq_false e1, Bool.false_or]
      by_cases e2 : T (81 + 5 * i) = p
      · rw [if_pos (by rw [e2]), Option.bind_some, decide_eq_true e2, if_pos rfl, tm_shl1 (by omega), tm_or]
      · rw [if_neg (fun q => e2 ((nI_eq (by omega) (by omega)).mp q)), Option.bind_some, decide_eq_false e2, if_neg (by decide), show (0 : Int32) = nI 0 from rfl, tm_or]
theorem tm_H_of {I I1 : Nat → Int32} {T : Nat → Nat} (h : tm_H I T) (e : I1 4414 = I 4414) : tm_H I1 T := e.trans h
theorem tm_g44 {I : Nat → Int32} (v w : Int32) : upd (upd I 4400 v) 4411 w 4414 = I 4414 := by rw [tm_un _ (by decide), tm_un _ (by decide)]
theorem tm_12_44 {I : Nat → Int32} (u : Int32) : upd I 12 u 4414 = I 4414 := tm_un _ (by decide)
theorem tm_q_person {I : Nat → Int32} {A : Nat → Nat → Int32} (h : tm_Inv I A) (a b : Int32) : ∃ x I1, g_X9_person I A a b = some (x, I1) ∧ ∃ I2, g_X10_person I1 A a b = some (x, I2) ∧ tm_Inv I2 A := by
  obtain ⟨⟨T, s, U, V, t, hW, hR, hC, hH, hrow, hrest⟩, hT, hS⟩ := id h
  have h3 := tm_W_b3 hW
  have h1 := tm_W_b1 hW
  have hv : ∀ v : Int32, tm_H (upd (upd (upd I 12 v) 4400 0) 4411 0) T := fun v => tm_H_of hH ((tm_g44 0 0).trans (tm_12_44 v))
  by_cases ka : tm_ok (T 3) a
  · obtain ⟨p, hp, rfl⟩ := ka
    by_cases kb : tm_ok 6 b
    · obtain ⟨w, hw, rfl⟩ := kb
      have i5 : g_X10_in (nI w) (0 : Int32) (5 : Int32) = true := (tm_in_k (c := 5) (by decide)).mpr ⟨w, by omega, rfl⟩
      have hpe := tm_C_pe hC p hp
      have hwp := tm_W_p hW p hp
      have hsp := hrow.1 p (by omega)
      have R : ∃ x, g_X9_person I A (nI p) (nI w) = some (x, upd I 12 0) ∧ g_X10_person (upd I 12 0) A (nI p) (nI w) = some (x, upd (upd (upd I 12 0) 4400 0) 4411 0) := by
        unfold g_X9_person g_X10_person g_X10_good
        dsimp only [tw_let, g_X9_grant]
        rw [tm_9Person_t hC hW hp, if_pos rfl, if_neg (nI_pos (by omega)), if_pos (tm_le5 (by omega)), tm_10Person_t hR hW (hv 0) hp, Option.bind_some, if_pos rfl, if_pos i5]
        rcases (by omega : w = 0 ∨ w = 1 ∨ w = 2 ∨ w = 3 ∨ w = 4 ∨ w = 5) with e | e | e | e | e | e <;> subst e
        · refine ⟨nI (T (26 + 4 * p)), ?_, ?_⟩
          · rw [if_pos (by decide), tm_get (by omega) (by decide), hpe.1]
          · rw [if_pos (by decide), tm_r_p0 hR (by omega), Option.bind_some]
        · refine ⟨nI (T (28 + 4 * p)), ?_, ?_⟩
          · rw [if_neg (by decide), if_pos (by decide), tm_get (by omega) (by decide), hpe.2.1]
          · rw [if_neg (by decide), if_pos (by decide), tm_r_p2 hR (by omega), Option.bind_some]
        · refine ⟨nI (tm_kd (T (26 + 4 * p))), ?_, ?_⟩
          · rw [if_neg (by decide), if_neg (by decide), if_pos (by decide), tm_eyk hC hW hp]
          · rw [if_neg (by decide), if_neg (by decide), if_pos (by decide), tm_r_p0 hR (by omega), Option.bind_some, tm_eyk10 hwp.1]
        · refine ⟨tm_o (T (29 + 4 * p)), ?_, ?_⟩
          · rw [if_neg (by decide), if_neg (by decide), if_neg (by decide), if_pos (by decide), tm_get (by omega) (by decide), tm_C_pr hC p (by omega)]
          · have hpr := tm_W_h hW p (by omega)
            rw [if_neg (by decide), if_neg (by decide), if_neg (by decide), if_pos (by decide), tm_r_p3 hR (by omega), Option.bind_some]
            unfold tm_o
            by_cases e : T (29 + 4 * p) = 0
            · rw [if_pos e, e, if_pos (by decide)]
            · rw [if_neg e, if_neg (nI_ne0 (by omega) (by omega)), Option.bind_some, show nI (T (29 + 4 * p)) - 1 = nI (T (29 + 4 * p) - 1) from pk_sub (a := T (29 + 4 * p)) (b := 1) (by omega)]
        · refine ⟨tm_o (s p), ?_, ?_⟩
          · have e8 : s p < 8 := by omega
            rw [if_neg (by decide), if_neg (by decide), if_neg (by decide), if_neg (by decide), if_pos (by decide)]
            unfold g_X0_isHired
            rw [hrow.2.2.2.2.1, tm_sent (by omega) e8, tm_m1v e8]
            unfold tm_o
            by_cases e : s p = 0
            · rw [if_pos e, if_pos e, if_pos rfl, if_neg (by decide), Option.bind_some]
            · rw [if_neg e, if_neg e, if_neg (tm_nm1 (by omega)), if_pos rfl, Option.bind_some]
          · rw [if_neg (by decide), if_neg (by decide), if_neg (by decide), if_neg (by decide), if_pos (by decide), tm_ld (by omega : p < 8) (by decide), Option.bind_some, hsp.1]
            unfold tm_o
            by_cases e : s p = 0
            · rw [if_pos e, e, if_pos (by decide)]
            · rw [if_neg e, if_neg (nI_ne0 (by omega) (by omega)), Option.bind_some, show nI (s p) - 1 = nI (s p - 1) from pk_sub (a := s p) (b := 1) (by omega)]
        · refine ⟨nI (tm_bs (tm_qs T p) (T 5)), ?_, ?_⟩
          · rw [if_neg (by decide), if_neg (by decide), if_neg (by decide), if_neg (by decide), if_neg (by decide), tm_qs9 hC hW hp, Option.bind_some]
          · rw [if_neg (by decide), if_neg (by decide), if_neg (by decide), if_neg (by decide), if_neg (by decide), tm_qs10 hR hW hp, Option.bind_some]
      obtain ⟨x, e1, e2⟩ := R
      exact ⟨x, _, e1, _, e2, tm_gr0 h⟩
    · have i5f : ¬ g_X10_in b (0 : Int32) (5 : Int32) = true := fun q => kb ((tm_in_k (c := 5) (by decide)).mp q)
      refine ⟨-1, upd I 12 1, ?_, _, ?_, tm_ref h (w := 1) (by decide)⟩
      · unfold g_X9_person
        dsimp only [tw_let, g_X9_refuse]
        rw [tm_9Person_t hC hW hp, if_pos rfl]
        by_cases g : b < 0
        · rw [if_pos g]
        · rw [if_neg g, if_neg (fun q => i5f (by unfold g_X10_in; rw [if_neg g, if_neg (fun r => absurd q (tm_nle r))]))]
      · unfold g_X10_person g_X10_good
        dsimp only [tw_let, g_X10_no]
        rw [tm_10Person_t hR hW (hv 1) hp, Option.bind_some, if_pos rfl, if_neg i5f]
  · refine ⟨-1, upd I 12 1, ?_, _, ?_, tm_ref h (w := 1) (by decide)⟩
    · unfold g_X9_person
      dsimp only [tw_let, g_X9_refuse]
      rw [tm_9Person_f hC hW ka, if_neg (by decide)]
    · unfold g_X10_person g_X10_good
      dsimp only [tw_let, g_X10_no]
      rw [tm_10Person_f hR hW ka, Option.bind_some, if_neg (by decide)]
