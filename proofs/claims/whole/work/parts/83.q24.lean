/-! MATHEMATICS, 34: feed -/
theorem tm_b8 (x : Int32) : (x &&& 255).toInt8 = x.toInt8 := by
  apply Int8.toBitVec_inj.mp
  show (x.toBitVec &&& 255#32).signExtend 8 = x.toBitVec.signExtend 8
  rw [BitVec.signExtend_eq_setWidth_of_le _ (by decide), BitVec.signExtend_eq_setWidth_of_le _ (by decide)]
  apply BitVec.eq_of_getLsbD_eq
  intro i hi
  have h : ∀ i, i < 8 → (255#32).getLsbD i = true := by decide
  rw [BitVec.getLsbD_setWidth, BitVec.getLsbD_setWidth, BitVec.getLsbD_and, h i hi, Bool.and_true]
theorem tm_255 (x : Int32) : ∃ c, c < 256 ∧ x &&& 255 = nI c := by
  refine ⟨(x &&& 255).toBitVec.toNat, ?_, ?_⟩
  · show (x.toBitVec &&& 255#32).toNat < 256
    rw [BitVec.toNat_and]
    exact Nat.lt_succ_of_le (Nat.and_le_right (n := x.toBitVec.toNat) (m := 255))
  · apply Int32.toBitVec_inj.mp
    show _ = BitVec.ofNat 32 _
    rw [BitVec.ofNat_toNat, BitVec.setWidth_eq]
/-- the numbers' bytes -/
def tm_nm (a b c d e : Int32) (k : Nat) : Int32 := if k = 0 then a else if k = 1 then b else if k = 2 then c else if k = 3 then d else e
def tm_bt (x : Int32) (i : Nat) : Int32 := x >>> (nI (24 - 8 * i) &&& 31)
def tm_by (a b c d e : Int32) (i : Nat) : Int32 := tm_bt (tm_nm a b c d e (i / 4)) (i % 4)
def tm_TP (f : Nat → Int32) (I0 : Nat → Int32) (A0 : Nat → Nat → Int32) (t k : Nat) (I : Nat → Int32) (A : Nat → Nat → Int32) : Prop := I 1 = nI (t + k) ∧ (∀ j, j ≠ 1 → I j = I0 j) ∧ (∀ c, c ≠ 1 → A c = A0 c) ∧ ∀ j, A 1 j = if t ≤ j ∧ j < t + k then (f (j - t)).toInt8.toInt32 else A0 1 j
theorem tm_TP_s {f : Nat → Int32} {I0 : Nat → Int32} {A0 : Nat → Nat → Int32} {t k : Nat} {I : Nat → Int32} {A : Nat → Nat → Int32} (h : tm_TP f I0 A0 t k I A) : tm_TP f I0 A0 t (k + 1) (upd I 1 (nI (t + k + 1))) (va_up A 1 (upd (A 1) (t + k) ((f k).toInt8.toInt32))) := by
  refine ⟨tm_us _ _ _, fun j hj => (tm_un _ hj).trans (h.2.1 j hj), fun c hc => (tm_vn _ hc).trans (h.2.2.1 c hc), fun j => ?_⟩
  rw [tm_vs]
  by_cases g : j = t + k
  · rw [g, tm_us, if_pos (by omega), Nat.add_sub_cancel_left]
  · rw [tm_un _ g, h.2.2.2 j]
    by_cases g2 : t ≤ j ∧ j < t + k
    · rw [if_pos g2, if_pos (by omega)]
    · rw [if_neg g2, if_neg (by omega)]
theorem tm_t1 {f : Nat → Int32} {I0 : Nat → Int32} {A0 : Nat → Nat → Int32} {t k i n : Nat} {I : Nat → Int32} {A : Nat → Nat → Int32} {a : Int32} (h : tm_TP f I0 A0 t k I A) (hk : t + k < 900) (hi : i < 4) (hf : f k = tm_bt a i) : g_X9_tapeNumber_L1 a (n + 1) (nI (24 - 8 * i)) I A = g_X9_tapeNumber_L1 a n (nI (24 - 8 * i) + (-8 : Int32)) (upd I 1 (nI (t + k + 1))) (va_up A 1 (upd (A 1) (t + k) ((f k).toInt8.toInt32))) := by
  rw [g_X9_tapeNumber_L1, if_neg (nI_pos (by omega)), h.1, if_neg (nI_pos (by omega)), if_neg (show ¬ (900 : Int32) ≤ nI (t + k) from nI_ge (b := 900) hk (by decide)), tm_st hk (by decide), Option.bind_some, Option.bind_some, vp_nar_byte, Int8.toInt8_toInt32, hf, ← nI_succ]
  rfl
theorem tm_t4 {f : Nat → Int32} {I0 : Nat → Int32} {A0 : Nat → Nat → Int32} {t k : Nat} {I : Nat → Int32} {A : Nat → Nat → Int32} {a : Int32} (h : tm_TP f I0 A0 t k I A) (hk : t + k + 4 ≤ 900) (hf : ∀ i, i < 4 → f (k + i) = tm_bt a i) : ∃ I1 A1, g_X9_tapeNumber I A a = some (I1, A1) ∧ tm_TP f I0 A0 t (k + 4) I1 A1 := by
  have h1 := tm_TP_s h
  have h2 := tm_TP_s h1
  have h3 := tm_TP_s h2
  have h4 := tm_TP_s h3
  refine ⟨_, _, ?_, h4⟩
  unfold g_X9_tapeNumber
  rw [show g_X9_tapeNumber_L1 a 4096 (24 : Int32) I A = g_X9_tapeNumber_L1 a (4095 + 1) (nI (24 - 8 * 0)) I A from rfl, tm_t1 h (by omega) (by decide) (hf 0 (by decide))]
  rw [show g_X9_tapeNumber_L1 a 4095 (nI (24 - 8 * 0) + (-8 : Int32)) = g_X9_tapeNumber_L1 a (4094 + 1) (nI (24 - 8 * 1)) from rfl, tm_t1 h1 (by omega) (by decide) (hf 1 (by decide))]
  rw [show g_X9_tapeNumber_L1 a 4094 (nI (24 - 8 * 1) + (-8 : Int32)) = g_X9_tapeNumber_L1 a (4093 + 1) (nI (24 - 8 * 2)) from rfl, tm_t1 h2 (by omega) (by decide) (hf 2 (by decide))]
  rw [show g_X9_tapeNumber_L1 a 4093 (nI (24 - 8 * 2) + (-8 : Int32)) = g_X9_tapeNumber_L1 a (4092 + 1) (nI (24 - 8 * 3)) from rfl, tm_t1 h3 (by omega) (by decide) (hf 3 (by decide))]
  rw [show g_X9_tapeNumber_L1 a 4092 (nI (24 - 8 * 3) + (-8 : Int32)) = g_X9_tapeNumber_L1 a (4091 + 1) (-8 : Int32) from rfl, g_X9_tapeNumber_L1, if_pos (by decide), Option.bind_some]
theorem tm_i4 : ∀ i, i < 20 → (24 : Int32) - ((8 : Int32) * (nI i - nI i / (4 : Int32) * (4 : Int32))) = nI (24 - 8 * (i % 4)) := by decide +kernel
theorem tm_fd10 {I : Nat → Int32} {A : Nat → Nat → Int32} {t : Nat} (a b c d e : Int32) (hI : I 4402 = nI t) (ht : t + 20 ≤ 900) : ∃ I1 A1, g_X10_feed_L1 a b c d e 4096 (0 : Int32) I A = some (I1, A1) ∧ I1 4402 = nI (t + 20) ∧ (∀ k, k ≠ 4402 → I1 k = I k) ∧ (∀ c, c ≠ 45 → A1 c = A c) ∧ ∀ j, A1 45 j = if t ≤ j ∧ j < t + 20 then tm_by a b c d e (j - t) &&& 255 else A 45 j := by
  have G : ∃ r, g_X10_feed_L1 a b c d e 4096 (nI 0) I A = some r ∧ (r.1 4402 = nI (t + 20) ∧ (∀ k, k ≠ 4402 → r.1 k = I k) ∧ (∀ c, c ≠ 45 → r.2 c = A c) ∧ ∀ j, r.2 45 j = if t ≤ j ∧ j < t + 20 then tm_by a b c d e (j - t) &&& 255 else A 45 j) := by
    refine tm_lr (fun n i (s : (Nat → Int32) × (Nat → Nat → Int32)) => g_X10_feed_L1 a b c d e n i s.1 s.2) 20 0 (Nat.zero_le _) (fun i r => r.1 4402 = nI (t + i) ∧ (∀ k, k ≠ 4402 → r.1 k = I k) ∧ (∀ c, c ≠ 45 → r.2 c = A c) ∧ ∀ j, r.2 45 j = if t ≤ j ∧ j < t + i then tm_by a b c d e (j - t) &&& 255 else A 45 j) _ ?_ ?_ (s := (I, A)) ⟨hI, fun _ _ => rfl, fun _ _ => rfl, fun j => by rw [if_neg (by omega)]⟩ (m := 4096) (by omega)
    · rintro n ⟨I1, A1⟩ h
      refine ⟨(I1, A1), ?_, h⟩
      show g_X10_feed_L1 a b c d e (n + 1) (nI 20) I1 A1 = _
      rw [g_X10_feed_L1, if_pos (by decide)]
    · rintro n i ⟨I1, A1⟩ _ hi _ ⟨h1, h2, h3, h4⟩
      dsimp only at h1 h2 h3 h4
      have hx : (if (4 : Int32) ≤ nI i then (if (8 : Int32) ≤ nI i then (if (12 : Int32) ≤ nI i then (if (16 : Int32) ≤ nI i then (some e) else (some d)) else (some c)) else (some b)) else (some a)) = some (tm_nm a b c d e (i / 4)) := by
        have ge : ∀ k, k ≤ i → nI k ≤ nI i := fun k hk => nI_le hk (by omega)
        have lt : ∀ k, i < k → k < 100 → ¬ nI k ≤ nI i := fun k hk h2 => nI_ge hk (by omega)
        show (if nI 4 ≤ nI i then (if nI 8 ≤ nI i then (if nI 12 ≤ nI i then (if nI 16 ≤ nI i then (some e) else (some d)) else (some c)) else (some b)) else (some a)) = _
        by_cases g4 : i < 4
        · rw [if_neg (lt 4 g4 (by decide)), show i / 4 = 0 by omega]
          rfl
        · rw [if_pos (ge 4 (by omega))]
          by_cases g8 : i < 8
          · rw [if_neg (lt 8 g8 (by decide)), show i / 4 = 1 by omega]
            rfl
          · rw [if_pos (ge 8 (by omega))]
            by_cases g12 : i < 12
            · rw [if_neg (lt 12 g12 (by decide)), show i / 4 = 2 by omega]
              rfl
            · rw [if_pos (ge 12 (by omega))]
              by_cases g16 : i < 16
              · rw [if_neg (lt 16 g16 (by decide)), show i / 4 = 3 by omega]
                rfl
              · rw [if_pos (ge 16 (by omega)), show i / 4 = 4 by omega]
                rfl
      refine Or.inr ⟨(upd I1 4402 (nI (t + i + 1)), va_up A1 45 (upd (A1 45) (t + i) (tm_by a b c d e i &&& 255))), ⟨show upd I1 4402 (nI (t + i + 1)) 4402 = nI (t + i + 1) from tm_us _ _ _, fun k hk => (tm_un _ hk).trans (h2 k hk), fun c hc => (tm_vn _ hc).trans (h3 c hc), fun j => ?_⟩, ?_⟩
      · dsimp only
        rw [tm_vs]
        by_cases g : j = t + i
        · rw [g, tm_us, if_pos (by omega), Nat.add_sub_cancel_left]
        · rw [tm_un _ g, h4 j]
          by_cases g2 : t ≤ j ∧ j < t + i
          · rw [if_pos g2, if_pos (by omega)]
          · rw [if_neg g2, if_neg (by omega)]
      · show g_X10_feed_L1 a b c d e (n + 1) (nI i) I1 A1 = g_X10_feed_L1 a b c d e n (nI (i + 1)) _ _
        rw [g_X10_feed_L1, if_neg (show ¬ (20 : Int32) ≤ nI i from nI_ge (b := 20) hi (by decide)), hx, Option.bind_some, tm_i4 i hi, h1, tm_st (by omega) (by decide), Option.bind_some, ← nI_succ, ← nI_succ]
        rfl
  obtain ⟨⟨I1, A1⟩, e1, x⟩ := G
  exact ⟨I1, A1, e1, x⟩
theorem tm_byk (a b c d e : Int32) (k i : Nat) (hi : i < 4) : tm_by a b c d e (4 * k + i) = tm_bt (tm_nm a b c d e k) i := by
  unfold tm_by
  rw [show (4 * k + i) / 4 = k by omega, show (4 * k + i) % 4 = i by omega]
theorem tm_q_feed {I : Nat → Int32} {A : Nat → Nat → Int32} (h : tm_Inv I A) (a b c d e : Int32) : ∃ x I1 A1, g_X9_feed I A a b c d e = some (x, I1, A1) ∧ ∃ I2 A2, g_X10_feed I1 A1 a b c d e = some (x, I2, A2) ∧ tm_Inv I2 A2 := by
  obtain ⟨⟨T, s, U, V, t, h1, h2, h3, h4, h5, h6, h7, ht, i1, i2, hj0⟩, hT, hS⟩ := id h
  have t20 : nI t + (20 : Int32) = nI (t + 20) := nI_add t 20
  by_cases g : t + 20 ≤ 900
  · have s0 : tm_TP (tm_by a b c d e) I A t (4 * 0) I A := ⟨i1, fun _ _ => rfl, fun _ _ => rfl, fun j => by rw [if_neg (by omega)]⟩
    obtain ⟨I1, A1, e1, s1⟩ := tm_t4 (a := a) (k := 4 * 0) s0 (by omega) (fun i hi => tm_byk a b c d e 0 i hi)
    obtain ⟨I2, A2, e2, s2⟩ := tm_t4 (a := b) (k := 4 * 1) s1 (by omega) (fun i hi => tm_byk a b c d e 1 i hi)
    obtain ⟨I3, A3, e3, s3⟩ := tm_t4 (a := c) (k := 4 * 2) s2 (by omega) (fun i hi => tm_byk a b c d e 2 i hi)
    obtain ⟨I4, A4, e4, s4⟩ := tm_t4 (a := d) (k := 4 * 3) s3 (by omega) (fun i hi => tm_byk a b c d e 3 i hi)
    obtain ⟨I5, A5, e5, s5⟩ := tm_t4 (a := e) (k := 4 * 4) s4 (by omega) (fun i hi => tm_byk a b c d e 4 i hi)
    obtain ⟨p1, p2, p3, p4⟩ := s5
    have i5 : I5 4402 = nI t := (p2 4402 (by decide)).trans i2
    obtain ⟨I6, A6, e6, q1, q2, q3, q4⟩ := tm_fd10 (I := upd I5 4400 0) (A := A5) a b c d e (by rw [tm_un _ (by decide)]; exact i5) g
    have hk : ∀ k, k ≠ 1 → k ≠ 4400 → k ≠ 4402 → I6 k = I k := fun k k1 k2 k3 => by rw [q2 k k3, tm_un _ k2, p2 k k1]
    have hc : ∀ c, c ≠ 1 → c ≠ 45 → A6 c = A c := fun c c1 c2 => by rw [q3 c c2, p3 c c1]
    refine ⟨nI (t + 20), I5, A5, ?_, I6, A6, ?_, ⟨T, s, U, V, t + 20, h1, tm_R_of h2 (hc 47 (by decide) (by decide)), tm_C_of h3 (fun c c1 c2 => hc c (by omega) (by omega)), tm_H_of h4 (hk 4414 (by decide) (by decide) (by decide)), ?_, ?_, ?_, ?_⟩, ?_, ?_⟩
    · unfold g_X9_feed
      rw [i1, t20, if_pos (show nI (t + 20) ≤ (900 : Int32) from nI_le (b := 900) g (by decide)), e1, Option.bind_some]
      dsimp only
      rw [e2, Option.bind_some]
      dsimp only
      rw [e3, Option.bind_some]
      dsimp only
      rw [e4, Option.bind_some]
      dsimp only
      rw [e5, Option.bind_some]
      dsimp only
      rw [p1]
    · unfold g_X10_feed
      rw [i5, t20, if_pos (show nI (t + 20) ≤ (900 : Int32) from nI_le (b := 900) g (by decide)), e6, Option.bind_some]
      dsimp only
      rw [q1]
    · rw [hk 3300 (by decide) (by decide) (by decide), hk 3301 (by decide) (by decide) (by decide), hk 3302 (by decide) (by decide) (by decide), hc 49 (by decide) (by decide)]
      exact h5
    · rw [hk 3304 (by decide) (by decide) (by decide), hk 4420 (by decide) (by decide) (by decide), hc 34 (by decide) (by decide), hc 50 (by decide) (by decide)]
      exact h6
    · rw [hk 3306 (by decide) (by decide) (by decide), hk 4421 (by decide) (by decide) (by decide), hc 35 (by decide) (by decide), hc 51 (by decide) (by decide)]
      exact h7
    · refine ⟨g, ?_, q1, fun j hj => ?_⟩
      · rw [q2 1 (by decide), tm_un _ (by decide)]
        exact p1
      · have a1 : A6 1 j = A5 1 j := by rw [q3 1 (by decide)]
        have a45 : A5 45 j = A 45 j := by rw [p3 45 (by decide)]
        rw [a1, q4 j, p4 j, a45]
        by_cases z : t ≤ j ∧ j < t + 20
        · rw [if_pos z, if_pos z]
          obtain ⟨w, w1, w2⟩ := tm_255 (tm_by a b c d e (j - t))
          exact ⟨w, w1, w2, by rw [← w2, tm_b8]⟩
        · rw [if_neg z, if_neg z]
          exact hj0 j (by omega)
    · obtain ⟨z1, z2, z3⟩ := hT
      unfold tm_Tr
      rw [hk 12 (by decide) (by decide) (by decide), hk 4411 (by decide) (by decide) (by decide), hk 10 (by decide) (by decide) (by decide), hk 4409 (by decide) (by decide) (by decide), hk 11 (by decide) (by decide) (by decide), hk 4410 (by decide) (by decide) (by decide)]
      exact ⟨z1, z2, z3⟩
    · obtain ⟨z, z1, z2⟩ := hS
      exact ⟨z, z1, (hk 3907 (by decide) (by decide) (by decide)).trans z2⟩
  · refine ⟨-1, I, A, ?_, _, A, ?_, tm_thr h 0⟩
    · unfold g_X9_feed
      rw [i1, t20, if_neg (show ¬ nI (t + 20) ≤ (900 : Int32) from nI_ge (a := 900) (by omega) (by omega))]
    · unfold g_X10_feed
      rw [i2, t20, if_neg (show ¬ nI (t + 20) ≤ (900 : Int32) from nI_ge (a := 900) (by omega) (by omega))]
