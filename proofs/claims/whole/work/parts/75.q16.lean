/-! MATHEMATICS, 26: wits of sets; what is otherwise than told; judge -/
def tm_wk (T : Nat → Nat) (set : Nat) : Nat → Nat → Nat
  | 0, p => T (28 + 4 * p)
  | k + 1, p => if set.testBit k = true ∧ T (95 + 2 * k) = p then T (96 + 2 * k) else tm_wk T set k p
def tm_Wu (T : Nat → Nat) (set p : Nat) : Nat := tm_wk T set (T 7) p
theorem tm_wk_le {T : Nat → Nat} (hW : tm_W T) (set : Nat) : ∀ k p, k ≤ T 7 → p < T 3 → tm_wk T set k p ≤ 9
  | 0, p, _, hp => (tm_W_p hW p hp).2.2
  | k + 1, p, hk, hp => by
    rw [tm_wk]
    split
    · exact (tm_W_u hW k (by omega)).2.1
    · exact tm_wk_le hW set k p (by omega) hp
theorem tm_wk_n {T : Nat → Nat} (set : Nat) : ∀ k p, (∀ j, j < k → T (95 + 2 * j) ≠ p) → tm_wk T set k p = T (28 + 4 * p)
  | 0, _, _ => rfl
  | k + 1, p, h => by
    rw [tm_wk, if_neg (fun q => h k (Nat.lt_succ_self _) q.2)]
    exact tm_wk_n set k p fun j hj => h j (by omega)
theorem tm_wk_0 (T : Nat → Nat) : ∀ k p, tm_wk T 0 k p = T (28 + 4 * p)
  | 0, _ => rfl
  | k + 1, p => by
    rw [tm_wk, if_neg (fun q => by rw [Nat.zero_testBit] at q; cases q.1)]
    exact tm_wk_0 T k p
theorem tm_Wu0 (T : Nat → Nat) : tm_Wu T 0 = tm_Wt T := by
  funext p
  exact tm_wk_0 T (T 7) p
theorem tm_SBu {T : Nat → Nat} (hW : tm_W T) (set : Nat) : tm_SB T 0 (fun _ => 0) (tm_Wu T set) (tm_Et T) := by
  have h := tm_SBt hW (s := fun _ => 0) (fun _ _ => Nat.zero_le _) (B := 0) (by decide)
  exact ⟨h.1, h.2.1, fun p hp => ⟨tm_wk_le hW set _ p (Nat.le_refl _) hp, (h.2.2 p hp).2⟩⟩
def tm_ot (T W : Nat → Nat) (q : Nat) : Bool := decide (T (103 + q) ≠ 0 ∧ (tm_res T 0 (fun _ => 0) W (tm_Et T) q (T (82 + 5 * q)) (T (83 + 5 * q))).2.1 ≠ nI (T (103 + q) - 1))
def tm_fq (T W : Nat → Nat) : Nat := tm_ff (tm_ot T W) (T 5)
theorem tm_fo9 {I : Nat → Int32} {A : Nat → Nat → Int32} {T W : Nat → Nat} (hW : tm_W T) (hK : tm_K9 I A T 0 (fun _ => 0) W (tm_Et T)) (hSB : tm_SB T 0 (fun _ => 0) W (tm_Et T)) : ∃ I1 A1, g_X2_firstOtherwise I A = some (tm_fo (tm_fq T W) (T 5), I1, A1) ∧ tm_K9 I1 A1 T 0 (fun _ => 0) W (tm_Et T) ∧ (∀ k, k < 3902 ∨ 3907 < k → I1 k = I k) ∧ ∀ c, c ≠ 40 → A1 c = A c := by
  have h5 := tm_W_b5 hW
  have hle := tm_ff_le (tm_ot T W) (T 5)
  have one : ∀ {I1 : Nat → Int32} {A1 : Nat → Nat → Int32} {q : Nat}, q < T 5 → tm_K9 I1 A1 T 0 (fun _ => 0) W (tm_Et T) → ∃ I2 A2, g_X1_watch I1 A1 (g_X8_fact_2 A1 (nI q) (2 : Int32)) = some A2 ∧ g_X1_go I1 A2 (nI q) (g_X8_fact_2 A2 (nI q) (3 : Int32)) (0 : Int32) = some I2 ∧ I2 3903 = (tm_res T 0 (fun _ => 0) W (tm_Et T) q (T (82 + 5 * q)) (T (83 + 5 * q))).2.1 ∧ tm_K9 I2 A2 T 0 (fun _ => 0) W (tm_Et T) ∧ (∀ k, k < 3902 ∨ 3907 < k → I2 k = I1 k) ∧ ∀ c, c ≠ 40 → A2 c = A1 c := by
    intro I1 A1 q hq hK1
    have hqq := tm_W_q hW q hq
    obtain ⟨hC, hS, hz⟩ := hK1
    obtain ⟨A2, a1, a2, a3⟩ := tm_watch hC hW hS hSB hqq.2.2.1
    have hC2 : tm_C A2 T := tm_C_of hC fun c c1 _ => a3 c (by omega)
    have hK2 : tm_K9 I1 A2 T 0 (fun _ => 0) W (tm_Et T) := ⟨hC2, tm_CS_of hS rfl rfl (a3 37 (by decide)) (a3 38 (by decide)), hz⟩
    obtain ⟨I2, e1, e2, e3, e4⟩ := tm_gor hW hK2 hSB (t := T (82 + 5 * q)) (f := T (83 + 5 * q)) hq (by omega) a2
    refine ⟨I2, A2, ?_, ?_, e2.2.1, e3, e4, a3⟩
    · rw [tm_f2 hC hW hq, a1]
    · rw [tm_f3 hC2 hW hq, e1]
  have en : ∀ {A1 : Nat → Nat → Int32} {q : Nat}, q < T 5 → tm_C A1 T → tw_get0 3 (A1 11) (nI q) = tm_o (T (103 + q)) := by
    intro A1 q hq hC
    rw [tm_get (by omega) (by decide), tm_C_en hC q (by omega)]
  have L : ∃ r, g_X2_firstOtherwise_L1 (fun (I1, A2) => some ((-2 : Int32), I1, A2)) 4096 (nI 0) I A = some r ∧ (r.1 = tm_fo (tm_fq T W) (T 5) ∧ tm_K9 r.2.1 r.2.2 T 0 (fun _ => 0) W (tm_Et T) ∧ (∀ k, k < 3902 ∨ 3907 < k → r.2.1 k = I k) ∧ ∀ c, c ≠ 40 → r.2.2 c = A c) := by
    refine tm_lr (fun n i (s : (Nat → Int32) × (Nat → Nat → Int32)) => g_X2_firstOtherwise_L1 (fun (I1, A2) => some ((-2 : Int32), I1, A2)) n i s.1 s.2) (tm_fq T W) 0 (Nat.zero_le _) (fun i s => tm_K9 s.1 s.2 T 0 (fun _ => 0) W (tm_Et T) ∧ (∀ k, k < 3902 ∨ 3907 < k → s.1 k = I k) ∧ ∀ c, c ≠ 40 → s.2 c = A c) _ ?_ ?_ (s := (I, A)) ⟨hK, fun _ _ => rfl, fun _ _ => rfl⟩ (m := 4096) (by unfold tm_fq; omega)
    · rintro n ⟨I1, A1⟩ ⟨b, c, d⟩
      dsimp only at b c d
      by_cases g : tm_fq T W < T 5
      · obtain ⟨I2, A2, e1, e2, e3, e4, e5, e6⟩ := one g b
        have hy := of_decide_eq_true (tm_ff_yes (tm_ot T W) (T 5) g)
        refine ⟨(nI (tm_fq T W), I2, A2), ?_, ?_, e4, fun k hk => (e5 k hk).trans (c k hk), fun k hk => (e6 k hk).trans (d k hk)⟩
        · show g_X2_firstOtherwise_L1 (fun (I1, A2) => some ((-2 : Int32), I1, A2)) (n + 1) (nI (tm_fq T W)) I1 A1 = _
          have h103 := tm_W_e hW (tm_fq T W) (by omega)
          rw [g_X2_firstOtherwise_L1, tm_cn5 b.1, if_neg (nI_ge g (by omega)), en g b.1, tm_o, if_neg (show ¬ T (103 + tm_fq T W) = 0 from hy.1), if_neg (tm_nm2 (by omega)), e1, Option.bind_some, e2, Option.bind_some, e3, if_neg (show ¬ (tm_res T 0 (fun _ => 0) W (tm_Et T) (tm_fq T W) (T (82 + 5 * tm_fq T W)) (T (83 + 5 * tm_fq T W))).2.1 = nI (T (103 + tm_fq T W) - 1) from hy.2)]
        · unfold tm_fo
          rw [if_pos g]
      · have e : tm_fq T W = T 5 := by unfold tm_fq at *; omega
        refine ⟨(-2, I1, A1), ?_, ?_, b, c, d⟩
        · show g_X2_firstOtherwise_L1 (fun (I1, A2) => some ((-2 : Int32), I1, A2)) (n + 1) (nI (tm_fq T W)) I1 A1 = _
          rw [g_X2_firstOtherwise_L1, tm_cn5 b.1, e, if_pos (nI_le (Nat.le_refl _) (by omega))]
        · unfold tm_fo
          rw [if_neg g]
    · rintro n i ⟨I1, A1⟩ _ hi _ ⟨b, c, d⟩
      dsimp only at b c d
      have hi5 : i < T 5 := by unfold tm_fq at hi; omega
      have hn := of_decide_eq_false (tm_ff_no (tm_ot T W) (T 5) i hi)
      by_cases g : T (103 + i) = 0
      · refine Or.inr ⟨(I1, A1), ⟨b, c, d⟩, ?_⟩
        show g_X2_firstOtherwise_L1 (fun (I1, A2) => some ((-2 : Int32), I1, A2)) (n + 1) (nI i) I1 A1 = g_X2_firstOtherwise_L1 (fun (I1, A2) => some ((-2 : Int32), I1, A2)) n (nI (i + 1)) I1 A1
        rw [g_X2_firstOtherwise_L1, tm_cn5 b.1, if_neg (nI_ge hi5 (by omega)), en hi5 b.1, tm_o, if_pos g, if_pos rfl, ← nI_succ]
      · obtain ⟨I2, A2, e1, e2, e3, e4, e5, e6⟩ := one hi5 b
        have h103 := tm_W_e hW i (by omega)
        refine Or.inr ⟨(I2, A2), ⟨e4, fun k hk => (e5 k hk).trans (c k hk), fun k hk => (e6 k hk).trans (d k hk)⟩, ?_⟩
        show g_X2_firstOtherwise_L1 (fun (I1, A2) => some ((-2 : Int32), I1, A2)) (n + 1) (nI i) I1 A1 = g_X2_firstOtherwise_L1 (fun (I1, A2) => some ((-2 : Int32), I1, A2)) n (nI (i + 1)) I2 A2
        rw [g_X2_firstOtherwise_L1, tm_cn5 b.1, if_neg (nI_ge hi5 (by omega)), en hi5 b.1, tm_o, if_neg g, if_neg (tm_nm2 (by omega)), e1, Option.bind_some, e2, Option.bind_some, e3, if_pos (Decidable.byContradiction fun z => hn ⟨g, z⟩), ← nI_succ]
  obtain ⟨⟨x, I1, A1⟩, e, a, b⟩ := L
  dsimp only at a b
  refine ⟨I1, A1, ?_, b⟩
  unfold g_X2_firstOtherwise
  rw [show g_X2_firstOtherwise_L1 (fun (I1, A2) => some ((-2 : Int32), I1, A2)) 4096 (0 : Int32) I A = _ from e, a]
theorem tm_z10 (A : Nat → Nat → Int32) : ∃ A1, g_X10_wrongBy_L1 4096 (0 : Int32) A = some A1 ∧ (∀ j, j < 8 → A1 52 j = 0) ∧ ∀ c, c ≠ 52 → A1 c = A c := by
  refine tm_lr (fun n i (s : Nat → Nat → Int32) => g_X10_wrongBy_L1 n i s) 8 0 (Nat.zero_le _) (fun i s => (∀ j, j < i → s 52 j = 0) ∧ ∀ c, c ≠ 52 → s c = A c) _ ?_ ?_ (s := A) ⟨fun p hp => absurd hp (Nat.not_lt_zero p), fun _ _ => rfl⟩ (m := 4096) (by omega)
  · rintro n s ⟨a, b⟩
    refine ⟨s, ?_, a, b⟩
    show g_X10_wrongBy_L1 (n + 1) (nI 8) s = _
    rw [g_X10_wrongBy_L1, if_pos (by decide)]
  · rintro n i s _ hi _ ⟨a, b⟩
    refine Or.inr ⟨va_up s 52 (upd (s 52) i 0), ⟨fun p hp => ?_, fun d hd => (tm_vn _ hd).trans (b d hd)⟩, ?_⟩
    · rw [tm_vs]
      by_cases g : p = i
      · rw [g, tm_us]
      · rw [tm_un _ g]
        exact a p (by omega)
    · rw [g_X10_wrongBy_L1, if_neg (tm_ge8 hi), tm_st (by omega) (by decide), Option.bind_some, ← nI_succ]
theorem tm_u10 {A : Nat → Nat → Int32} {T : Nat → Nat} (hW : tm_W T) (hR : tm_R A T) (h53 : ∀ p, p < T 3 → A 53 p = nI (T (28 + 4 * p))) {set : Nat} (hs : set < 2 ^ T 7) : ∃ A1, g_X10_wrongBy_L2 (nI set) 4096 (0 : Int32) A = some A1 ∧ (∀ p, p < T 3 → A1 53 p = nI (tm_Wu T set p)) ∧ ∀ c, c ≠ 53 → A1 c = A c := by
  have h3 := tm_W_b3 hW
  have h7 := tm_W_b7 hW
  have h24 : (2 : Nat) ^ T 7 ≤ 16 := Nat.pow_le_pow_right (n := 2) (by decide) h7
  refine tm_lr (fun n i (s : Nat → Nat → Int32) => g_X10_wrongBy_L2 (nI set) n i s) (T 7) 0 (Nat.zero_le _) (fun i s => (∀ p, p < T 3 → s 53 p = nI (tm_wk T set i p)) ∧ ∀ c, c ≠ 53 → s c = A c) _ ?_ ?_ (s := A) ⟨h53, fun _ _ => rfl⟩ (m := 4096) (by omega)
  · rintro n s ⟨a, b⟩
    refine ⟨s, ?_, a, b⟩
    show g_X10_wrongBy_L2 (nI set) (n + 1) (nI (T 7)) s = _
    rw [g_X10_wrongBy_L2, tm_r_c7 (tm_R_of hR (b 47 (by decide))), Option.bind_some, if_pos (nI_le (Nat.le_refl _) (by omega))]
  · rintro n i s _ hi _ ⟨a, b⟩
    have hR1 := tm_R_of hR (b 47 (by decide))
    have hu := tm_W_u hW i hi
    cases e : set.testBit i
    · refine Or.inr ⟨s, ⟨fun p hp => ?_, b⟩, ?_⟩
      · rw [tm_wk, if_neg (fun q => by rw [e] at q; cases q.1)]
        exact a p hp
      · rw [g_X10_wrongBy_L2, tm_r_c7 hR1, Option.bind_some, if_neg (nI_ge hi (by omega)), tm_has (by omega) (by omega), e, if_neg (by decide), Option.bind_some, ← nI_succ]
    · refine Or.inr ⟨va_up s 53 (upd (s 53) (T (95 + 2 * i)) (nI (T (96 + 2 * i)))), ⟨fun p hp => ?_, fun d hd => (tm_vn _ hd).trans (b d hd)⟩, ?_⟩
      · rw [tm_vs, tm_wk]
        by_cases g : T (95 + 2 * i) = p
        · rw [if_pos ⟨e, g⟩, g, tm_us]
        · rw [if_neg (fun q => g q.2), tm_un _ (fun q => g q.symm)]
          exact a p hp
      · rw [g_X10_wrongBy_L2, tm_r_c7 hR1, Option.bind_some, if_neg (nI_ge hi (by omega)), tm_has (by omega) (by omega), e, if_pos rfl, tm_r_d0 hR1 (by omega), Option.bind_some, tm_r_d1 hR1 (by omega), Option.bind_some, tm_st (by omega) (by decide), Option.bind_some, Option.bind_some, ← nI_succ]
theorem tm_fo10 {I : Nat → Int32} {A : Nat → Nat → Int32} {T W : Nat → Nat} (hW : tm_W T) (hK : tm_K10 A T 0 (fun _ => 0) W (tm_Et T)) (hSB : tm_SB T 0 (fun _ => 0) W (tm_Et T)) : ∃ I1, g_X10_wrongBy_L3 A (fun I20 => some ((-2 : Int32), I20, A)) 4096 (0 : Int32) I = some (tm_fo (tm_fq T W) (T 5), I1, A) ∧ ∀ k, k < 4425 ∨ 4431 < k → I1 k = I k := by
  have h5 := tm_W_b5 hW
  have hle := tm_ff_le (tm_ot T W) (T 5)
  have L : ∃ r, g_X10_wrongBy_L3 A (fun I20 => some ((-2 : Int32), I20, A)) 4096 (nI 0) I = some r ∧ (r.1 = tm_fo (tm_fq T W) (T 5) ∧ r.2.2 = A ∧ ∀ k, k < 4425 ∨ 4431 < k → r.2.1 k = I k) := by
    refine tm_lr (fun n i (s : Nat → Int32) => g_X10_wrongBy_L3 A (fun I20 => some ((-2 : Int32), I20, A)) n i s) (tm_fq T W) 0 (Nat.zero_le _) (fun i s => ∀ k, k < 4425 ∨ 4431 < k → s k = I k) _ ?_ ?_ (s := I) (fun _ _ => rfl) (m := 4096) (by unfold tm_fq; omega)
    · rintro n I1 c
      by_cases g : tm_fq T W < T 5
      · obtain ⟨I2, e1, e2, e3⟩ := tm_rt10 (I := I1) hW hK hSB g
        have hy := of_decide_eq_true (tm_ff_yes (tm_ot T W) (T 5) g)
        have h103 := tm_W_e hW (tm_fq T W) (by omega)
        have hz : ¬ T (103 + tm_fq T W) = 0 := hy.1
        refine ⟨(nI (tm_fq T W), I2, A), ?_, ?_, rfl, fun k hk => (e3 k hk).trans (c k hk)⟩
        · show g_X10_wrongBy_L3 A (fun I20 => some ((-2 : Int32), I20, A)) (n + 1) (nI (tm_fq T W)) I1 = _
          rw [g_X10_wrongBy_L3, tm_r_c5 hK.1, Option.bind_some, if_neg (nI_ge g (by omega)), tm_r_e0 hK.1 (by omega), Option.bind_some, if_neg (fun q => hz ((tm_z (by omega)).mp q)), e1, Option.bind_some, Option.bind_some, e2.2.1, show nI (T (103 + tm_fq T W)) - 1 = nI (T (103 + tm_fq T W) - 1) from pk_sub (a := T (103 + tm_fq T W)) (b := 1) (by omega), if_neg (show ¬ (tm_res T 0 (fun _ => 0) W (tm_Et T) (tm_fq T W) (T (82 + 5 * tm_fq T W)) (T (83 + 5 * tm_fq T W))).2.1 = nI (T (103 + tm_fq T W) - 1) from hy.2)]
        · unfold tm_fo
          rw [if_pos g]
      · have e : tm_fq T W = T 5 := by unfold tm_fq at *; omega
        refine ⟨(-2, I1, A), ?_, ?_, rfl, c⟩
        · show g_X10_wrongBy_L3 A (fun I20 => some ((-2 : Int32), I20, A)) (n + 1) (nI (tm_fq T W)) I1 = _
          rw [g_X10_wrongBy_L3, tm_r_c5 hK.1, Option.bind_some, e, if_pos (nI_le (Nat.le_refl _) (by omega))]
        · unfold tm_fo
          rw [if_neg g]
    · rintro n i I1 _ hi _ c
      have hi5 : i < T 5 := by unfold tm_fq at hi; omega
      have hn := of_decide_eq_false (tm_ff_no (tm_ot T W) (T 5) i hi)
      have h103 := tm_W_e hW i (by omega)
      by_cases g : T (103 + i) = 0
      · refine Or.inr ⟨I1, c, ?_⟩
        rw [g_X10_wrongBy_L3, tm_r_c5 hK.1, Option.bind_some, if_neg (nI_ge hi5 (by omega)), tm_r_e0 hK.1 (by omega), Option.bind_some, if_pos ((tm_z (by omega)).mpr g), ← nI_succ]
      · obtain ⟨I2, e1, e2, e3⟩ := tm_rt10 (I := I1) hW hK hSB hi5
        refine Or.inr ⟨I2, fun k hk => (e3 k hk).trans (c k hk), ?_⟩
        rw [g_X10_wrongBy_L3, tm_r_c5 hK.1, Option.bind_some, if_neg (nI_ge hi5 (by omega)), tm_r_e0 hK.1 (by omega), Option.bind_some, if_neg (fun q => g ((tm_z (by omega)).mp q)), e1, Option.bind_some, Option.bind_some, e2.2.1, show nI (T (103 + i)) - 1 = nI (T (103 + i) - 1) from pk_sub (a := T (103 + i)) (b := 1) (by omega), if_pos (Decidable.byContradiction fun z => hn ⟨g, z⟩), ← nI_succ]
  obtain ⟨⟨x, I1, A1⟩, e, a, b, c⟩ := L
  dsimp only at a b c
  refine ⟨I1, ?_, c⟩
  rw [show g_X10_wrongBy_L3 A (fun I20 => some ((-2 : Int32), I20, A)) 4096 (0 : Int32) I = _ from e, a, b]
theorem tm_wy10 {I : Nat → Int32} {A : Nat → Nat → Int32} {T s : Nat → Nat} (hW : tm_W T) (hR : tm_R A T) {x y z : Int32} (hrow : tm_row T x y z (A 49) s) {set : Nat} (hs : set < 2 ^ T 7) : ∃ I1 A1, g_X10_wrongBy I A (nI set) = some (tm_fo (tm_fq T (tm_Wu T set)) (T 5), I1, A1) ∧ (∀ k, k < 4425 ∨ 4431 < k → I1 k = I k) ∧ ∀ c, c ≠ 52 → c ≠ 53 → c ≠ 54 → A1 c = A c := by
  obtain ⟨A1, e1, m1, f1⟩ := tm_asNow hR hW (B := s 6) (h := s) (fun p hp => (hrow.1 p hp).1) hrow.2.1
  obtain ⟨A2, e2, m2, f2⟩ := tm_z10 A1
  have hR2 : tm_R A2 T := tm_R_of hR ((f2 47 (by decide)).trans (f1 47 (by decide) (by decide) (by decide)))
  obtain ⟨A3, e3, m3, f3⟩ := tm_u10 (A := A2) hW hR2 (fun p hp => by rw [f2 53 (by decide)]; exact (m1.2.2 p hp).1) hs
  have hK : tm_K10 A3 T 0 (fun _ => 0) (tm_Wu T set) (tm_Et T) := by
    refine ⟨tm_R_of hR2 (f3 47 (by decide)), fun p hp => ?_, ?_, fun p hp => ⟨m3 p hp, ?_⟩⟩
    · rw [f3 52 (by decide), m2 p (by omega)]
      rfl
    · rw [f3 52 (by decide), m2 6 (by omega)]
      rfl
    · rw [f3 54 (by decide), f2 54 (by decide)]
      exact (m1.2.2 p hp).2
  obtain ⟨I1, e4, f4⟩ := tm_fo10 (I := I) hW hK (tm_SBu hW set)
  refine ⟨I1, A3, ?_, f4, fun c c1 c2 c3 => by rw [f3 c c2, f2 c c1, f1 c c1 c2 c3]⟩
  unfold g_X10_wrongBy
  rw [e1, Option.bind_some, e2, Option.bind_some, e3, Option.bind_some, e4]
theorem tm_q_judge {I : Nat → Int32} {A : Nat → Nat → Int32} (h : tm_Inv I A) (sc : Nat) : ∃ x I1 A1 sc1, g_X9_judge I A sc = some (x, I1, A1, sc1) ∧ ∃ I2 A2, g_X10_judge I1 A1 = some (x, I2, A2) ∧ tm_Inv I2 A2 := by
  obtain ⟨⟨T, s, U, V, t, hP⟩, hT, hS⟩ := id h
  obtain ⟨hW, hR, hC, hH, hrow, hrest⟩ := id hP
  have hv : ∀ v : Int32, tm_H (upd (upd (upd I 12 v) 4400 0) 4411 0) T := fun v => tm_H_of hH ((tm_g44 0 0).trans (tm_12_44 v))
  by_cases h0 : T 1 = 0
  · refine ⟨-1, upd I 12 1, A, sc, ?_, _, A, ?_, tm_ref h (w := 1) (by decide)⟩
    · unfold g_X9_judge
      dsimp only [tw_let, g_X9_refuse]
      rw [tm_town_f hC h0, if_neg (by decide)]
    · unfold g_X10_judge g_X10_good
      dsimp only [tw_let, g_X10_no]
      rw [hv 1, if_pos h0, if_pos rfl]
  · obtain ⟨I1, A1, e1, k1, f1, s1⟩ := tm_told9 hP hS
    have hSB := tm_SBu hW 0
    rw [tm_Wu0] at hSB
    obtain ⟨I2, A2, e2, k2, f2, f3⟩ := tm_fo9 hW k1 hSB
    have f12 : tm_f9 I A I2 A2 := tm_f9_t f1 ⟨fun k hk => f2 k (by omega), fun c hc => f3 c (by omega)⟩
    obtain ⟨r1, r2, r3⟩ := tm_hand hP f12 0
    obtain ⟨I4, A4, e4, f4, f5⟩ := tm_wy10 (I := upd (upd (upd I2 12 0) 4400 0) 4411 0) hW r1 r2 (set := 0) (Nat.two_pow_pos _)
    rw [tm_Wu0] at e4
    refine ⟨tm_fo (tm_fq T (tm_Wt T)) (T 5), upd I2 12 0, A2, 2, ?_, I4, A4, ?_, tm_done h f12 k2.2.2 (fun k hk => f4 k (by omega)) (fun c hc => f5 c (by omega) (by omega) (by omega))⟩
    · unfold g_X9_judge
      dsimp only [tw_let, g_X9_grant]
      rw [tm_town_t hC hW h0, if_pos rfl, e1, Option.bind_some]
      dsimp only
      rw [e2, Option.bind_some]
    · unfold g_X10_judge g_X10_good
      dsimp only [tw_let, g_X10_no]
      rw [r3, if_neg h0, if_neg (by decide), show g_X10_wrongBy _ A2 (0 : Int32) = _ from e4, Option.bind_some]
