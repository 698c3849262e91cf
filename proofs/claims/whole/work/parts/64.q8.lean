/-! MATHEMATICS, 15: bestHire, nurse -/
def tm_swp (T : Nat → Nat) (B : Nat) (h W E : Nat → Nat) (p t : Nat) : Nat := tm_pc (tm_sw T B h W E p t)
def tm_bb (T : Nat → Nat) (B : Nat) (h W E : Nat → Nat) (p : Nat) : Int32 × Nat := tm_bho (tm_swp T B h W E) (fun p => decide (0 < T (29 + 4 * p))) (T 1) (-2, tm_pc (tm_bs (tm_stp T B h W E) (T 5))) p
theorem tm_bb_le (T : Nat → Nat) (B : Nat) (h W E : Nat → Nat) (p : Nat) : (tm_bb T B h W E p).2 ≤ 8 := tm_bho_le (fun _ _ => tm_pc_le _) (tm_pc_le _) p
theorem tm_bh9 {I : Nat → Int32} {A : Nat → Nat → Int32} {T : Nat → Nat} {B : Nat} {h W E : Nat → Nat} (hW : tm_W T) (hK : tm_K9 I A T B h W E) (hSB : tm_SB T B h W E) : ∃ I1 A1, g_X3_bestSending I A = some ((tm_bb T B h W E (T 3)).1, I1, A1) ∧ tm_Sd I1 ∧ tm_f9 I A I1 A1 := by
  have h3 := tm_W_b3 hW
  obtain ⟨I0, A0, e0, k0, f0, -⟩ := tm_so9 hW hK hSB
  have h8 := tm_bs5 (tm_stp T B h W E) hW
  have hbc : g_J6_bitCount_0f7a4 (nI (tm_bs (tm_stp T B h W E) (T 5))) = nI (tm_bb T B h W E 0).2 := tm_bc9 _ (by omega)
  have L : ∃ r, g_X3_bestSending_L1 I 4096 (-2 : Int32) (nI (tm_bb T B h W E 0).2) (nI 0) I0 A0 = some r ∧ (r.1 = (tm_bb T B h W E (T 3)).1 ∧ (∃ g, tm_K9 r.2.1 r.2.2 T B g W E) ∧ tm_f9 I A r.2.1 r.2.2) := by
    refine tm_lr (fun n i (s : Int32 × Int32 × (Nat → Int32) × (Nat → Nat → Int32)) => g_X3_bestSending_L1 I n s.1 s.2.1 i s.2.2.1 s.2.2.2) (T 3) 0 (Nat.zero_le _) (fun i s => s.1 = (tm_bb T B h W E i).1 ∧ s.2.1 = nI (tm_bb T B h W E i).2 ∧ (∃ g, tm_K9 s.2.2.1 s.2.2.2 T B g W E) ∧ tm_f9 I A s.2.2.1 s.2.2.2) _ ?_ ?_ (s := ((-2 : Int32), nI (tm_bb T B h W E 0).2, I0, A0)) ⟨rfl, rfl, ⟨_, k0⟩, f0⟩ (m := 4096) (by omega)
    · rintro n ⟨v, w, I1, A1⟩ ⟨a, c, ⟨g, k⟩, d⟩
      dsimp only at a c k d
      refine ⟨(v, I1, A1), ?_, a, ⟨g, k⟩, d⟩
      show g_X3_bestSending_L1 I (n + 1) v w (nI (T 3)) I1 A1 = _
      rw [g_X3_bestSending_L1, tm_cn3 k.1, if_pos (nI_le (Nat.le_refl _) (by omega))]
    · rintro n i ⟨v, w, I1, A1⟩ _ hi _ ⟨a, c, ⟨g, k⟩, d⟩
      dsimp only at a c k d
      obtain ⟨I2, A2, e2, k2, f2⟩ := tm_bh9i hW hSB I hK.2.1.2.1 hi (tm_bb_le T B h W E i) ⟨g, k⟩ d
      refine Or.inr ⟨((tm_bb T B h W E (i + 1)).1, nI (tm_bb T B h W E (i + 1)).2, I2, A2), ⟨rfl, rfl, k2, f2⟩, ?_⟩
      show g_X3_bestSending_L1 I (n + 1) v w (nI i) I1 A1 = g_X3_bestSending_L1 I n _ _ (nI (i + 1)) I2 A2
      rw [g_X3_bestSending_L1, tm_cn3 k.1, if_neg (nI_ge hi (by omega)), a, c, e2, Option.bind_some]
      dsimp only
      rw [← nI_succ]
      rfl
  obtain ⟨⟨v, I1, A1⟩, e, a, ⟨g, k⟩, d⟩ := L
  dsimp only at a k d
  refine ⟨upd I1 3602 (I 3602), A1, ?_, ?_, tm_f9_t d (tm_f9_u I1 A1 _)⟩
  · unfold g_X3_bestSending
    rw [e0, Option.bind_some]
    dsimp only
    rw [hbc, show g_X3_bestSending_L1 I 4096 (-2 : Int32) (nI (tm_bb T B h W E 0).2) (0 : Int32) I0 A0 = _ from e, Option.bind_some, a]
  · obtain ⟨z, z1, z2⟩ := k.2.2
    refine ⟨z, z1, ?_⟩
    rw [tm_un _ (by decide)]
    exact z2
theorem tm_bh10i {I I0 : Nat → Int32} {A A0 : Nat → Nat → Int32} {T s : Nat → Nat} (hW : tm_W T) (hR : tm_R A0 T) {x y z : Int32} (hrow : tm_row T x y z (A0 49) s) {p : Nat} (hp : p < T 3) {b : Int32 × Nat} (hb : b.2 ≤ 8) (f1 : ∀ k, k < 4425 → I k = I0 k) (f2 : ∀ c, c < 52 → A c = A0 c) : ∃ I1 A1, g_X10_bestHire_L2 (nI p) 4096 (nI b.2) b.1 (0 : Int32) I A = some (nI (if decide (0 < T (29 + 4 * p)) = true then tm_bhi (tm_swp T (s 6) s (tm_Wt T) (tm_Et T) p) p b (T 1) else b).2, (if decide (0 < T (29 + 4 * p)) = true then tm_bhi (tm_swp T (s 6) s (tm_Wt T) (tm_Et T) p) p b (T 1) else b).1, I1, A1) ∧ (∀ k, k < 4425 → I1 k = I0 k) ∧ ∀ c, c < 52 → A1 c = A0 c := by
  have h3 := tm_W_b3 hW
  have h1 := tm_W_b1 hW
  have hpc : ∀ t, tm_swp T (s 6) s (tm_Wt T) (tm_Et T) p t ≤ 8 := fun t => tm_pc_le _
  have L : ∃ r, g_X10_bestHire_L2 (nI p) 4096 (nI b.2) b.1 (nI 0) I A = some r ∧ (r.2.1 = (if decide (0 < T (29 + 4 * p)) = true then tm_bhi (tm_swp T (s 6) s (tm_Wt T) (tm_Et T) p) p b (T 1) else b).1 ∧ r.1 = nI (if decide (0 < T (29 + 4 * p)) = true then tm_bhi (tm_swp T (s 6) s (tm_Wt T) (tm_Et T) p) p b (T 1) else b).2 ∧ (∀ k, k < 4425 → r.2.2.1 k = I0 k) ∧ ∀ c, c < 52 → r.2.2.2 c = A0 c) := by
    refine tm_lr (fun n i (s : Int32 × Int32 × (Nat → Int32) × (Nat → Nat → Int32)) => g_X10_bestHire_L2 (nI p) n s.1 s.2.1 i s.2.2.1 s.2.2.2) (T 1) 0 (Nat.zero_le _) (fun i r => r.2.1 = (if decide (0 < T (29 + 4 * p)) = true then tm_bhi (tm_swp T (s 6) s (tm_Wt T) (tm_Et T) p) p b i else b).1 ∧ r.1 = nI (if decide (0 < T (29 + 4 * p)) = true then tm_bhi (tm_swp T (s 6) s (tm_Wt T) (tm_Et T) p) p b i else b).2 ∧ (∀ k, k < 4425 → r.2.2.1 k = I0 k) ∧ ∀ c, c < 52 → r.2.2.2 c = A0 c) _ ?_ ?_ (s := (nI b.2, b.1, I, A)) ⟨by split <;> rfl, by split <;> rfl, f1, f2⟩ (m := 4096) (by omega)
    · rintro n ⟨v, w, I1, A1⟩ ⟨a, c, d1, d2⟩
      dsimp only at a c d1 d2
      refine ⟨(v, w, I1, A1), ?_, a, c, d1, d2⟩
      show g_X10_bestHire_L2 (nI p) (n + 1) v w (nI (T 1)) I1 A1 = _
      rw [g_X10_bestHire_L2, tm_r_c1 (tm_R_of hR (d2 47 (by decide))), Option.bind_some, if_pos (nI_le (Nat.le_refl _) (by omega))]
    · rintro n i ⟨v, w, I1, A1⟩ _ hi _ ⟨a, c, d1, d2⟩
      dsimp only at a c d1 d2
      have hR1 := tm_R_of hR (d2 47 (by decide))
      have hrow1 : tm_row T x y z (A1 49) s := by rw [d2 49 (by decide)]; exact hrow
      by_cases hc : 0 < T (29 + 4 * p)
      · rw [decide_eq_true hc, if_pos rfl] at a c
        rw [decide_eq_true hc]
        obtain ⟨I2, A2, e2, f3, f4⟩ := tm_sw10 (I := I1) hW hR1 hrow1 hp hi
        have hl := tm_bhi_le (p := p) hpc hb i
        have hm := hpc i
        have h8 := tm_bs5 (tm_stp T (s 6) (tm_hs s p (i + 1)) (tm_Wt T) (tm_Et T)) hW
        refine Or.inr ⟨(nI (tm_bhi (tm_swp T (s 6) s (tm_Wt T) (tm_Et T) p) p b (i + 1)).2, (tm_bhi (tm_swp T (s 6) s (tm_Wt T) (tm_Et T) p) p b (i + 1)).1, I2, A2), ⟨rfl, rfl, fun k hk => (f3 k hk).trans (d1 k hk), fun d hd => (f4 d hd).trans (d2 d hd)⟩, ?_⟩
        show g_X10_bestHire_L2 (nI p) (n + 1) v w (nI i) I1 A1 = g_X10_bestHire_L2 (nI p) n _ _ (nI (i + 1)) I2 A2
        rw [g_X10_bestHire_L2, tm_r_c1 hR1, Option.bind_some, if_neg (nI_ge hi (by omega)), tm_ch10 hR1 hW (by omega), Option.bind_some, decide_eq_true hc, if_pos rfl, e2, Option.bind_some]
        dsimp only
        rw [tm_on10 (by unfold tm_sw; omega), Option.bind_some, c, a, tm_bhi, ← nI_succ, show tm_pc (tm_sw T (s 6) s (tm_Wt T) (tm_Et T) p i) = tm_swp T (s 6) s (tm_Wt T) (tm_Et T) p i from rfl]
        by_cases q : tm_swp T (s 6) s (tm_Wt T) (tm_Et T) p i ≤ (tm_bhi (tm_swp T (s 6) s (tm_Wt T) (tm_Et T) p) p b i).2
        · rw [if_neg (nI_nlt q (by omega)), Option.bind_some, if_pos q]
        · rw [if_pos (nI_lt (by omega) (by omega)), Option.bind_some, if_neg q, show (10 : Int32) * nI p + nI i = nI (10 * p + i) by rw [show (10 : Int32) * nI p = nI (10 * p) from pk_mul 10 p, nI_add]]
      · rw [decide_eq_false hc, if_neg (by decide)] at a c
        rw [decide_eq_false hc]
        refine Or.inl ⟨(v, w, I1, A1), ?_, a, c, d1, d2⟩
        show g_X10_bestHire_L2 (nI p) (n + 1) v w (nI i) I1 A1 = _
        rw [g_X10_bestHire_L2, tm_r_c1 hR1, Option.bind_some, if_neg (nI_ge hi (by omega)), tm_ch10 hR1 hW (by omega), Option.bind_some, decide_eq_false hc, if_neg (by decide)]
  obtain ⟨⟨v, w, I1, A1⟩, e, a, c, d1, d2⟩ := L
  dsimp only at a c d1 d2
  refine ⟨I1, A1, ?_, d1, d2⟩
  rw [show g_X10_bestHire_L2 (nI p) 4096 (nI b.2) b.1 (0 : Int32) I A = _ from e, a, c]
theorem tm_bh10 {I : Nat → Int32} {A : Nat → Nat → Int32} {T s : Nat → Nat} (hW : tm_W T) (hR : tm_R A T) {x y z : Int32} (hrow : tm_row T x y z (A 49) s) : ∃ I1 A1, g_X10_bestHire_L1 4096 (nI (tm_bb T (s 6) s (tm_Wt T) (tm_Et T) 0).2) (-2 : Int32) (0 : Int32) I A = some ((tm_bb T (s 6) s (tm_Wt T) (tm_Et T) (T 3)).1, I1, A1) ∧ (∀ k, k < 4425 → I1 k = I k) ∧ ∀ c, c < 52 → A1 c = A c := by
  have h3 := tm_W_b3 hW
  have L : ∃ r, g_X10_bestHire_L1 4096 (nI (tm_bb T (s 6) s (tm_Wt T) (tm_Et T) 0).2) (-2 : Int32) (nI 0) I A = some r ∧ (r.1 = (tm_bb T (s 6) s (tm_Wt T) (tm_Et T) (T 3)).1 ∧ (∀ k, k < 4425 → r.2.1 k = I k) ∧ ∀ c, c < 52 → r.2.2 c = A c) := by
    refine tm_lr (fun n i (s : Int32 × Int32 × (Nat → Int32) × (Nat → Nat → Int32)) => g_X10_bestHire_L1 n s.1 s.2.1 i s.2.2.1 s.2.2.2) (T 3) 0 (Nat.zero_le _) (fun i r => r.2.1 = (tm_bb T (s 6) s (tm_Wt T) (tm_Et T) i).1 ∧ r.1 = nI (tm_bb T (s 6) s (tm_Wt T) (tm_Et T) i).2 ∧ (∀ k, k < 4425 → r.2.2.1 k = I k) ∧ ∀ c, c < 52 → r.2.2.2 c = A c) _ ?_ ?_ (s := (nI (tm_bb T (s 6) s (tm_Wt T) (tm_Et T) 0).2, (-2 : Int32), I, A)) ⟨rfl, rfl, fun _ _ => rfl, fun _ _ => rfl⟩ (m := 4096) (by omega)
    · rintro n ⟨v, w, I1, A1⟩ ⟨a, c, d1, d2⟩
      dsimp only at a c d1 d2
      refine ⟨(w, I1, A1), ?_, a, d1, d2⟩
      show g_X10_bestHire_L1 (n + 1) v w (nI (T 3)) I1 A1 = _
      rw [g_X10_bestHire_L1, tm_r_c3 (tm_R_of hR (d2 47 (by decide))), Option.bind_some, if_pos (nI_le (Nat.le_refl _) (by omega))]
    · rintro n i ⟨v, w, I1, A1⟩ _ hi _ ⟨a, c, d1, d2⟩
      dsimp only at a c d1 d2
      obtain ⟨I2, A2, e2, f3, f4⟩ := tm_bh10i (I := I1) (A := A1) hW hR hrow hi (tm_bb_le T (s 6) s (tm_Wt T) (tm_Et T) i) d1 d2
      refine Or.inr ⟨(nI (tm_bb T (s 6) s (tm_Wt T) (tm_Et T) (i + 1)).2, (tm_bb T (s 6) s (tm_Wt T) (tm_Et T) (i + 1)).1, I2, A2), ⟨rfl, rfl, f3, f4⟩, ?_⟩
      show g_X10_bestHire_L1 (n + 1) v w (nI i) I1 A1 = g_X10_bestHire_L1 n _ _ (nI (i + 1)) I2 A2
      rw [g_X10_bestHire_L1, tm_r_c3 (tm_R_of hR (d2 47 (by decide))), Option.bind_some, if_neg (nI_ge hi (by omega)), a, c, e2, Option.bind_some]
      dsimp only
      rw [← nI_succ]
      rfl
  obtain ⟨⟨v, I1, A1⟩, e, a, d⟩ := L
  dsimp only at a d
  refine ⟨I1, A1, ?_, d⟩
  rw [show g_X10_bestHire_L1 4096 (nI (tm_bb T (s 6) s (tm_Wt T) (tm_Et T) 0).2) (-2 : Int32) (0 : Int32) I A = _ from e, a]
theorem tm_q_bestHire {I : Nat → Int32} {A : Nat → Nat → Int32} (h : tm_Inv I A) (sc : Nat) : ∃ x I1 A1 sc1, g_X9_bestHire I A sc = some (x, I1, A1, sc1) ∧ ∃ I2 A2, g_X10_bestHire I1 A1 = some (x, I2, A2) ∧ tm_Inv I2 A2 := by
  obtain ⟨⟨T, s, U, V, t, hP⟩, hT, hS⟩ := id h
  obtain ⟨hW, hR, hC, hH, hrow, hrest⟩ := id hP
  have hv : ∀ v : Int32, tm_H (upd (upd (upd I 12 v) 4400 0) 4411 0) T := fun v => tm_H_of hH ((tm_g44 0 0).trans (tm_12_44 v))
  have hSB := tm_SBt hW (fun p hp => (hrow.1 p hp).2) hrow.2.2.1
  by_cases h0 : T 1 = 0
  · refine ⟨-1, upd I 12 1, A, sc, ?_, _, A, ?_, tm_ref h (w := 1) (by decide)⟩
    · unfold g_X9_bestHire
      dsimp only [tw_let, g_X9_refuse]
      rw [tm_town_f hC h0, if_neg (by decide)]
    · unfold g_X10_bestHire g_X10_good
      dsimp only [tw_let, g_X10_no]
      rw [hv 1, if_pos h0, if_pos rfl]
  · obtain ⟨I1, A1, e1, k1, f1, s1⟩ := tm_now9 hP hS
    obtain ⟨I2, A2, e2, z2, f2⟩ := tm_bh9 hW k1 hSB
    have f12 := tm_f9_t f1 f2
    obtain ⟨r1, r2, r3⟩ := tm_hand hP f12 0
    obtain ⟨A3, e3, k3, f3⟩ := tm_now10 hW r1 r2
    have h8 := tm_bs5 (tm_stp T (s 6) s (tm_Wt T) (tm_Et T)) hW
    obtain ⟨I4, e4, f4⟩ := tm_so10 (I := upd (upd (upd I2 12 0) 4400 0) 4411 0) hW k3 hSB
    obtain ⟨I5, A5, e5, f5, f6⟩ := tm_bh10 (I := I4) hW (tm_R_of r1 (f3 47 (by decide))) (by rw [f3 49 (by decide)]; exact r2)
    refine ⟨(tm_bb T (s 6) s (tm_Wt T) (tm_Et T) (T 3)).1, upd I2 12 0, A2, 2, ?_, I5, A5, ?_, tm_done h f12 z2 (fun k hk => (f5 k hk).trans (f4 k (by omega))) (fun c hc => (f6 c hc).trans (f3 c hc))⟩
    · unfold g_X9_bestHire
      dsimp only [tw_let, g_X9_grant]
      rw [tm_town_t hC hW h0, if_pos rfl, e1, Option.bind_some]
      dsimp only
      rw [e2, Option.bind_some]
    · unfold g_X10_bestHire g_X10_good
      dsimp only [tw_let, g_X10_no]
      rw [r3, if_neg h0, if_neg (by decide), e3, Option.bind_some]
      rw [e4, Option.bind_some]
      dsimp only
      rw [tm_on10 (by omega), Option.bind_some, show nI (tm_pc (tm_bs (tm_stp T (s 6) s (tm_Wt T) (tm_Et T)) (T 5))) = nI (tm_bb T (s 6) s (tm_Wt T) (tm_Et T) 0).2 from rfl, e5, Option.bind_some]
/-- were one plain -/
def tm_eh (E : Nat → Nat) (p : Nat) : Nat → Nat := fun j => if j = p then 2 else E j
def tm_nv (T : Nat → Nat) (B : Nat) (h W E : Nat → Nat) (p : Nat) : Nat := tm_pc (tm_bs (tm_stp T B h W (tm_eh E p)) (T 5))
def tm_nu (T : Nat → Nat) (B : Nat) (h W E : Nat → Nat) : Nat → Int32 × Nat
  | 0 => (-2, tm_pc (tm_bs (tm_stp T B h W E) (T 5)))
  | p + 1 => if tm_nv T B h W E p ≤ (tm_nu T B h W E p).2 then tm_nu T B h W E p else (nI p, tm_nv T B h W E p)
theorem tm_nu_le (T : Nat → Nat) (B : Nat) (h W E : Nat → Nat) : ∀ p, (tm_nu T B h W E p).2 ≤ 8
  | 0 => tm_pc_le _
  | p + 1 => by
    rw [tm_nu]
    split
    · exact tm_nu_le T B h W E p
    · exact tm_pc_le _
theorem tm_SB_e {T : Nat → Nat} {B : Nat} {h W E : Nat → Nat} (hSB : tm_SB T B h W E) (p : Nat) : tm_SB T B h W (tm_eh E p) := by
  refine ⟨hSB.1, hSB.2.1, fun j hj => ⟨(hSB.2.2 j hj).1, ?_⟩⟩
  unfold tm_eh
  split
  · decide
  · exact (hSB.2.2 j hj).2
theorem tm_nu9 {I : Nat → Int32} {A : Nat → Nat → Int32} {T : Nat → Nat} {B : Nat} {h W : Nat → Nat} (hW : tm_W T) (hK : tm_K9 I A T B h W (tm_Et T)) (hSB : tm_SB T B h W (tm_Et T)) : ∃ I1 A1, g_X3_bestPlainOne I A = some ((tm_nu T B h W (tm_Et T) (T 3)).1, I1, A1) ∧ tm_Sd I1 ∧ tm_f9 I A I1 A1 := by
  have h3 := tm_W_b3 hW
  obtain ⟨I0, A0, e0, k0, f0, -⟩ := tm_so9 hW hK hSB
  have h8 := tm_bs5 (tm_stp T B h W (tm_Et T)) hW
  have hbc : g_J6_bitCount_0f7a4 (nI (tm_bs (tm_stp T B h W (tm_Et T)) (T 5))) = nI (tm_nu T B h W (tm_Et T) 0).2 := tm_bc9 _ (by omega)
  have L : ∃ r, g_X3_bestPlainOne_L1 4096 (-2 : Int32) (nI (tm_nu T B h W (tm_Et T) 0).2) (nI 0) I0 A0 = some r ∧ (r.1 = (tm_nu T B h W (tm_Et T) (T 3)).1 ∧ tm_K9 r.2.1 r.2.2 T B h W (tm_Et T) ∧ tm_f9 I A r.2.1 r.2.2) := by
    refine tm_lr (fun n i (s : Int32 × Int32 × (Nat → Int32) × (Nat → Nat → Int32)) => g_X3_bestPlainOne_L1 n s.1 s.2.1 i s.2.2.1 s.2.2.2) (T 3) 0 (Nat.zero_le _) (fun i s => s.1 = (tm_nu T B h W (tm_Et T) i).1 ∧ s.2.1 = nI (tm_nu T B h W (tm_Et T) i).2 ∧ tm_K9 s.2.2.1 s.2.2.2 T B h W (tm_Et T) ∧ tm_f9 I A s.2.2.1 s.2.2.2) _ ?_ ?_ (s := ((-2 : Int32), nI (tm_nu T B h W (tm_Et T) 0).2, I0, A0)) ⟨rfl, rfl, k0, f0⟩ (m := 4096) (by omega)
    · rintro n ⟨v, w, I1, A1⟩ ⟨a, c, k, d⟩
      dsimp only at a c k d
      refine ⟨(v, I1, A1), ?_, a, k, d⟩
      show g_X3_bestPlainOne_L1 (n + 1) v w (nI (T 3)) I1 A1 = _
      rw [g_X3_bestPlainOne_L1, tm_cn3 k.1, if_pos (nI_le (Nat.le_refl _) (by omega))]
    · rintro n i ⟨v, w, I1, A1⟩ _ hi _ ⟨a, c, k, d⟩
      dsimp only at a c k d
      have kA : tm_K9 I1 (va_up A1 38 (upd (A1 38) i 2)) T B h W (tm_eh (tm_Et T) i) := by
        refine ⟨tm_C_of k.1 fun c c1 _ => tm_vn _ (by omega), ⟨k.2.1.1, k.2.1.2.1, fun p hp => ?_⟩, k.2.2⟩
        rw [tm_vn _ (by decide), tm_vs]
        refine ⟨(k.2.1.2.2 p hp).1, ?_⟩
        unfold tm_eh
        by_cases g : p = i
        · rw [if_pos g, g, tm_us]
          rfl
        · rw [if_neg g, tm_un _ g]
          exact (k.2.1.2.2 p hp).2
      obtain ⟨I2, A2, e2, k2, f2, -, -, -, g8⟩ := tm_so9 hW kA (tm_SB_e hSB i)
      have kB : tm_K9 I2 (va_up A2 38 (upd (A2 38) i (nI (tm_Et T i)))) T B h W (tm_Et T) := by
        refine ⟨tm_C_of k2.1 fun c c1 _ => tm_vn _ (by omega), ⟨k2.2.1.1, k2.2.1.2.1, fun p hp => ?_⟩, k2.2.2⟩
        rw [tm_vn _ (by decide), tm_vs]
        refine ⟨(k2.2.1.2.2 p hp).1, ?_⟩
        by_cases g : p = i
        · rw [g, tm_us]
        · rw [tm_un _ g, (k2.2.1.2.2 p hp).2]
          unfold tm_eh
          rw [if_neg g]
      have hl := tm_nu_le T B h W (tm_Et T) i
      have hm := tm_pc_le (tm_bs (tm_stp T B h W (tm_eh (tm_Et T) i)) (T 5))
      have h8i := tm_bs5 (tm_stp T B h W (tm_eh (tm_Et T) i)) hW
      have hbi : g_J6_bitCount_0f7a4 (nI (tm_bs (tm_stp T B h W (tm_eh (tm_Et T) i)) (T 5))) = nI (tm_nv T B h W (tm_Et T) i) := tm_bc9 _ (by omega)
      have hnv : tm_nv T B h W (tm_Et T) i ≤ 8 := hm
      refine Or.inr ⟨((tm_nu T B h W (tm_Et T) (i + 1)).1, nI (tm_nu T B h W (tm_Et T) (i + 1)).2, I2, va_up A2 38 (upd (A2 38) i (nI (tm_Et T i)))), ⟨rfl, rfl, kB, tm_f9_t d (tm_f9_t ⟨fun _ _ => rfl, fun c hc => tm_vn _ (by omega)⟩ (tm_f9_t f2 ⟨fun _ _ => rfl, fun c hc => tm_vn _ (by omega)⟩))⟩, ?_⟩
      show g_X3_bestPlainOne_L1 (n + 1) v w (nI i) I1 A1 = g_X3_bestPlainOne_L1 n _ _ (nI (i + 1)) I2 _
      have t1 : g_X6_takeForPlain A1 (nI i) = va_up A1 38 (upd (A1 38) i 2) := by
        unfold g_X6_takeForPlain
        rw [tm_put (by omega) (by decide)]
      have t2 : g_X6_takeForHisKind A2 (nI i) = va_up A2 38 (upd (A2 38) i (nI (tm_Et T i))) := by
        unfold g_X6_takeForHisKind
        rw [tm_put (by omega) (by decide), tm_eyk k2.1 hW hi]
        rfl
      rw [g_X3_bestPlainOne_L1, tm_cn3 k.1, if_neg (nI_ge hi (by omega)), t1]
      dsimp only [tw_let]
      rw [e2, Option.bind_some]
      dsimp only [tw_let]
      rw [t2, hbi, c, a, tm_nu, ← nI_succ]
      by_cases q : tm_nv T B h W (tm_Et T) i ≤ (tm_nu T B h W (tm_Et T) i).2
      · rw [if_pos (nI_le q (by omega)), Option.bind_some, if_pos q]
      · rw [if_neg (nI_ge (by omega) (by omega)), Option.bind_some, if_neg q]
  obtain ⟨⟨v, I1, A1⟩, e, a, k, d⟩ := L
  dsimp only at a k d
  refine ⟨I1, A1, ?_, k.2.2, d⟩
  unfold g_X3_bestPlainOne
  rw [e0, Option.bind_some]
  dsimp only
  rw [hbc, show g_X3_bestPlainOne_L1 4096 (-2 : Int32) (nI (tm_nu T B h W (tm_Et T) 0).2) (0 : Int32) I0 A0 = _ from e, Option.bind_some, a]
theorem tm_nu10 {I : Nat → Int32} {A : Nat → Nat → Int32} {T s : Nat → Nat} (hW : tm_W T) (hR : tm_R A T) {x y z : Int32} (hrow : tm_row T x y z (A 49) s) : ∃ I1 A1, g_X10_nurse_L1 4096 (nI (tm_nu T (s 6) s (tm_Wt T) (tm_Et T) 0).2) (-2 : Int32) (0 : Int32) I A = some ((tm_nu T (s 6) s (tm_Wt T) (tm_Et T) (T 3)).1, I1, A1) ∧ (∀ k, k < 4425 → I1 k = I k) ∧ ∀ c, c < 52 → A1 c = A c := by
  have h3 := tm_W_b3 hW
  have hSB := tm_SBt hW (fun p hp => (hrow.1 p hp).2) hrow.2.2.1
  have L : ∃ r, g_X10_nurse_L1 4096 (nI (tm_nu T (s 6) s (tm_Wt T) (tm_Et T) 0).2) (-2 : Int32) (nI 0) I A = some r ∧ (r.1 = (tm_nu T (s 6) s (tm_Wt T) (tm_Et T) (T 3)).1 ∧ (∀ k, k < 4425 → r.2.1 k = I k) ∧ ∀ c, c < 52 → r.2.2 c = A c) := by
    refine tm_lr (fun n i (s : Int32 × Int32 × (Nat → Int32) × (Nat → Nat → Int32)) => g_X10_nurse_L1 n s.1 s.2.1 i s.2.2.1 s.2.2.2) (T 3) 0 (Nat.zero_le _) (fun i r => r.2.1 = (tm_nu T (s 6) s (tm_Wt T) (tm_Et T) i).1 ∧ r.1 = nI (tm_nu T (s 6) s (tm_Wt T) (tm_Et T) i).2 ∧ (∀ k, k < 4425 → r.2.2.1 k = I k) ∧ ∀ c, c < 52 → r.2.2.2 c = A c) _ ?_ ?_ (s := (nI (tm_nu T (s 6) s (tm_Wt T) (tm_Et T) 0).2, (-2 : Int32), I, A)) ⟨rfl, rfl, fun _ _ => rfl, fun _ _ => rfl⟩ (m := 4096) (by omega)
    · rintro n ⟨v, w, I1, A1⟩ ⟨a, c, d1, d2⟩
      dsimp only at a c d1 d2
      refine ⟨(w, I1, A1), ?_, a, d1, d2⟩
      show g_X10_nurse_L1 (n + 1) v w (nI (T 3)) I1 A1 = _
      rw [g_X10_nurse_L1, tm_r_c3 (tm_R_of hR (d2 47 (by decide))), Option.bind_some, if_pos (nI_le (Nat.le_refl _) (by omega))]
    · rintro n i ⟨v, w, I1, A1⟩ _ hi _ ⟨a, c, d1, d2⟩
      dsimp only at a c d1 d2
      have hR1 := tm_R_of hR (d2 47 (by decide))
      have hrow1 : tm_row T x y z (A1 49) s := by rw [d2 49 (by decide)]; exact hrow
      obtain ⟨A2, e2, k2, f2⟩ := tm_now10 hW hR1 hrow1
      have kA : tm_K10 (va_up A2 54 (upd (A2 54) i 2)) T (s 6) s (tm_Wt T) (tm_eh (tm_Et T) i) := by
        refine ⟨tm_R_of k2.1 (tm_vn _ (by decide)), fun j hj => ?_, ?_, fun p hp => ?_⟩
        · rw [tm_vn _ (by decide)]
          exact k2.2.1 j hj
        · rw [tm_vn _ (by decide)]
          exact k2.2.2.1
        · rw [tm_vn _ (by decide), tm_vs]
          refine ⟨(k2.2.2.2 p hp).1, ?_⟩
          unfold tm_eh
          by_cases g : p = i
          · rw [if_pos g, g, tm_us]
            rfl
          · rw [if_neg g, tm_un _ g]
            exact (k2.2.2.2 p hp).2
      obtain ⟨I3, e3, f3⟩ := tm_so10 (I := I1) hW kA (tm_SB_e hSB i)
      have hl := tm_nu_le T (s 6) s (tm_Wt T) (tm_Et T) i
      have h8i := tm_bs5 (tm_stp T (s 6) s (tm_Wt T) (tm_eh (tm_Et T) i)) hW
      have hnv : tm_nv T (s 6) s (tm_Wt T) (tm_Et T) i ≤ 8 := tm_pc_le _
      refine Or.inr ⟨(nI (tm_nu T (s 6) s (tm_Wt T) (tm_Et T) (i + 1)).2, (tm_nu T (s 6) s (tm_Wt T) (tm_Et T) (i + 1)).1, I3, va_up A2 54 (upd (A2 54) i 2)), ⟨rfl, rfl, fun k hk => (f3 k (by omega)).trans (d1 k hk), fun d hd => (tm_vn _ (by omega)).trans ((f2 d hd).trans (d2 d hd))⟩, ?_⟩
      show g_X10_nurse_L1 (n + 1) v w (nI i) I1 A1 = g_X10_nurse_L1 n _ _ (nI (i + 1)) I3 _
      rw [g_X10_nurse_L1, tm_r_c3 hR1, Option.bind_some, if_neg (nI_ge hi (by omega)), e2, Option.bind_some, tm_st (by omega) (by decide), Option.bind_some, e3, Option.bind_some]
      dsimp only
      rw [tm_on10 (by omega), Option.bind_some, c, a, tm_nu, ← nI_succ, show tm_pc (tm_bs (tm_stp T (s 6) s (tm_Wt T) (tm_eh (tm_Et T) i)) (T 5)) = tm_nv T (s 6) s (tm_Wt T) (tm_Et T) i from rfl]
      by_cases q : tm_nv T (s 6) s (tm_Wt T) (tm_Et T) i ≤ (tm_nu T (s 6) s (tm_Wt T) (tm_Et T) i).2
      · rw [if_neg (nI_nlt q (by omega)), Option.bind_some, if_pos q]
      · rw [if_pos (nI_lt (by omega) (by omega)), Option.bind_some, if_neg q]
  obtain ⟨⟨v, I1, A1⟩, e, a, d⟩ := L
  dsimp only at a d
  refine ⟨I1, A1, ?_, d⟩
  rw [show g_X10_nurse_L1 4096 (nI (tm_nu T (s 6) s (tm_Wt T) (tm_Et T) 0).2) (-2 : Int32) (0 : Int32) I A = _ from e, a]
theorem tm_q_nurse {I : Nat → Int32} {A : Nat → Nat → Int32} (h : tm_Inv I A) (sc : Nat) : ∃ x I1 A1 sc1, g_X9_nurse I A sc = some (x, I1, A1, sc1) ∧ ∃ I2 A2, g_X10_nurse I1 A1 = some (x, I2, A2) ∧ tm_Inv I2 A2 := by
  obtain ⟨⟨T, s, U, V, t, hP⟩, hT, hS⟩ := id h
  obtain ⟨hW, hR, hC, hH, hrow, hrest⟩ := id hP
  have hv : ∀ v : Int32, tm_H (upd (upd (upd I 12 v) 4400 0) 4411 0) T := fun v => tm_H_of hH ((tm_g44 0 0).trans (tm_12_44 v))
  have hSB := tm_SBt hW (fun p hp => (hrow.1 p hp).2) hrow.2.2.1
  by_cases h0 : T 1 = 0
  · refine ⟨-1, upd I 12 1, A, sc, ?_, _, A, ?_, tm_ref h (w := 1) (by decide)⟩
    · unfold g_X9_nurse
      dsimp only [tw_let, g_X9_refuse]
      rw [tm_town_f hC h0, if_neg (by decide)]
    · unfold g_X10_nurse g_X10_good
      dsimp only [tw_let, g_X10_no]
      rw [hv 1, if_pos h0, if_pos rfl]
  · obtain ⟨I1, A1, e1, k1, f1, s1⟩ := tm_now9 hP hS
    obtain ⟨I2, A2, e2, z2, f2⟩ := tm_nu9 hW k1 hSB
    have f12 := tm_f9_t f1 f2
    obtain ⟨r1, r2, r3⟩ := tm_hand hP f12 0
    obtain ⟨A3, e3, k3, f3⟩ := tm_now10 hW r1 r2
    have h8 := tm_bs5 (tm_stp T (s 6) s (tm_Wt T) (tm_Et T)) hW
    obtain ⟨I4, e4, f4⟩ := tm_so10 (I := upd (upd (upd I2 12 0) 4400 0) 4411 0) hW k3 hSB
    obtain ⟨I5, A5, e5, f5, f6⟩ := tm_nu10 (I := I4) hW (tm_R_of r1 (f3 47 (by decide))) (by rw [f3 49 (by decide)]; exact r2)
    refine ⟨(tm_nu T (s 6) s (tm_Wt T) (tm_Et T) (T 3)).1, upd I2 12 0, A2, 2, ?_, I5, A5, ?_, tm_done h f12 z2 (fun k hk => (f5 k hk).trans (f4 k (by omega))) (fun c hc => (f6 c hc).trans (f3 c hc))⟩
    · unfold g_X9_nurse
      dsimp only [tw_let, g_X9_grant]
      rw [tm_town_t hC hW h0, if_pos rfl, e1, Option.bind_some]
      dsimp only
      rw [e2, Option.bind_some]
    · unfold g_X10_nurse g_X10_good
      dsimp only [tw_let, g_X10_no]
      rw [r3, if_neg h0, if_neg (by decide), e3, Option.bind_some]
      rw [e4, Option.bind_some]
      dsimp only
      rw [tm_on10 (by omega), Option.bind_some, show nI (tm_pc (tm_bs (tm_stp T (s 6) s (tm_Wt T) (tm_Et T)) (T 5))) = nI (tm_nu T (s 6) s (tm_Wt T) (tm_Et T) 0).2 from rfl, e5, Option.bind_some]
