/-! MATHEMATICS, 43: the lines, in the reference (by wip/gen/mkt9.py) -/
def tp_O10 (c : Nat → Nat) (n : Nat) (I0 : Nat → Int32) (A0 : Nat → Nat → Int32) (o : tp_S) (I : Nat → Int32) (A : Nat → Nat → Int32) : Prop := match o with
  | .inl x => tp_F10 I x ∧ tp_Z10 I0 A0 I A
  | .inr y => tp_T10 c n I A y.1 ∧ tp_Q10 I0 A0 I A y.2
section
variable {c : Nat → Nat} {n : Nat} {I0 : Nat → Int32} {A0 : Nat → Nat → Int32} {I I1 : Nat → Int32} {A A1 : Nat → Nat → Int32} {F : Nat → Nat}
theorem tp_O10_l {x : Nat × Nat} (h : tp_F10 I x) (hZ : tp_Z10 I0 A0 I A) : tp_O10 c n I0 A0 (.inl x) I A := ⟨h, hZ⟩
theorem tp_O10_r {e : Nat} (h : tp_T10 c n I A e) (hQ : tp_Q10 I0 A0 I A F) : tp_O10 c n I0 A0 (.inr (e, F)) I A := ⟨h, hQ⟩
theorem tp_af_b {e i lo hi : Nat} {β : Type} (K : Nat → (Nat × Nat) ⊕ β) : tp_b (tp_wo c n e i) (fun _ => tp_b (tp_wh c n (tp_st c n e) lo hi) K) = tp_b (tp_af c n e i lo hi) K := by
  unfold tp_af
  cases tp_wo c n e i with
  | inl x => rfl
  | inr u => rfl
theorem tp_up10 {f : Nat → Int32} (h : ∀ j, j < 241 → f j = nI (F j)) (k v : Nat) : ∀ j, j < 241 → upd f k (nI v) j = nI (va_up F k v j) := fun j hj => by
  by_cases q : j = k
  · rw [q, tm_us, tm_vs]
  · rw [tm_un _ q, tm_vn _ q]
    exact h j hj
theorem tp_Q10_w {G : Nat → Nat} (h : tp_Q10 I0 A0 I A F) (hA : ∀ d, d ≠ 48 → A1 d = A d) (h48 : ∀ j, j < 241 → A1 48 j = nI (G j)) : tp_Q10 I0 A0 I A1 G := ⟨⟨h.1.1, fun d d1 d2 => (hA d d2).trans (h.1.2 d d1 d2)⟩, h.2.1, h.2.2.1, h48⟩
theorem tp_T10_w {e : Nat} (h : tp_T10 c n I A e) (hA : ∀ d, d ≠ 48 → A1 d = A d) : tp_T10 c n I A1 e := tp_T10_of h (fun _ _ _ => rfl) (hA _ (by decide)) (hA _ (by decide))
/-- loops over what is told -/
theorem tp_se10 (hF : ∀ j, j < 241 → A 48 j = nI (F j)) (h2 : F 2 ≤ 8) (x y : Int32) : ∀ z : Int32, (z = 0 ∨ z = 1) → ∃ w, g_X10_seesLine_L1 x A y 4096 z (0 : Int32) = some w ∧ (w = 0 ↔ z = 0 ∧ ¬ ∃ j, j < F 2 ∧ nI (F (10 + 2 * j)) = x ∧ nI (F (11 + 2 * j)) = y) := by
  have key : ∀ d i m (z : Int32), F 2 - i = d → d < m → i ≤ F 2 → (z = 0 ∨ z = 1) → ∃ w, g_X10_seesLine_L1 x A y m z (nI i) = some w ∧ (w = 0 ↔ z = 0 ∧ ¬ ∃ j, i ≤ j ∧ j < F 2 ∧ nI (F (10 + 2 * j)) = x ∧ nI (F (11 + 2 * j)) = y) := by
    intro d
    induction d with
    | zero =>
      intro i m z hd hm hi hz
      obtain ⟨m, rfl⟩ : ∃ q, m = q + 1 := ⟨m - 1, by omega⟩
      rw [g_X10_seesLine_L1, tm_l_c2, Option.bind_some, hF 2 (by decide), if_pos (nI_le (by omega) (by omega))]
      exact ⟨z, rfl, fun q => ⟨q, fun ⟨j, j1, j2, _⟩ => by omega⟩, fun q => q.1⟩
    | succ d ih =>
      intro i m z hd hm hi hz
      obtain ⟨m, rfl⟩ : ∃ q, m = q + 1 := ⟨m - 1, by omega⟩
      rw [g_X10_seesLine_L1, tm_l_c2, Option.bind_some, hF 2 (by decide), if_neg (nI_ge (by omega) (by omega)), tm_l_s0 _ (by omega), tm_l_s1 _ (by omega), hF _ (by omega), hF _ (by omega), ← nI_succ]
      rcases hz with rfl | rfl
      · rw [if_pos rfl, Option.bind_some]
        by_cases c1 : nI (F (10 + 2 * i)) = x
        · rw [if_pos c1, Option.bind_some]
          by_cases c2 : nI (F (11 + 2 * i)) = y
          · rw [if_pos c2, Option.bind_some]
            obtain ⟨w, w1, w2⟩ := ih (i + 1) m 1 (by omega) (by omega) (by omega) (Or.inr rfl)
            refine ⟨w, w1, fun q => ?_, fun q => ?_⟩
            · exact absurd (w2.mp q).1 (by decide)
            · exact absurd ⟨i, Nat.le_refl _, by omega, c1, c2⟩ q.2
          · rw [if_neg c2, Option.bind_some]
            obtain ⟨w, w1, w2⟩ := ih (i + 1) m 0 (by omega) (by omega) (by omega) (Or.inl rfl)
            refine ⟨w, w1, fun q => ⟨rfl, fun ⟨j, j1, j2, j3, j4⟩ => ?_⟩, fun q => w2.mpr ⟨rfl, fun ⟨j, j1, j2, j3⟩ => q.2 ⟨j, by omega, j2, j3⟩⟩⟩
            by_cases e : j = i
            · rw [e] at j4; exact c2 j4
            · exact (w2.mp q).2 ⟨j, by omega, j2, j3, j4⟩
        · rw [if_neg c1, Option.bind_some]
          obtain ⟨w, w1, w2⟩ := ih (i + 1) m 0 (by omega) (by omega) (by omega) (Or.inl rfl)
          refine ⟨w, w1, fun q => ⟨rfl, fun ⟨j, j1, j2, j3, j4⟩ => ?_⟩, fun q => w2.mpr ⟨rfl, fun ⟨j, j1, j2, j3⟩ => q.2 ⟨j, by omega, j2, j3⟩⟩⟩
          by_cases e : j = i
          · rw [e] at j3; exact c1 j3
          · exact (w2.mp q).2 ⟨j, by omega, j2, j3, j4⟩
      · rw [if_neg (by decide), Option.bind_some]
        obtain ⟨w, w1, w2⟩ := ih (i + 1) m 1 (by omega) (by omega) (by omega) (Or.inr rfl)
        refine ⟨w, w1, fun q => ?_, fun q => ?_⟩
        · exact absurd (w2.mp q).1 (by decide)
        · exact absurd q.1 (by decide)
  intro z hz
  obtain ⟨w, w1, w2⟩ := key (F 2) 0 4096 z rfl (by omega) (Nat.zero_le _) hz
  exact ⟨w, w1, w2.trans ⟨fun q => ⟨q.1, fun ⟨j, j1, j2⟩ => q.2 ⟨j, Nat.zero_le _, j1, j2⟩⟩, fun q => ⟨q.1, fun ⟨j, _, j1, j2⟩ => q.2 ⟨j, j1, j2⟩⟩⟩⟩
theorem tp_goN (hF : ∀ j, j < 241 → A 48 j = nI (F j)) (h4 : F 4 ≤ 10) (x y : Int32) (hN : ¬ I 4413 = 0) : ∀ d i m, F 4 - i = d → d < m → i ≤ F 4 → g_X10_goesLine_L1 x A y m (nI i) I = some I := by
  intro d
  induction d with
  | zero =>
    intro i m hd hm hi
    obtain ⟨m, rfl⟩ : ∃ q, m = q + 1 := ⟨m - 1, by omega⟩
    rw [g_X10_goesLine_L1, tm_l_c4, Option.bind_some, hF 4 (by decide), if_pos (nI_le (by omega) (by omega))]
  | succ d ih =>
    intro i m hd hm hi
    obtain ⟨m, rfl⟩ : ∃ q, m = q + 1 := ⟨m - 1, by omega⟩
    rw [g_X10_goesLine_L1, tm_l_c4, Option.bind_some, hF 4 (by decide), if_neg (nI_ge (by omega) (by omega)), if_neg hN, Option.bind_some, ← nI_succ]
    exact ih (i + 1) m (by omega) (by omega) (by omega)
theorem tp_go10 {p t a : Nat} (hF : ∀ j, j < 241 → A 48 j = nI (F j)) (h4 : F 4 ≤ 10) (hG : tp_G4 F) (h3 : F 3 ≤ 6) (hp : p < 10) (ht : t < 100) (t0 : 0 < t) (hz : I 4413 = 0) (ha : I 4404 = nI a) : g_X10_goesLine_L1 (nI p) A (nI t) 4096 (0 : Int32) I = some (if tp_lt F p (F 4) < t then I else tp_w10 I 7 a) := by
  have key : ∀ d i m, F 4 - i = d → d < m → i ≤ F 4 → (∀ j, j < i → ¬ (F (50 + 3 * j) = p ∧ t ≤ F (52 + 3 * j))) → g_X10_goesLine_L1 (nI p) A (nI t) m (nI i) I = some (if tp_lt F p (F 4) < t then I else tp_w10 I 7 a) := by
    intro d
    induction d with
    | zero =>
      intro i m hd hm hi hno
      obtain ⟨m, rfl⟩ : ∃ q, m = q + 1 := ⟨m - 1, by omega⟩
      rw [g_X10_goesLine_L1, tm_l_c4, Option.bind_some, hF 4 (by decide), if_pos (nI_le (by omega) (by omega)), if_pos]
      by_cases q : tp_lt F p (F 4) < t
      · exact q
      · obtain ⟨_, j, j1, j2⟩ := tp_lt_le.mp (show t ≤ tp_lt F p (F 4) ∧ 0 < t from ⟨by omega, t0⟩)
        exact absurd j2 (hno j (by omega))
    | succ d ih =>
      intro i m hd hm hi hno
      obtain ⟨m, rfl⟩ : ∃ q, m = q + 1 := ⟨m - 1, by omega⟩
      have hg := hG i (by omega)
      rw [g_X10_goesLine_L1, tm_l_c4, Option.bind_some, hF 4 (by decide), if_neg (nI_ge (by omega) (by omega)), if_pos hz, tm_l_g0 _ (by omega), Option.bind_some, tm_l_g2 _ (by omega), hF _ (by omega), hF _ (by omega), ← nI_succ]
      by_cases c1 : F (50 + 3 * i) = p
      · rw [if_pos (by rw [c1]), Option.bind_some]
        by_cases c2 : F (52 + 3 * i) < t
        · rw [if_pos (nI_lt c2 (by omega)), Option.bind_some]
          exact ih (i + 1) m (by omega) (by omega) (by omega) (fun j hj => by
            by_cases z : j = i
            · rw [z]; exact fun w => by omega
            · exact hno j (by omega))
        · rw [if_neg (nI_nlt (by omega) (by omega))]
          dsimp only [tw_let]
          have hw : g_X10_wrong I (7 : Int32) (I 4404) = tp_w10 I 7 a := by rw [ha]; exact tp_wr10 hz 7 a
          have hlt := (tp_lt_le.mpr (show 0 < t ∧ ∃ j, j < F 4 ∧ F (50 + 3 * j) = p ∧ t ≤ F (52 + 3 * j) from ⟨t0, i, by omega, c1, by omega⟩)).1
          rw [hw, Option.bind_some, if_neg (show ¬ tp_lt F p (F 4) < t by omega)]
          exact tp_goN hF h4 _ _ (tp_F10_N (tp_wr10F 7 a)) d (i + 1) m (by omega) (by omega) (by omega)
      · rw [if_neg (fun w => c1 ((nI_eq (by omega) (by omega)).mp w)), Option.bind_some]
        exact ih (i + 1) m (by omega) (by omega) (by omega) (fun j hj => by
          by_cases z : j = i
          · rw [z]; exact fun w => c1 w.1
          · exact hno j (by omega))
  exact key (F 4) 0 4096 rfl (by omega) (Nat.zero_le _) (fun j hj => absurd hj (Nat.not_lt_zero _))
theorem tp_unN (hF : ∀ j, j < 241 → A 48 j = nI (F j)) (h7 : F 7 ≤ 4) (x : Int32) (hN : ¬ I 4413 = 0) : ∀ d i m, F 7 - i = d → d < m → i ≤ F 7 → g_X10_unsureLine_L1 A x m (nI i) I = some I := by
  intro d
  induction d with
  | zero =>
    intro i m hd hm hi
    obtain ⟨m, rfl⟩ : ∃ q, m = q + 1 := ⟨m - 1, by omega⟩
    rw [g_X10_unsureLine_L1, tm_l_c7, Option.bind_some, hF 7 (by decide), if_pos (nI_le (by omega) (by omega))]
  | succ d ih =>
    intro i m hd hm hi
    obtain ⟨m, rfl⟩ : ∃ q, m = q + 1 := ⟨m - 1, by omega⟩
    rw [g_X10_unsureLine_L1, tm_l_c7, Option.bind_some, hF 7 (by decide), if_neg (nI_ge (by omega) (by omega)), if_neg hN, Option.bind_some, ← nI_succ]
    exact ih (i + 1) m (by omega) (by omega) (by omega)
theorem tp_un10 {p a : Nat} (hF : ∀ j, j < 241 → A 48 j = nI (F j)) (h7 : F 7 ≤ 4) (hG : tp_G7 F) (h3 : F 3 ≤ 6) (hp : p < 10) (hz : I 4413 = 0) (ha : I 4404 = nI a) : g_X10_unsureLine_L1 A (nI p) 4096 (0 : Int32) I = some (if tp_hu F p (F 7) = true then tp_w10 I 3 a else I) := by
  have key : ∀ d i m, F 7 - i = d → d < m → i ≤ F 7 → (∀ j, j < i → F (95 + 2 * j) ≠ p) → g_X10_unsureLine_L1 A (nI p) m (nI i) I = some (if tp_hu F p (F 7) = true then tp_w10 I 3 a else I) := by
    intro d
    induction d with
    | zero =>
      intro i m hd hm hi hno
      obtain ⟨m, rfl⟩ : ∃ q, m = q + 1 := ⟨m - 1, by omega⟩
      rw [g_X10_unsureLine_L1, tm_l_c7, Option.bind_some, hF 7 (by decide), if_pos (nI_le (by omega) (by omega)), if_neg]
      intro q
      obtain ⟨j, j1, j2⟩ := tp_hu_t.mp q
      exact hno j (by omega) j2
    | succ d ih =>
      intro i m hd hm hi hno
      obtain ⟨m, rfl⟩ : ∃ q, m = q + 1 := ⟨m - 1, by omega⟩
      have hg := hG i (by omega)
      rw [g_X10_unsureLine_L1, tm_l_c7, Option.bind_some, hF 7 (by decide), if_neg (nI_ge (by omega) (by omega)), if_pos hz, tm_l_d0 _ (by omega), Option.bind_some, hF _ (by omega), ← nI_succ]
      by_cases c1 : F (95 + 2 * i) = p
      · rw [if_pos (by rw [c1])]
        dsimp only [tw_let]
        have hw : g_X10_wrong I (3 : Int32) (I 4404) = tp_w10 I 3 a := by rw [ha]; exact tp_wr10 hz 3 a
        rw [hw, Option.bind_some, if_pos (tp_hu_t.mpr ⟨i, by omega, c1⟩)]
        exact tp_unN hF h7 _ (tp_F10_N (tp_wr10F 3 a)) d (i + 1) m (by omega) (by omega) (by omega)
      · rw [if_neg (fun w => c1 ((nI_eq (by omega) (by omega)).mp w)), Option.bind_some]
        exact ih (i + 1) m (by omega) (by omega) (by omega) (fun j hj => by
          by_cases z : j = i
          · rw [z]; exact c1
          · exact hno j (by omega))
  exact key (F 7) 0 4096 rfl (by omega) (Nat.zero_le _) (fun j hj => absurd hj (Nat.not_lt_zero _))
end
theorem tp_to_rng {c : Nat → Nat} {n e : Nat} {F : Nat → Nat} {b m v : Nat} (h : tp_to c n e F b m = .inr v) : v < m := by
  unfold tp_to at h
  split at h
  · split at h
    · cases h
      omega
    · cases h
  · cases h
theorem tp_na_q {c : Nat → Nat} {n e : Nat} {F : Nat → Nat} {u : Unit} (h : tp_na c n e F = .inr u) : tp_kd c n e = 1 ∧ tp_fd c n e F = 15 := by
  unfold tp_na at h
  split at h
  · next q =>
    split at h
    · next q2 => exact ⟨q.1, q2⟩
    · cases h
  · cases h
theorem tp_r10_1 {c : Nat → Nat} {n : Nat} {I0 : Nat → Int32} {A0 : Nat → Nat → Int32} {I : Nat → Int32} {A : Nat → Nat → Int32} {F : Nat → Nat} {e : Nat} (hT : tp_T10 c n I A e) (hQ : tp_Q10 I0 A0 I A F) (hW : tp_WF F 0 0 0) (h9 : F 9 ≠ 0) (hr1 : F 1 < 6) : ∃ I1 A1, g_X10_placeLine I A = some (I1, A1) ∧ tp_O10 c n I0 A0 (tp_L1 c n e F) I1 A1 := by
  unfold g_X10_placeLine tp_L1
  obtain ⟨a1, a2, a3, a4, a5, a6, a7, a8, a9⟩ := id hW.1
  rw [if_pos hQ.2.1]
  rw [tm_l_c1, Option.bind_some, hQ.2.2.2 1 (by decide)]
  have m1 := tp_new10 (s := F 1) hT hQ hW.2.2.2.2.2.2.2.2.1 (by omega)
  cases h1 : tp_na c n e F with
  | inl x =>
    rw [h1] at m1
    obtain ⟨I1, e1, f1, Z⟩ := m1
    have N := tp_F10_N f1
    have N : ¬ I1 4413 = 0 := N
    rw [e1, tp_b_l]
    simp only [Option.bind_some, tw_let, tp_n_pass N, tp_n_must N, tp_n_aft N, tp_n_pp N, tp_n_pla N, tp_n_per N, tp_n_num N, tp_n_nh N, tp_n_is N, tp_n_wr N, if_neg N]
    exact ⟨_, _, rfl, tp_O10_l f1 Z⟩
  | inr u =>
    rw [h1] at m1
    obtain ⟨I1, A1, e1, T1, Q1⟩ := m1
    rw [e1, Option.bind_some, tp_b_r]
    dsimp only
    have W1 := tp_WF_nf (c := c) (n := n) (e := e) (s := F 1) (d1 := 1) (d3 := 0) (d5 := 0) hW (by omega) (tp_na_q h1).1 (tp_na_q h1).2 (by omega)
    have lo : ∀ j, j < 106 → tp_nf c n e F (F 1) j = F j := fun j hj => tp_nf_lo hj
    generalize tp_nf c n e F (F 1) = G at Q1 W1 lo ⊢
    have l1 := lo 1 (by decide)
    have l3 := lo 3 (by decide)
    have l5 := lo 5 (by decide)
    rw [if_pos Q1.2.1, tm_l_c1, Option.bind_some, Q1.2.2.2 1 (by decide), ← nI_succ, tm_t_c1, Option.bind_some]
    have hA : ∀ d, d ≠ 48 → (va_up A1 48 (upd (A1 48) 1 (nI (G 1 + 1)))) d = A1 d := fun d hd => tm_vn _ hd
    exact ⟨_, _, rfl, tp_O10_r (tp_T10_w T1 hA) (tp_Q10_w Q1 hA (fun j hj => by rw [tm_vs]; exact tp_up10 Q1.2.2.2 1 (G 1 + 1) j hj))⟩
theorem tp_r10_2 {c : Nat → Nat} {n : Nat} {I0 : Nat → Int32} {A0 : Nat → Nat → Int32} {I : Nat → Int32} {A : Nat → Nat → Int32} {F : Nat → Nat} {e : Nat} (hT : tp_T10 c n I A e) (hQ : tp_Q10 I0 A0 I A F) (hW : tp_WF F 0 0 0) (h9 : F 9 ≠ 0) (hr2 : F 2 < 8) : ∃ I1 A1, g_X10_seesLine I A = some (I1, A1) ∧ tp_O10 c n I0 A0 (tp_L2 c n e F) I1 A1 := by
  unfold g_X10_seesLine tp_L2
  obtain ⟨a1, a2, a3, a4, a5, a6, a7, a8, a9⟩ := id hW.1
  rw [if_pos hQ.2.1]
  rw [tm_l_c2, Option.bind_some, hQ.2.2.2 2 (by decide)]
  have m1 := tp_pp10 hT hQ.2.1 hQ.2.2.2 hW.2.2.2.2.2.2.2.2.1
  cases h1 : tp_to c n e F 0 6 with
  | inl x =>
    rw [h1] at m1
    obtain ⟨v, m1⟩ := m1
    rw [m1, tp_b_l]
    have N : ¬ (tp_w10 I x.1 x.2) 4413 = 0 := tp_F10_N (tp_wr10F x.1 x.2)
    obtain ⟨z0, z1, z2⟩ : ∃ z0 : Int32, (if v = (0 : Int32) then some (1 : Int32) else some 0) = some z0 ∧ (z0 = 0 ∨ z0 = 1) := by by_cases q : v = (0 : Int32) <;> simp [q]
    obtain ⟨w, w1, -⟩ := tp_se10 hQ.2.2.2 a5 v (0 : Int32) z0 z2
    simp only [Option.bind_some, tw_let, tp_n_pass N, tp_n_must N, tp_n_aft N, tp_n_pp N, tp_n_pla N, tp_n_per N, tp_n_num N, tp_n_nh N, tp_n_is N, tp_n_wr N, if_neg N, z1, w1]
    exact ⟨_, _, rfl, tp_O10_l (tp_wr10F _ _) (tp_Z10_w hQ.1 _ _)⟩
  | inr p =>
    rw [h1] at m1
    obtain ⟨I1, A1, e1, T1, g1, d1⟩ := m1
    rw [e1, Option.bind_some, tp_b_r]
    dsimp only
    have p_to := tp_to_rng h1
    have Q1 := tp_Q10_of hQ g1 d1
    have m2 := tp_pla10 T1 Q1.2.1 Q1.2.2.2 hW.2.2.2.2.2.2.2.2.1
    cases h2 : tp_to c n (tp_st c n e) F 0 6 with
    | inl x =>
      rw [h2] at m2
      obtain ⟨v, m2⟩ := m2
      rw [m2, tp_b_l]
      obtain ⟨z0, z1, z2⟩ : ∃ z0 : Int32, (if nI p = v then some (1 : Int32) else some 0) = some z0 ∧ (z0 = 0 ∨ z0 = 1) := by by_cases q : nI p = v <;> simp [q]
      obtain ⟨w, w1, -⟩ := tp_se10 Q1.2.2.2 a5 (nI p) v z0 z2
      have N : ¬ (tp_w10 I1 x.1 x.2) 4413 = 0 := tp_F10_N (tp_wr10F x.1 x.2)
      simp only [Option.bind_some, tw_let, tp_n_pass N, tp_n_must N, tp_n_aft N, tp_n_pp N, tp_n_pla N, tp_n_per N, tp_n_num N, tp_n_nh N, tp_n_is N, tp_n_wr N, if_neg N, z1, w1]
      exact ⟨_, _, rfl, tp_O10_l (tp_wr10F _ _) (tp_Z10_w Q1.1 _ _)⟩
    | inr q =>
      rw [h2] at m2
      have k2 : g_X10_placeHere I1 A1 = some (nI q, I1) := m2
      rw [k2, Option.bind_some, tp_b_r]
      dsimp only
      have q_to := tp_to_rng h2
      obtain ⟨z0, z1, z2, z3⟩ : ∃ z0 : Int32, (if nI p = nI q then some (1 : Int32) else some 0) = some z0 ∧ (z0 = 0 ∨ z0 = 1) ∧ (z0 = 0 ↔ p ≠ q) := by
        by_cases r : p = q
        · exact ⟨1, by rw [if_pos (by rw [r])], Or.inr rfl, fun z => absurd z (by decide), fun z => absurd r z⟩
        · exact ⟨0, by rw [if_neg (fun z => r ((nI_eq (by omega) (by omega)).mp z))], Or.inl rfl, fun _ => r, fun _ => rfl⟩
      obtain ⟨wv, w1, w2⟩ := tp_se10 Q1.2.2.2 a5 (nI p) (nI q) z0 z2
      rw [z1, Option.bind_some, w1, Option.bind_some, if_pos Q1.2.1]
      have hx : wv = 0 ↔ ¬ (p = q ∨ tp_hs F p q (F 2) = true) := by
        rw [w2, z3]
        constructor
        · rintro ⟨y1, y2⟩ (y3 | y3)
          · exact y1 y3
          · obtain ⟨j, j1, j2, j3⟩ := tp_hs_t.mp y3
            exact y2 ⟨j, j1, by rw [j2], by rw [j3]⟩
        · intro y
          refine ⟨fun z => y (Or.inl z), fun ⟨j, j1, j2, j3⟩ => y (Or.inr (tp_hs_t.mpr ⟨j, j1, ?_, ?_⟩))⟩
          · have := hW.2.1 j j1
            exact (nI_eq (by omega) (by omega)).mp j2
          · have := hW.2.1 j j1
            exact (nI_eq (by omega) (by omega)).mp j3
      by_cases hc : p = q ∨ tp_hs F p q (F 2) = true
      · rw [if_pos hc, if_neg (fun z => (hx.mp z) hc)]
        have hw : g_X10_wrong I1 (3 : Int32) (I1 4404) = tp_w10 I1 3 (tp_at c n (tp_st c n e)) := by rw [T1.2.2.2.1]; exact tp_wr10 Q1.2.1 3 _
        dsimp only [tw_let]
        rw [hw]
        have N : ¬ (tp_w10 I1 3 (tp_at c n (tp_st c n e))) 4413 = 0 := tp_F10_N (tp_wr10F 3 _)
        simp only [Option.bind_some, tw_let, tp_n_pass N, tp_n_must N, tp_n_aft N, tp_n_pp N, tp_n_pla N, tp_n_per N, tp_n_num N, tp_n_nh N, tp_n_is N, tp_n_wr N, if_neg N]
        exact ⟨_, _, rfl, tp_O10_l (tp_wr10F _ _) (tp_Z10_w Q1.1 _ _)⟩
      · rw [if_neg hc, if_pos (hx.mpr hc), Option.bind_some]
        obtain ⟨I3, A3, e3, T3, g3, d3⟩ := tp_pass10 T1 Q1.2.1 (tp_to_kd h2)
        rw [e3, Option.bind_some]
        dsimp only
        have Q3 := tp_Q10_of Q1 g3 d3
        rw [if_pos Q3.2.1]
        rw [tm_t_s0 _ _ hr2, Option.bind_some]
        rw [tm_t_s1 _ _ hr2, Option.bind_some]
        rw [tm_l_c2, Option.bind_some, tm_un _ (by omega), tm_un _ (by omega), Q3.2.2.2 2 (by decide), ← nI_succ, tm_t_c2, Option.bind_some]
        have hA : ∀ d, d ≠ 48 → (va_up (va_up (va_up A3 48 (upd (A3 48) (10 + 2 * F 2) (nI (p)))) 48 (upd (upd (A3 48) (10 + 2 * F 2) (nI (p))) (11 + 2 * F 2) (nI (q)))) 48 (upd (upd (upd (A3 48) (10 + 2 * F 2) (nI (p))) (11 + 2 * F 2) (nI (q))) 2 (nI (F 2 + 1)))) d = A3 d := fun d hd => by rw [tm_vn _ hd, tm_vn _ hd, tm_vn _ hd]
        exact ⟨_, _, rfl, tp_O10_r (tp_T10_w T3 hA) (tp_Q10_w Q3 hA (fun j hj => by rw [tm_vs]; exact (tp_up10 (tp_up10 (tp_up10 Q3.2.2.2 (10 + 2 * F 2) (p)) (11 + 2 * F 2) (q)) 2 (F 2 + 1)) j hj))⟩
theorem tp_r10_3 {c : Nat → Nat} {n : Nat} {I0 : Nat → Int32} {A0 : Nat → Nat → Int32} {I : Nat → Int32} {A : Nat → Nat → Int32} {F : Nat → Nat} {e : Nat} (hT : tp_T10 c n I A e) (hQ : tp_Q10 I0 A0 I A F) (hW : tp_WF F 0 0 0) (h9 : F 9 ≠ 0) (hr3 : F 3 < 6) : ∃ I1 A1, g_X10_personLine I A = some (I1, A1) ∧ tp_O10 c n I0 A0 (tp_L3 c n e F) I1 A1 := by
  unfold g_X10_personLine tp_L3
  obtain ⟨a1, a2, a3, a4, a5, a6, a7, a8, a9⟩ := id hW.1
  rw [if_pos hQ.2.1]
  rw [tm_l_c3, Option.bind_some, hQ.2.2.2 3 (by decide)]
  rw [Option.bind_some, show (6 : Int32) + nI (F 3) = nI (6 + F 3) from nI_add 6 (F 3)]
  have m1 := tp_new10 (s := 6 + F 3) hT hQ hW.2.2.2.2.2.2.2.2.1 (by omega)
  cases h1 : tp_na c n e F with
  | inl x =>
    rw [h1] at m1
    obtain ⟨I1, e1, f1, Z⟩ := m1
    have N := tp_F10_N f1
    have N : ¬ I1 4413 = 0 := N
    rw [e1, tp_b_l]
    simp only [Option.bind_some, tw_let, tp_n_pass N, tp_n_must N, tp_n_aft N, tp_n_pp N, tp_n_pla N, tp_n_per N, tp_n_num N, tp_n_nh N, tp_n_is N, tp_n_wr N, if_neg N, Bool.false_eq_true, if_false, ite_self]
    exact ⟨_, _, rfl, tp_O10_l f1 Z⟩
  | inr u =>
    rw [h1] at m1
    obtain ⟨I1, A1, e1, T1, Q1⟩ := m1
    rw [e1, Option.bind_some, tp_b_r]
    dsimp only
    have W1 := tp_WF_nf (c := c) (n := n) (e := e) (s := 6 + F 3) (d1 := 0) (d3 := 1) (d5 := 0) hW (by omega) (tp_na_q h1).1 (tp_na_q h1).2 (by omega)
    have lo : ∀ j, j < 106 → tp_nf c n e F (6 + F 3) j = F j := fun j hj => tp_nf_lo hj
    generalize tp_nf c n e F (6 + F 3) = G at Q1 W1 lo ⊢
    have l1 := lo 1 (by decide)
    have l3 := lo 3 (by decide)
    have l5 := lo 5 (by decide)
    unfold tp_L3b
    rw [tp_w10_13 T1 Q1.2.1, Option.bind_some, tp_w10_4 T1 Q1.2.1, tp_w10_2 T1 Q1.2.1, tp_w10_1 T1 Q1.2.1]
    rw [Option.bind_some, Option.bind_some, Option.bind_some]
    have kk : (if tp_is c n (tp_st c n e) 13 = true then (some (0 : Int32)) else if tp_is c n (tp_st c n e) 4 = true then (some (1 : Int32)) else if tp_is c n (tp_st c n e) 2 = true then (some (2 : Int32)) else if tp_is c n (tp_st c n e) 1 = true then (some (3 : Int32)) else (some (-1 : Int32))) = some (match tp_ki c n (tp_st c n e) with | .inl _ => (-1 : Int32) | .inr k => nI k) := by
      unfold tp_ki
      by_cases g13 : tp_is c n (tp_st c n e) 13 = true
      · rw [if_pos g13, if_pos g13]
        rfl
      · rw [if_neg g13, if_neg g13]
        by_cases g4 : tp_is c n (tp_st c n e) 4 = true
        · rw [if_pos g4, if_pos g4]
          rfl
        · rw [if_neg g4, if_neg g4]
          by_cases g2 : tp_is c n (tp_st c n e) 2 = true
          · rw [if_pos g2, if_pos g2]
            rfl
          · rw [if_neg g2, if_neg g2]
            by_cases g1 : tp_is c n (tp_st c n e) 1 = true
            · rw [if_pos g1, if_pos g1]
              rfl
            · rw [if_neg g1, if_neg g1]
    rw [kk, Option.bind_some]
    cases h50 : tp_ki c n (tp_st c n e) with
    | inl x =>
      have hx : x = (1, tp_at c n (tp_st c n e)) := by
        unfold tp_ki at h50
        repeat' split at h50
        all_goals first | (cases h50; rfl) | (cases h50; done)
      subst hx
      dsimp only
      have hw : g_X10_wrong I1 (1 : Int32) (I1 4404) = tp_w10 I1 1 (tp_at c n (tp_st c n e)) := by rw [T1.2.2.2.1]; exact tp_wr10 Q1.2.1 1 _
      rw [if_neg (by decide)]
      dsimp only [tw_let]
      rw [hw, tp_b_l]
      have N : ¬ (tp_w10 I1 1 (tp_at c n (tp_st c n e))) 4413 = 0 := tp_F10_N (tp_wr10F 1 _)
      simp only [Option.bind_some, tw_let, tp_n_pass N, tp_n_must N, tp_n_aft N, tp_n_pp N, tp_n_pla N, tp_n_per N, tp_n_num N, tp_n_nh N, tp_n_is N, tp_n_wr N, if_neg N]
      exact ⟨_, _, rfl, tp_O10_l (tp_wr10F _ _) (tp_Z10_w Q1.1 _ _)⟩
    | inr k =>
      have hk : k ≤ 3 ∧ tp_kd c n (tp_st c n e) ≠ 4 := by
        have z : ∀ i, tp_is c n (tp_st c n e) i = true → tp_kd c n (tp_st c n e) ≠ 4 := fun i h => by have := (of_decide_eq_true h).1; omega
        unfold tp_ki at h50
        repeat' split at h50
        all_goals first | (next g => cases h50; exact ⟨by decide, z _ g⟩) | (cases h50; done)
      dsimp only
      rw [if_pos (nI_pos' (by omega)), Option.bind_some, tp_b_r]
      obtain ⟨I2, A2, e2, T2, g2, d2⟩ := tp_pass10 T1 Q1.2.1 hk.2
      rw [e2, Option.bind_some]
      dsimp only
      have Q2 := tp_Q10_of Q1 g2 d2
      have m3 := tp_must10 (i := 0) T2 Q2.2.1 (by decide) rfl
      cases h3 : tp_wo c n (tp_st c n (tp_st c n e)) 0 with
      | inl x =>
        rw [h3] at m3
        have k3 : g_X10_must I2 A2 1000 = some (tp_w10 I2 x.1 x.2, A2) := m3
        rw [k3, tp_b_l]
        have N : ¬ (tp_w10 I2 x.1 x.2) 4413 = 0 := tp_F10_N (tp_wr10F x.1 x.2)
        simp only [Option.bind_some, tw_let, tp_n_pass N, tp_n_must N, tp_n_aft N, tp_n_pp N, tp_n_pla N, tp_n_per N, tp_n_num N, tp_n_nh N, tp_n_is N, tp_n_wr N, if_neg N]
        exact ⟨_, _, rfl, tp_O10_l (tp_wr10F _ _) (tp_Z10_w Q2.1 _ _)⟩
      | inr u =>
        rw [h3] at m3
        obtain ⟨I3, A3, e3, T3, g3, d3⟩ := m3
        rw [show g_X10_must I2 A2 1000 = _ from e3, Option.bind_some, tp_b_r]
        dsimp only
        have Q3 := tp_Q10_of Q2 g3 d3
        have m4 := tp_pp10 T3 Q3.2.1 Q3.2.2.2 W1.2.2.2.2.2.2.2.2.1
        cases h4 : tp_to c n (tp_st c n (tp_st c n (tp_st c n e))) G 0 6 with
        | inl x =>
          rw [h4] at m4
          obtain ⟨v, m4⟩ := m4
          rw [m4, tp_b_l]
          have N : ¬ (tp_w10 I3 x.1 x.2) 4413 = 0 := tp_F10_N (tp_wr10F x.1 x.2)
          simp only [Option.bind_some, tw_let, tp_n_pass N, tp_n_must N, tp_n_aft N, tp_n_pp N, tp_n_pla N, tp_n_per N, tp_n_num N, tp_n_nh N, tp_n_is N, tp_n_wr N, if_neg N]
          exact ⟨_, _, rfl, tp_O10_l (tp_wr10F _ _) (tp_Z10_w Q3.1 _ _)⟩
        | inr p =>
          rw [h4] at m4
          obtain ⟨I4, A4, e4, T4, g4, d4⟩ := m4
          rw [e4, Option.bind_some, tp_b_r]
          dsimp only
          have p_to := tp_to_rng h4
          have Q4 := tp_Q10_of Q3 g4 d4
          rw [tp_af_b]
          have m5 := tp_aft10 (i := 18) (lo := 0) (hi := 9) T4 Q4.2.1 (by decide) rfl (by decide) (by decide)
          cases h5 : tp_af c n (tp_st c n (tp_st c n (tp_st c n (tp_st c n e)))) 18 0 9 with
          | inl x =>
            rw [h5] at m5
            obtain ⟨v, I5, A5, e5, f5, g5, d5⟩ := m5
            have N := tp_F10_N f5
            have N : ¬ I5 4413 = 0 := N
            have Z : tp_Z10 I0 A0 I5 A5 := ⟨fun k hk hk2 => (g5 k hk).trans (Q4.1.1 k hk hk2), fun d q1 q2 => (d5 d q1).trans (Q4.1.2 d q1 q2)⟩
            rw [show g_X10_after I4 A4 1018 (0 : Int32) (9 : Int32) = _ from e5, tp_b_l]
            simp only [Option.bind_some, tw_let, tp_n_pass N, tp_n_must N, tp_n_aft N, tp_n_pp N, tp_n_pla N, tp_n_per N, tp_n_num N, tp_n_nh N, tp_n_is N, tp_n_wr N, if_neg N]
            exact ⟨_, _, rfl, tp_O10_l f5 Z⟩
          | inr v =>
            rw [h5] at m5
            obtain ⟨I5, A5, e5, T5, g5, d5⟩ := m5
            rw [show g_X10_after I4 A4 1018 (0 : Int32) (9 : Int32) = _ from e5, Option.bind_some, tp_b_r]
            dsimp only
            have Q5 := tp_Q10_of Q4 g5 d5
            have hr3g : G 3 < 6 := by omega
            rw [← l3]
            rw [if_pos Q5.2.1]
            rw [tm_t_p0 _ _ hr3g, Option.bind_some]
            rw [tm_t_p1 _ _ hr3g, Option.bind_some]
            rw [tm_t_p2 _ _ hr3g, Option.bind_some]
            rw [tm_l_c3, Option.bind_some, tm_un _ (by omega), tm_un _ (by omega), tm_un _ (by omega), Q5.2.2.2 3 (by decide), ← nI_succ, tm_t_c3, Option.bind_some]
            have hA : ∀ d, d ≠ 48 → (va_up (va_up (va_up (va_up A5 48 (upd (A5 48) (26 + 4 * G 3) (nI (k)))) 48 (upd (upd (A5 48) (26 + 4 * G 3) (nI (k))) (27 + 4 * G 3) (nI (p)))) 48 (upd (upd (upd (A5 48) (26 + 4 * G 3) (nI (k))) (27 + 4 * G 3) (nI (p))) (28 + 4 * G 3) (nI (v)))) 48 (upd (upd (upd (upd (A5 48) (26 + 4 * G 3) (nI (k))) (27 + 4 * G 3) (nI (p))) (28 + 4 * G 3) (nI (v))) 3 (nI (G 3 + 1)))) d = A5 d := fun d hd => by rw [tm_vn _ hd, tm_vn _ hd, tm_vn _ hd, tm_vn _ hd]
            exact ⟨_, _, rfl, tp_O10_r (tp_T10_w T5 hA) (tp_Q10_w Q5 hA (fun j hj => by rw [tm_vs]; exact (tp_up10 (tp_up10 (tp_up10 (tp_up10 Q5.2.2.2 (26 + 4 * G 3) (k)) (27 + 4 * G 3) (p)) (28 + 4 * G 3) (v)) 3 (G 3 + 1)) j hj))⟩
theorem tp_r10_4 {c : Nat → Nat} {n : Nat} {I0 : Nat → Int32} {A0 : Nat → Nat → Int32} {I : Nat → Int32} {A : Nat → Nat → Int32} {F : Nat → Nat} {e : Nat} (hT : tp_T10 c n I A e) (hQ : tp_Q10 I0 A0 I A F) (hW : tp_WF F 0 0 0) (h9 : F 9 ≠ 0) (hr4 : F 4 < 10) : ∃ I1 A1, g_X10_goesLine I A = some (I1, A1) ∧ tp_O10 c n I0 A0 (tp_L4 c n e F) I1 A1 := by
  unfold g_X10_goesLine tp_L4
  obtain ⟨a1, a2, a3, a4, a5, a6, a7, a8, a9⟩ := id hW.1
  rw [if_pos hQ.2.1]
  rw [tm_l_c4, Option.bind_some, hQ.2.2.2 4 (by decide)]
  have m1 := tp_per10 hT hQ.2.1 hQ.2.2.2 hW.2.2.2.2.2.2.2.2.1
  cases h1 : tp_to c n e F 6 6 with
  | inl x =>
    rw [h1] at m1
    obtain ⟨v, m1⟩ := m1
    rw [m1, tp_b_l]
    have N : ¬ (tp_w10 I x.1 x.2) 4413 = 0 := tp_F10_N (tp_wr10F x.1 x.2)
    have gl : g_X10_goesLine_L1 v A (1 : Int32) 4096 (0 : Int32) (tp_w10 I x.1 x.2) = some (tp_w10 I x.1 x.2) := tp_goN hQ.2.2.2 a7 _ _ N (F 4) 0 4096 rfl (by omega) (Nat.zero_le _)
    simp only [Option.bind_some, tw_let, tp_n_pass N, tp_n_must N, tp_n_aft N, tp_n_pp N, tp_n_pla N, tp_n_per N, tp_n_num N, tp_n_nh N, tp_n_is N, tp_n_wr N, if_neg N, gl]
    exact ⟨_, _, rfl, tp_O10_l (tp_wr10F _ _) (tp_Z10_w hQ.1 _ _)⟩
  | inr m =>
    rw [h1] at m1
    have k1 : g_X10_personHere I A = some (nI m, I) := m1
    rw [k1, Option.bind_some, tp_b_r]
    dsimp only
    have m_to := tp_to_rng h1
    obtain ⟨I2, A2, e2, T2, g2, d2⟩ := tp_pass10 hT hQ.2.1 (tp_to_kd h1)
    rw [e2, Option.bind_some]
    dsimp only
    have Q2 := tp_Q10_of hQ g2 d2
    have m3 := tp_pp10 T2 Q2.2.1 Q2.2.2.2 hW.2.2.2.2.2.2.2.2.1
    cases h3 : tp_to c n (tp_st c n e) F 0 6 with
    | inl x =>
      rw [h3] at m3
      obtain ⟨v, m3⟩ := m3
      rw [m3, tp_b_l]
      have N : ¬ (tp_w10 I2 x.1 x.2) 4413 = 0 := tp_F10_N (tp_wr10F x.1 x.2)
      have gl : g_X10_goesLine_L1 (nI m) A2 (1 : Int32) 4096 (0 : Int32) (tp_w10 I2 x.1 x.2) = some (tp_w10 I2 x.1 x.2) := tp_goN Q2.2.2.2 a7 _ _ N (F 4) 0 4096 rfl (by omega) (Nat.zero_le _)
      simp only [Option.bind_some, tw_let, tp_n_pass N, tp_n_must N, tp_n_aft N, tp_n_pp N, tp_n_pla N, tp_n_per N, tp_n_num N, tp_n_nh N, tp_n_is N, tp_n_wr N, if_neg N, gl]
      exact ⟨_, _, rfl, tp_O10_l (tp_wr10F _ _) (tp_Z10_w Q2.1 _ _)⟩
    | inr p =>
      rw [h3] at m3
      obtain ⟨I3, A3, e3, T3, g3, d3⟩ := m3
      rw [e3, Option.bind_some, tp_b_r]
      dsimp only
      have p_to := tp_to_rng h3
      have Q3 := tp_Q10_of Q2 g3 d3
      have m4 := tp_must10 (i := 0) T3 Q3.2.1 (by decide) rfl
      cases h4 : tp_wo c n (tp_st c n (tp_st c n e)) 0 with
      | inl x =>
        rw [h4] at m4
        have k4 : g_X10_must I3 A3 1000 = some (tp_w10 I3 x.1 x.2, A3) := m4
        rw [k4, tp_b_l]
        have N : ¬ (tp_w10 I3 x.1 x.2) 4413 = 0 := tp_F10_N (tp_wr10F x.1 x.2)
        have gl : g_X10_goesLine_L1 (nI m) A3 (1 : Int32) 4096 (0 : Int32) (tp_w10 I3 x.1 x.2) = some (tp_w10 I3 x.1 x.2) := tp_goN Q3.2.2.2 a7 _ _ N (F 4) 0 4096 rfl (by omega) (Nat.zero_le _)
        simp only [Option.bind_some, tw_let, tp_n_pass N, tp_n_must N, tp_n_aft N, tp_n_pp N, tp_n_pla N, tp_n_per N, tp_n_num N, tp_n_nh N, tp_n_is N, tp_n_wr N, if_neg N, gl]
        exact ⟨_, _, rfl, tp_O10_l (tp_wr10F _ _) (tp_Z10_w Q3.1 _ _)⟩
      | inr u =>
        rw [h4] at m4
        obtain ⟨I4, A4, e4, T4, g4, d4⟩ := m4
        rw [show g_X10_must I3 A3 1000 = _ from e4, Option.bind_some, tp_b_r]
        dsimp only
        have Q4 := tp_Q10_of Q3 g4 d4
        have m5 := tp_nh10 (lo := 1) (hi := 59) T4 Q4.2.1 (by decide) (by decide)
        cases h5 : tp_wh c n (tp_st c n (tp_st c n (tp_st c n e))) 1 59 with
        | inl x =>
          rw [h5] at m5
          have k5 : g_X10_numberHere I4 (1 : Int32) (59 : Int32) = ((1 : Int32), tp_w10 I4 x.1 x.2) := m5
          dsimp only [tw_let]
          rw [k5, tp_b_l]
          have N : ¬ (tp_w10 I4 x.1 x.2) 4413 = 0 := tp_F10_N (tp_wr10F x.1 x.2)
          have gl : g_X10_goesLine_L1 (nI m) A4 (1 : Int32) 4096 (0 : Int32) (tp_w10 I4 x.1 x.2) = some (tp_w10 I4 x.1 x.2) := tp_goN Q4.2.2.2 a7 _ _ N (F 4) 0 4096 rfl (by omega) (Nat.zero_le _)
          simp only [Option.bind_some, tw_let, tp_n_pass N, tp_n_must N, tp_n_aft N, tp_n_pp N, tp_n_pla N, tp_n_per N, tp_n_num N, tp_n_nh N, tp_n_is N, tp_n_wr N, if_neg N, gl]
          exact ⟨_, _, rfl, tp_O10_l (tp_wr10F _ _) (tp_Z10_w Q4.1 _ _)⟩
        | inr t =>
          rw [h5] at m5
          have k5 : g_X10_numberHere I4 (1 : Int32) (59 : Int32) = (nI t, I4) := m5
          dsimp only [tw_let]
          rw [k5, tp_b_r]
          dsimp only
          have tb := tp_wh_kd h5
          rw [tp_go10 Q4.2.2.2 a7 hW.2.2.2.1 a6 (by omega) (by omega) (by omega) Q4.2.1 T4.2.2.2.1, Option.bind_some]
          by_cases hc : tp_lt F m (F 4) < t
          · rw [if_pos hc, if_pos hc]
            obtain ⟨I6, A6, e6, T6, g6, d6⟩ := tp_pass10 T4 Q4.2.1 tb.1
            rw [e6, Option.bind_some]
            dsimp only
            have Q6 := tp_Q10_of Q4 g6 d6
            rw [if_pos Q6.2.1]
            rw [tm_t_g0 _ _ hr4, Option.bind_some]
            rw [tm_t_g1 _ _ hr4, Option.bind_some]
            rw [tm_t_g2 _ _ hr4, Option.bind_some]
            rw [tm_l_c4, Option.bind_some, tm_un _ (by omega), tm_un _ (by omega), tm_un _ (by omega), Q6.2.2.2 4 (by decide), ← nI_succ, tm_t_c4, Option.bind_some]
            have hA : ∀ d, d ≠ 48 → (va_up (va_up (va_up (va_up A6 48 (upd (A6 48) (50 + 3 * F 4) (nI (m)))) 48 (upd (upd (A6 48) (50 + 3 * F 4) (nI (m))) (51 + 3 * F 4) (nI (p)))) 48 (upd (upd (upd (A6 48) (50 + 3 * F 4) (nI (m))) (51 + 3 * F 4) (nI (p))) (52 + 3 * F 4) (nI (t)))) 48 (upd (upd (upd (upd (A6 48) (50 + 3 * F 4) (nI (m))) (51 + 3 * F 4) (nI (p))) (52 + 3 * F 4) (nI (t))) 4 (nI (F 4 + 1)))) d = A6 d := fun d hd => by rw [tm_vn _ hd, tm_vn _ hd, tm_vn _ hd, tm_vn _ hd]
            exact ⟨_, _, rfl, tp_O10_r (tp_T10_w T6 hA) (tp_Q10_w Q6 hA (fun j hj => by rw [tm_vs]; exact (tp_up10 (tp_up10 (tp_up10 (tp_up10 Q6.2.2.2 (50 + 3 * F 4) (m)) (51 + 3 * F 4) (p)) (52 + 3 * F 4) (t)) 4 (F 4 + 1)) j hj))⟩
          · rw [if_neg hc, if_neg hc]
            have N : ¬ (tp_w10 I4 7 (tp_at c n (tp_st c n (tp_st c n (tp_st c n e))))) 4413 = 0 := tp_F10_N (tp_wr10F 7 _)
            simp only [Option.bind_some, tw_let, tp_n_pass N, tp_n_must N, tp_n_aft N, tp_n_pp N, tp_n_pla N, tp_n_per N, tp_n_num N, tp_n_nh N, tp_n_is N, tp_n_wr N, if_neg N]
            exact ⟨_, _, rfl, tp_O10_l (tp_wr10F _ _) (tp_Z10_w Q4.1 _ _)⟩
theorem tp_r10_5 {c : Nat → Nat} {n : Nat} {I0 : Nat → Int32} {A0 : Nat → Nat → Int32} {I : Nat → Int32} {A : Nat → Nat → Int32} {F : Nat → Nat} {e : Nat} (hT : tp_T10 c n I A e) (hQ : tp_Q10 I0 A0 I A F) (hW : tp_WF F 0 0 0) (h9 : F 9 ≠ 0) (hr5 : F 5 < 3) : ∃ I1 A1, g_X10_quarrelLine I A = some (I1, A1) ∧ tp_O10 c n I0 A0 (tp_L5 c n e F) I1 A1 := by
  unfold g_X10_quarrelLine tp_L5
  obtain ⟨a1, a2, a3, a4, a5, a6, a7, a8, a9⟩ := id hW.1
  rw [if_pos hQ.2.1]
  rw [tm_l_c5, Option.bind_some, hQ.2.2.2 5 (by decide)]
  rw [Option.bind_some, show (12 : Int32) + nI (F 5) = nI (12 + F 5) from nI_add 12 (F 5)]
  have m1 := tp_new10 (s := 12 + F 5) hT hQ hW.2.2.2.2.2.2.2.2.1 (by omega)
  cases h1 : tp_na c n e F with
  | inl x =>
    rw [h1] at m1
    obtain ⟨I1, e1, f1, Z⟩ := m1
    have N := tp_F10_N f1
    have N : ¬ I1 4413 = 0 := N
    rw [e1, tp_b_l]
    simp only [Option.bind_some, tw_let, tp_n_pass N, tp_n_must N, tp_n_aft N, tp_n_pp N, tp_n_pla N, tp_n_per N, tp_n_num N, tp_n_nh N, tp_n_is N, tp_n_wr N, if_neg N]
    exact ⟨_, _, rfl, tp_O10_l f1 Z⟩
  | inr u =>
    rw [h1] at m1
    obtain ⟨I1, A1, e1, T1, Q1⟩ := m1
    rw [e1, Option.bind_some, tp_b_r]
    dsimp only
    have W1 := tp_WF_nf (c := c) (n := n) (e := e) (s := 12 + F 5) (d1 := 0) (d3 := 0) (d5 := 1) hW (by omega) (tp_na_q h1).1 (tp_na_q h1).2 (by omega)
    have lo : ∀ j, j < 106 → tp_nf c n e F (12 + F 5) j = F j := fun j hj => tp_nf_lo hj
    generalize tp_nf c n e F (12 + F 5) = G at Q1 W1 lo ⊢
    have l1 := lo 1 (by decide)
    have l3 := lo 3 (by decide)
    have l5 := lo 5 (by decide)
    unfold tp_L5b
    have m2 := tp_per10 T1 Q1.2.1 Q1.2.2.2 W1.2.2.2.2.2.2.2.2.1
    cases h2 : tp_to c n (tp_st c n e) G 6 6 with
    | inl x =>
      rw [h2] at m2
      obtain ⟨v, m2⟩ := m2
      rw [m2, tp_b_l]
      have N : ¬ (tp_w10 I1 x.1 x.2) 4413 = 0 := tp_F10_N (tp_wr10F x.1 x.2)
      simp only [Option.bind_some, tw_let, tp_n_pass N, tp_n_must N, tp_n_aft N, tp_n_pp N, tp_n_pla N, tp_n_per N, tp_n_num N, tp_n_nh N, tp_n_is N, tp_n_wr N, if_neg N]
      exact ⟨_, _, rfl, tp_O10_l (tp_wr10F _ _) (tp_Z10_w Q1.1 _ _)⟩
    | inr a =>
      rw [h2] at m2
      have k2 : g_X10_personHere I1 A1 = some (nI a, I1) := m2
      rw [k2, Option.bind_some, tp_b_r]
      dsimp only
      have a_to := tp_to_rng h2
      obtain ⟨I3, A3, e3, T3, g3, d3⟩ := tp_pass10 T1 Q1.2.1 (tp_to_kd h2)
      rw [e3, Option.bind_some]
      dsimp only
      have Q3 := tp_Q10_of Q1 g3 d3
      have m4 := tp_per10 T3 Q3.2.1 Q3.2.2.2 W1.2.2.2.2.2.2.2.2.1
      cases h4 : tp_to c n (tp_st c n (tp_st c n e)) G 6 6 with
      | inl x =>
        rw [h4] at m4
        obtain ⟨v, m4⟩ := m4
        rw [m4, tp_b_l]
        have N : ¬ (tp_w10 I3 x.1 x.2) 4413 = 0 := tp_F10_N (tp_wr10F x.1 x.2)
        simp only [Option.bind_some, tw_let, tp_n_pass N, tp_n_must N, tp_n_aft N, tp_n_pp N, tp_n_pla N, tp_n_per N, tp_n_num N, tp_n_nh N, tp_n_is N, tp_n_wr N, if_neg N]
        exact ⟨_, _, rfl, tp_O10_l (tp_wr10F _ _) (tp_Z10_w Q3.1 _ _)⟩
      | inr b =>
        rw [h4] at m4
        have k4 : g_X10_personHere I3 A3 = some (nI b, I3) := m4
        rw [k4, Option.bind_some, tp_b_r]
        dsimp only
        have b_to := tp_to_rng h4
        rw [if_pos Q3.2.1]
        by_cases hc : a = b
        · rw [if_pos hc, if_pos (by rw [hc])]
          have hw : g_X10_wrong I3 (3 : Int32) (I3 4404) = tp_w10 I3 3 (tp_at c n (tp_st c n (tp_st c n e))) := by rw [T3.2.2.2.1]; exact tp_wr10 Q3.2.1 3 _
          dsimp only [tw_let]
          rw [hw]
          have N : ¬ (tp_w10 I3 3 (tp_at c n (tp_st c n (tp_st c n e)))) 4413 = 0 := tp_F10_N (tp_wr10F 3 _)
          simp only [Option.bind_some, tw_let, tp_n_pass N, tp_n_must N, tp_n_aft N, tp_n_pp N, tp_n_pla N, tp_n_per N, tp_n_num N, tp_n_nh N, tp_n_is N, tp_n_wr N, if_neg N]
          exact ⟨_, _, rfl, tp_O10_l (tp_wr10F _ _) (tp_Z10_w Q3.1 _ _)⟩
        · rw [if_neg hc, if_neg (fun z => hc ((nI_eq (by omega) (by omega)).mp z)), Option.bind_some]
          unfold tp_L5c
          obtain ⟨I5, A5, e5, T5, g5, d5⟩ := tp_pass10 T3 Q3.2.1 (tp_to_kd h4)
          rw [e5, Option.bind_some]
          dsimp only
          have Q5 := tp_Q10_of Q3 g5 d5
          have m6 := tp_must10 (i := 0) T5 Q5.2.1 (by decide) rfl
          cases h6 : tp_wo c n (tp_st c n (tp_st c n (tp_st c n e))) 0 with
          | inl x =>
            rw [h6] at m6
            have k6 : g_X10_must I5 A5 1000 = some (tp_w10 I5 x.1 x.2, A5) := m6
            rw [k6, tp_b_l]
            have N : ¬ (tp_w10 I5 x.1 x.2) 4413 = 0 := tp_F10_N (tp_wr10F x.1 x.2)
            simp only [Option.bind_some, tw_let, tp_n_pass N, tp_n_must N, tp_n_aft N, tp_n_pp N, tp_n_pla N, tp_n_per N, tp_n_num N, tp_n_nh N, tp_n_is N, tp_n_wr N, if_neg N]
            exact ⟨_, _, rfl, tp_O10_l (tp_wr10F _ _) (tp_Z10_w Q5.1 _ _)⟩
          | inr u =>
            rw [h6] at m6
            obtain ⟨I6, A6, e6, T6, g6, d6⟩ := m6
            rw [show g_X10_must I5 A5 1000 = _ from e6, Option.bind_some, tp_b_r]
            dsimp only
            have Q6 := tp_Q10_of Q5 g6 d6
            have m7 := tp_pp10 T6 Q6.2.1 Q6.2.2.2 W1.2.2.2.2.2.2.2.2.1
            cases h7 : tp_to c n (tp_st c n (tp_st c n (tp_st c n (tp_st c n e)))) G 0 6 with
            | inl x =>
              rw [h7] at m7
              obtain ⟨v, m7⟩ := m7
              rw [m7, tp_b_l]
              have N : ¬ (tp_w10 I6 x.1 x.2) 4413 = 0 := tp_F10_N (tp_wr10F x.1 x.2)
              simp only [Option.bind_some, tw_let, tp_n_pass N, tp_n_must N, tp_n_aft N, tp_n_pp N, tp_n_pla N, tp_n_per N, tp_n_num N, tp_n_nh N, tp_n_is N, tp_n_wr N, if_neg N]
              exact ⟨_, _, rfl, tp_O10_l (tp_wr10F _ _) (tp_Z10_w Q6.1 _ _)⟩
            | inr p =>
              rw [h7] at m7
              obtain ⟨I7, A7, e7, T7, g7, d7⟩ := m7
              rw [e7, Option.bind_some, tp_b_r]
              dsimp only
              have p_to := tp_to_rng h7
              have Q7 := tp_Q10_of Q6 g7 d7
              rw [tp_af_b]
              have m8 := tp_aft10 (i := 7) (lo := 0) (hi := 59) T7 Q7.2.1 (by decide) rfl (by decide) (by decide)
              cases h8 : tp_af c n (tp_st c n (tp_st c n (tp_st c n (tp_st c n (tp_st c n e))))) 7 0 59 with
              | inl x =>
                rw [h8] at m8
                obtain ⟨v, I8, A8, e8, f8, g8, d8⟩ := m8
                have N := tp_F10_N f8
                have N : ¬ I8 4413 = 0 := N
                have Z : tp_Z10 I0 A0 I8 A8 := ⟨fun k hk hk2 => (g8 k hk).trans (Q7.1.1 k hk hk2), fun d q1 q2 => (d8 d q1).trans (Q7.1.2 d q1 q2)⟩
                rw [show g_X10_after I7 A7 1007 (0 : Int32) (59 : Int32) = _ from e8, tp_b_l]
                simp only [Option.bind_some, tw_let, tp_n_pass N, tp_n_must N, tp_n_aft N, tp_n_pp N, tp_n_pla N, tp_n_per N, tp_n_num N, tp_n_nh N, tp_n_is N, tp_n_wr N, if_neg N]
                exact ⟨_, _, rfl, tp_O10_l f8 Z⟩
              | inr f =>
                rw [h8] at m8
                obtain ⟨I8, A8, e8, T8, g8, d8⟩ := m8
                rw [show g_X10_after I7 A7 1007 (0 : Int32) (59 : Int32) = _ from e8, Option.bind_some, tp_b_r]
                dsimp only
                have Q8 := tp_Q10_of Q7 g8 d8
                rw [tp_af_b]
                have m9 := tp_aft10 (i := 10) (lo := 1) (hi := 99) T8 Q8.2.1 (by decide) rfl (by decide) (by decide)
                cases h9 : tp_af c n (tp_st c n (tp_st c n (tp_st c n (tp_st c n (tp_st c n (tp_st c n (tp_st c n e))))))) 10 1 99 with
                | inl x =>
                  rw [h9] at m9
                  obtain ⟨v, I9, A9, e9, f9, g9, d9⟩ := m9
                  have N := tp_F10_N f9
                  have N : ¬ I9 4413 = 0 := N
                  have Z : tp_Z10 I0 A0 I9 A9 := ⟨fun k hk hk2 => (g9 k hk).trans (Q8.1.1 k hk hk2), fun d q1 q2 => (d9 d q1).trans (Q8.1.2 d q1 q2)⟩
                  rw [show g_X10_after I8 A8 1010 (1 : Int32) (99 : Int32) = _ from e9, tp_b_l]
                  simp only [Option.bind_some, tw_let, tp_n_pass N, tp_n_must N, tp_n_aft N, tp_n_pp N, tp_n_pla N, tp_n_per N, tp_n_num N, tp_n_nh N, tp_n_is N, tp_n_wr N, if_neg N]
                  exact ⟨_, _, rfl, tp_O10_l f9 Z⟩
                | inr v =>
                  rw [h9] at m9
                  obtain ⟨I9, A9, e9, T9, g9, d9⟩ := m9
                  rw [show g_X10_after I8 A8 1010 (1 : Int32) (99 : Int32) = _ from e9, Option.bind_some, tp_b_r]
                  dsimp only
                  have Q9 := tp_Q10_of Q8 g9 d9
                  have hr5g : G 5 < 3 := by omega
                  rw [← l5]
                  rw [if_pos Q9.2.1]
                  rw [tm_t_q0 _ _ hr5g, Option.bind_some]
                  rw [tm_t_q1 _ _ hr5g, Option.bind_some]
                  rw [tm_t_q2 _ _ hr5g, Option.bind_some]
                  rw [tm_t_q3 _ _ hr5g, Option.bind_some]
                  rw [tm_t_q4 _ _ hr5g, Option.bind_some]
                  rw [tm_l_c5, Option.bind_some, tm_un _ (by omega), tm_un _ (by omega), tm_un _ (by omega), tm_un _ (by omega), tm_un _ (by omega), Q9.2.2.2 5 (by decide), ← nI_succ, tm_t_c5, Option.bind_some]
                  have hA : ∀ d, d ≠ 48 → (va_up (va_up (va_up (va_up (va_up (va_up A9 48 (upd (A9 48) (80 + 5 * G 5) (nI (a)))) 48 (upd (upd (A9 48) (80 + 5 * G 5) (nI (a))) (81 + 5 * G 5) (nI (b)))) 48 (upd (upd (upd (A9 48) (80 + 5 * G 5) (nI (a))) (81 + 5 * G 5) (nI (b))) (82 + 5 * G 5) (nI (p)))) 48 (upd (upd (upd (upd (A9 48) (80 + 5 * G 5) (nI (a))) (81 + 5 * G 5) (nI (b))) (82 + 5 * G 5) (nI (p))) (83 + 5 * G 5) (nI (f)))) 48 (upd (upd (upd (upd (upd (A9 48) (80 + 5 * G 5) (nI (a))) (81 + 5 * G 5) (nI (b))) (82 + 5 * G 5) (nI (p))) (83 + 5 * G 5) (nI (f))) (84 + 5 * G 5) (nI (v)))) 48 (upd (upd (upd (upd (upd (upd (A9 48) (80 + 5 * G 5) (nI (a))) (81 + 5 * G 5) (nI (b))) (82 + 5 * G 5) (nI (p))) (83 + 5 * G 5) (nI (f))) (84 + 5 * G 5) (nI (v))) 5 (nI (G 5 + 1)))) d = A9 d := fun d hd => by rw [tm_vn _ hd, tm_vn _ hd, tm_vn _ hd, tm_vn _ hd, tm_vn _ hd, tm_vn _ hd]
                  exact ⟨_, _, rfl, tp_O10_r (tp_T10_w T9 hA) (tp_Q10_w Q9 hA (fun j hj => by rw [tm_vs]; exact (tp_up10 (tp_up10 (tp_up10 (tp_up10 (tp_up10 (tp_up10 Q9.2.2.2 (80 + 5 * G 5) (a)) (81 + 5 * G 5) (b)) (82 + 5 * G 5) (p)) (83 + 5 * G 5) (f)) (84 + 5 * G 5) (v)) 5 (G 5 + 1)) j hj))⟩
theorem tp_r10_6 {c : Nat → Nat} {n : Nat} {I0 : Nat → Int32} {A0 : Nat → Nat → Int32} {I : Nat → Int32} {A : Nat → Nat → Int32} {F : Nat → Nat} {e : Nat} (hT : tp_T10 c n I A e) (hQ : tp_Q10 I0 A0 I A F) (hW : tp_WF F 0 0 0) (h9 : F 9 ≠ 0) : ∃ I1 A1, g_X10_hireLine I A = some (I1, A1) ∧ tp_O10 c n I0 A0 (tp_L6 c n e F) I1 A1 := by
  unfold g_X10_hireLine tp_L6
  obtain ⟨a1, a2, a3, a4, a5, a6, a7, a8, a9⟩ := id hW.1
  have m1 := tp_per10 hT hQ.2.1 hQ.2.2.2 hW.2.2.2.2.2.2.2.2.1
  cases h1 : tp_to c n e F 6 6 with
  | inl x =>
    rw [h1] at m1
    obtain ⟨v, m1⟩ := m1
    rw [m1, tp_b_l]
    have N : ¬ (tp_w10 I x.1 x.2) 4413 = 0 := tp_F10_N (tp_wr10F x.1 x.2)
    simp only [Option.bind_some, tw_let, tp_n_pass N, tp_n_must N, tp_n_aft N, tp_n_pp N, tp_n_pla N, tp_n_per N, tp_n_num N, tp_n_nh N, tp_n_is N, tp_n_wr N, if_neg N]
    exact ⟨_, _, rfl, tp_O10_l (tp_wr10F _ _) (tp_Z10_w hQ.1 _ _)⟩
  | inr m =>
    rw [h1] at m1
    have k1 : g_X10_personHere I A = some (nI m, I) := m1
    rw [k1, Option.bind_some, tp_b_r]
    dsimp only
    have m_to := tp_to_rng h1
    have hb := hW.2.2.2.2.2.1.1 m (by omega)
    rw [if_pos hQ.2.1, tm_l_p3 _ m_to, Option.bind_some, hQ.2.2.2 _ (by omega)]
    by_cases hc : F (29 + 4 * m) = 0
    · rw [if_pos hc, if_pos (by rw [hc]; decide), Option.bind_some]
      obtain ⟨I2, A2, e2, T2, g2, d2⟩ := tp_pass10 hT hQ.2.1 (tp_to_kd h1)
      rw [e2, Option.bind_some]
      dsimp only
      have Q2 := tp_Q10_of hQ g2 d2
      rw [tp_af_b]
      have m3 := tp_aft10 (i := 6) (lo := 0) (hi := 20) T2 Q2.2.1 (by decide) rfl (by decide) (by decide)
      cases h3 : tp_af c n (tp_st c n e) 6 0 20 with
      | inl x =>
        rw [h3] at m3
        obtain ⟨v, I3, A3, e3, f3, g3, d3⟩ := m3
        have N := tp_F10_N f3
        have N : ¬ I3 4413 = 0 := N
        have Z : tp_Z10 I0 A0 I3 A3 := ⟨fun k hk hk2 => (g3 k hk).trans (Q2.1.1 k hk hk2), fun d q1 q2 => (d3 d q1).trans (Q2.1.2 d q1 q2)⟩
        rw [show g_X10_after I2 A2 1006 (0 : Int32) (20 : Int32) = _ from e3, tp_b_l]
        simp only [Option.bind_some, tw_let, tp_n_pass N, tp_n_must N, tp_n_aft N, tp_n_pp N, tp_n_pla N, tp_n_per N, tp_n_num N, tp_n_nh N, tp_n_is N, tp_n_wr N, if_neg N]
        exact ⟨_, _, rfl, tp_O10_l f3 Z⟩
      | inr v =>
        rw [h3] at m3
        obtain ⟨I3, A3, e3, T3, g3, d3⟩ := m3
        rw [show g_X10_after I2 A2 1006 (0 : Int32) (20 : Int32) = _ from e3, Option.bind_some, tp_b_r]
        dsimp only
        have Q3 := tp_Q10_of Q2 g3 d3
        rw [if_pos Q3.2.1, ← nI_succ, tm_t_p3 _ _ m_to, Option.bind_some, tm_l_c6, Option.bind_some, tm_un _ (by omega), Q3.2.2.2 6 (by decide), ← nI_succ, tm_t_c6, Option.bind_some]
        have hA : ∀ d, d ≠ 48 → (va_up (va_up A3 48 (upd (A3 48) (29 + 4 * m) (nI (v + 1)))) 48 (upd (upd (A3 48) (29 + 4 * m) (nI (v + 1))) 6 (nI (F 6 + 1)))) d = A3 d := fun d hd => by rw [tm_vn _ hd, tm_vn _ hd]
        exact ⟨_, _, rfl, tp_O10_r (tp_T10_w T3 hA) (tp_Q10_w Q3 hA (fun j hj => by rw [tm_vs]; exact tp_up10 (tp_up10 Q3.2.2.2 (29 + 4 * m) (v + 1)) 6 (F 6 + 1) j hj))⟩
    · rw [if_neg hc, if_neg (nI_nle (by omega) (by omega))]
      have hw : g_X10_wrong I (3 : Int32) (I 4404) = tp_w10 I 3 (tp_at c n e) := by rw [hT.2.2.2.1]; exact tp_wr10 hQ.2.1 3 _
      dsimp only [tw_let]
      rw [hw]
      have N : ¬ (tp_w10 I 3 (tp_at c n e)) 4413 = 0 := tp_F10_N (tp_wr10F 3 _)
      simp only [Option.bind_some, tw_let, tp_n_pass N, tp_n_must N, tp_n_aft N, tp_n_pp N, tp_n_pla N, tp_n_per N, tp_n_num N, tp_n_nh N, tp_n_is N, tp_n_wr N, if_neg N]
      exact ⟨_, _, rfl, tp_O10_l (tp_wr10F _ _) (tp_Z10_w hQ.1 _ _)⟩
theorem tp_r10_7 {c : Nat → Nat} {n : Nat} {I0 : Nat → Int32} {A0 : Nat → Nat → Int32} {I : Nat → Int32} {A : Nat → Nat → Int32} {F : Nat → Nat} {e : Nat} (hT : tp_T10 c n I A e) (hQ : tp_Q10 I0 A0 I A F) (hW : tp_WF F 0 0 0) (h9 : F 9 ≠ 0) (hr7 : F 7 < 4) : ∃ I1 A1, g_X10_unsureLine I A = some (I1, A1) ∧ tp_O10 c n I0 A0 (tp_L7 c n e F) I1 A1 := by
  unfold g_X10_unsureLine tp_L7
  obtain ⟨a1, a2, a3, a4, a5, a6, a7, a8, a9⟩ := id hW.1
  rw [if_pos hQ.2.1]
  rw [tm_l_c7, Option.bind_some, hQ.2.2.2 7 (by decide)]
  have m1 := tp_per10 hT hQ.2.1 hQ.2.2.2 hW.2.2.2.2.2.2.2.2.1
  cases h1 : tp_to c n e F 6 6 with
  | inl x =>
    rw [h1] at m1
    obtain ⟨v, m1⟩ := m1
    rw [m1, tp_b_l]
    have N : ¬ (tp_w10 I x.1 x.2) 4413 = 0 := tp_F10_N (tp_wr10F x.1 x.2)
    have gl : g_X10_unsureLine_L1 A v 4096 (0 : Int32) (tp_w10 I x.1 x.2) = some (tp_w10 I x.1 x.2) := tp_unN hQ.2.2.2 a9 _ N (F 7) 0 4096 rfl (by omega) (Nat.zero_le _)
    simp only [Option.bind_some, tw_let, tp_n_pass N, tp_n_must N, tp_n_aft N, tp_n_pp N, tp_n_pla N, tp_n_per N, tp_n_num N, tp_n_nh N, tp_n_is N, tp_n_wr N, if_neg N, gl]
    exact ⟨_, _, rfl, tp_O10_l (tp_wr10F _ _) (tp_Z10_w hQ.1 _ _)⟩
  | inr m =>
    rw [h1] at m1
    have k1 : g_X10_personHere I A = some (nI m, I) := m1
    rw [k1, Option.bind_some, tp_b_r]
    dsimp only
    have m_to := tp_to_rng h1
    rw [tp_un10 hQ.2.2.2 a9 hW.2.2.2.2.2.2.1 a6 (by omega) hQ.2.1 hT.2.2.2.1, Option.bind_some]
    by_cases hc : tp_hu F m (F 7) = true
    · rw [if_pos hc, if_pos hc]
      have N : ¬ (tp_w10 I 3 (tp_at c n e)) 4413 = 0 := tp_F10_N (tp_wr10F 3 _)
      simp only [Option.bind_some, tw_let, tp_n_pass N, tp_n_must N, tp_n_aft N, tp_n_pp N, tp_n_pla N, tp_n_per N, tp_n_num N, tp_n_nh N, tp_n_is N, tp_n_wr N, if_neg N]
      exact ⟨_, _, rfl, tp_O10_l (tp_wr10F _ _) (tp_Z10_w hQ.1 _ _)⟩
    · rw [if_neg hc, if_neg hc]
      obtain ⟨I2, A2, e2, T2, g2, d2⟩ := tp_pass10 hT hQ.2.1 (tp_to_kd h1)
      rw [e2, Option.bind_some]
      dsimp only
      have Q2 := tp_Q10_of hQ g2 d2
      have m3 := tp_num10 (lo := 0) (hi := 9) T2 Q2.2.1 (by decide) (by decide)
      cases h3 : tp_wh c n (tp_st c n e) 0 9 with
      | inl x =>
        rw [h3] at m3
        have k3 : g_X10_number I2 A2 (0 : Int32) (9 : Int32) = some (nI 0, tp_w10 I2 x.1 x.2, A2) := m3
        rw [k3, tp_b_l]
        have N : ¬ (tp_w10 I2 x.1 x.2) 4413 = 0 := tp_F10_N (tp_wr10F x.1 x.2)
        simp only [Option.bind_some, tw_let, tp_n_pass N, tp_n_must N, tp_n_aft N, tp_n_pp N, tp_n_pla N, tp_n_per N, tp_n_num N, tp_n_nh N, tp_n_is N, tp_n_wr N, if_neg N]
        exact ⟨_, _, rfl, tp_O10_l (tp_wr10F _ _) (tp_Z10_w Q2.1 _ _)⟩
      | inr v =>
        rw [h3] at m3
        obtain ⟨I3, A3, e3, T3, g3, d3⟩ := m3
        rw [show g_X10_number I2 A2 (0 : Int32) (9 : Int32) = _ from e3, Option.bind_some, tp_b_r]
        dsimp only
        have Q3 := tp_Q10_of Q2 g3 d3
        rw [if_pos Q3.2.1]
        rw [tm_t_d0 _ _ hr7, Option.bind_some]
        rw [tm_t_d1 _ _ hr7, Option.bind_some]
        rw [tm_l_c7, Option.bind_some, tm_un _ (by omega), tm_un _ (by omega), Q3.2.2.2 7 (by decide), ← nI_succ, tm_t_c7, Option.bind_some]
        have hA : ∀ d, d ≠ 48 → (va_up (va_up (va_up A3 48 (upd (A3 48) (95 + 2 * F 7) (nI (m)))) 48 (upd (upd (A3 48) (95 + 2 * F 7) (nI (m))) (96 + 2 * F 7) (nI (v)))) 48 (upd (upd (upd (A3 48) (95 + 2 * F 7) (nI (m))) (96 + 2 * F 7) (nI (v))) 7 (nI (F 7 + 1)))) d = A3 d := fun d hd => by rw [tm_vn _ hd, tm_vn _ hd, tm_vn _ hd]
        exact ⟨_, _, rfl, tp_O10_r (tp_T10_w T3 hA) (tp_Q10_w Q3 hA (fun j hj => by rw [tm_vs]; exact (tp_up10 (tp_up10 (tp_up10 Q3.2.2.2 (95 + 2 * F 7) (m)) (96 + 2 * F 7) (v)) 7 (F 7 + 1)) j hj))⟩
theorem tp_r10_8 {c : Nat → Nat} {n : Nat} {I0 : Nat → Int32} {A0 : Nat → Nat → Int32} {I : Nat → Int32} {A : Nat → Nat → Int32} {F : Nat → Nat} {e : Nat} (hT : tp_T10 c n I A e) (hQ : tp_Q10 I0 A0 I A F) (hW : tp_WF F 0 0 0) (h9 : F 9 ≠ 0) : ∃ I1 A1, g_X10_endedLine I A = some (I1, A1) ∧ tp_O10 c n I0 A0 (tp_L8 c n e F) I1 A1 := by
  unfold g_X10_endedLine tp_L8
  obtain ⟨a1, a2, a3, a4, a5, a6, a7, a8, a9⟩ := id hW.1
  have m1 := tp_named10 hT hQ.2.1 hQ.2.2.2 hW.2.2.2.2.2.2.2.2.1 (Or.inr (Or.inr ⟨rfl, rfl, rfl⟩))
  cases h1 : tp_to c n e F 12 3 with
  | inl x =>
    rw [h1] at m1
    obtain ⟨v, m1⟩ := m1
    rw [show g_X10_named I A (12 : Int32) (14 : Int32) = _ from m1, tp_b_l]
    have N : ¬ (tp_w10 I x.1 x.2) 4413 = 0 := tp_F10_N (tp_wr10F x.1 x.2)
    simp only [Option.bind_some, tw_let, tp_n_pass N, tp_n_must N, tp_n_aft N, tp_n_pp N, tp_n_pla N, tp_n_per N, tp_n_num N, tp_n_nh N, tp_n_is N, tp_n_wr N, if_neg N]
    exact ⟨_, _, rfl, tp_O10_l (tp_wr10F _ _) (tp_Z10_w hQ.1 _ _)⟩
  | inr m =>
    rw [h1] at m1
    have k1 : g_X10_named I A (12 : Int32) (14 : Int32) = some (nI m, I) := m1
    rw [k1, Option.bind_some, tp_b_r]
    dsimp only
    have m_to := tp_to_rng h1
    have hb := hW.2.2.2.2.2.2.2.1.1 m (by omega)
    rw [if_pos hQ.2.1, tm_l_e0 _ m_to, Option.bind_some, hQ.2.2.2 _ (by omega)]
    by_cases hc : F (103 + m) = 0
    · rw [if_pos hc, if_pos (by rw [hc]; decide), Option.bind_some]
      obtain ⟨I2, A2, e2, T2, g2, d2⟩ := tp_pass10 hT hQ.2.1 (tp_to_kd h1)
      rw [e2, Option.bind_some]
      dsimp only
      have Q2 := tp_Q10_of hQ g2 d2
      rw [tp_af_b]
      have m3 := tp_aft10 (i := 0) (lo := 0) (hi := 59) T2 Q2.2.1 (by decide) rfl (by decide) (by decide)
      cases h3 : tp_af c n (tp_st c n e) 0 0 59 with
      | inl x =>
        rw [h3] at m3
        obtain ⟨v, I3, A3, e3, f3, g3, d3⟩ := m3
        have N := tp_F10_N f3
        have N : ¬ I3 4413 = 0 := N
        have Z : tp_Z10 I0 A0 I3 A3 := ⟨fun k hk hk2 => (g3 k hk).trans (Q2.1.1 k hk hk2), fun d q1 q2 => (d3 d q1).trans (Q2.1.2 d q1 q2)⟩
        rw [show g_X10_after I2 A2 1000 (0 : Int32) (59 : Int32) = _ from e3, tp_b_l]
        simp only [Option.bind_some, tw_let, tp_n_pass N, tp_n_must N, tp_n_aft N, tp_n_pp N, tp_n_pla N, tp_n_per N, tp_n_num N, tp_n_nh N, tp_n_is N, tp_n_wr N, if_neg N]
        exact ⟨_, _, rfl, tp_O10_l f3 Z⟩
      | inr v =>
        rw [h3] at m3
        obtain ⟨I3, A3, e3, T3, g3, d3⟩ := m3
        rw [show g_X10_after I2 A2 1000 (0 : Int32) (59 : Int32) = _ from e3, Option.bind_some, tp_b_r]
        dsimp only
        have Q3 := tp_Q10_of Q2 g3 d3
        rw [if_pos Q3.2.1, ← nI_succ, tm_t_e0 _ _ m_to, Option.bind_some, tm_l_c8, Option.bind_some, tm_un _ (by omega), Q3.2.2.2 8 (by decide), ← nI_succ, tm_t_c8, Option.bind_some]
        have hA : ∀ d, d ≠ 48 → (va_up (va_up A3 48 (upd (A3 48) (103 + m) (nI (v + 1)))) 48 (upd (upd (A3 48) (103 + m) (nI (v + 1))) 8 (nI (F 8 + 1)))) d = A3 d := fun d hd => by rw [tm_vn _ hd, tm_vn _ hd]
        exact ⟨_, _, rfl, tp_O10_r (tp_T10_w T3 hA) (tp_Q10_w Q3 hA (fun j hj => by rw [tm_vs]; exact tp_up10 (tp_up10 Q3.2.2.2 (103 + m) (v + 1)) 8 (F 8 + 1) j hj))⟩
    · rw [if_neg hc, if_neg (nI_nle (by omega) (by omega))]
      have hw : g_X10_wrong I (3 : Int32) (I 4404) = tp_w10 I 3 (tp_at c n e) := by rw [hT.2.2.2.1]; exact tp_wr10 hQ.2.1 3 _
      dsimp only [tw_let]
      rw [hw]
      have N : ¬ (tp_w10 I 3 (tp_at c n e)) 4413 = 0 := tp_F10_N (tp_wr10F 3 _)
      simp only [Option.bind_some, tw_let, tp_n_pass N, tp_n_must N, tp_n_aft N, tp_n_pp N, tp_n_pla N, tp_n_per N, tp_n_num N, tp_n_nh N, tp_n_is N, tp_n_wr N, if_neg N]
      exact ⟨_, _, rfl, tp_O10_l (tp_wr10F _ _) (tp_Z10_w hQ.1 _ _)⟩
theorem tp_r10_0 {c : Nat → Nat} {n : Nat} {I0 : Nat → Int32} {A0 : Nat → Nat → Int32} {I : Nat → Int32} {A : Nat → Nat → Int32} {F : Nat → Nat} {e : Nat} (hT : tp_T10 c n I A e) (hQ : tp_Q10 I0 A0 I A F) (hW : tp_WF F 0 0 0) (hk : tp_kd c n e ≠ 4) : ∃ I1 A1, g_X10_townLine I A = some (I1, A1) ∧ tp_O10 c n I0 A0 (if F 9 = 0 then tp_L0 c n (tp_st c n e) F else .inl (3, tp_at c n e)) I1 A1 := by
  have h91 := hW.1.1
  unfold g_X10_townLine
  rw [tm_l_c9, Option.bind_some, hQ.2.2.2 9 (by decide)]
  by_cases hc : F 9 = 0
  · rw [if_pos hc, if_pos (by rw [hc]; decide), Option.bind_some, if_pos hQ.2.1]
    obtain ⟨I1, A1, e1, T1, g1, d1⟩ := tp_nxt10 hT hk
    rw [e1, Option.bind_some]
    dsimp only
    have Q1 := tp_Q10_of hQ g1 d1
    unfold tp_L0
    rw [tp_af_b]
    have m2 := tp_aft10 (i := 3) (lo := 0) (hi := 100) T1 Q1.2.1 (by decide) rfl (by decide) (by decide)
    cases h2 : tp_af c n (tp_st c n e) 3 0 100 with
    | inl x =>
      rw [h2] at m2
      obtain ⟨v, I2, A2, e2, f2, g2, d2⟩ := m2
      have N := tp_F10_N f2
      have N : ¬ I2 4413 = 0 := N
      have Z : tp_Z10 I0 A0 I2 A2 := ⟨fun k hk hk2 => (g2 k hk).trans (Q1.1.1 k hk hk2), fun d q1 q2 => (d2 d q1).trans (Q1.1.2 d q1 q2)⟩
      rw [show g_X10_after I1 A1 1003 (0 : Int32) (100 : Int32) = _ from e2, tp_b_l]
      rw [Option.bind_some]
      dsimp only
      rw [tm_t_c0, Option.bind_some, if_neg N]
      exact ⟨_, _, rfl, tp_O10_l f2 ⟨Z.1, fun d q1 q2 => (tm_vn _ q2).trans (Z.2 d q1 q2)⟩⟩
    | inr v =>
      rw [h2] at m2
      obtain ⟨I2, A2, e2, T2, g2, d2⟩ := m2
      rw [show g_X10_after I1 A1 1003 (0 : Int32) (100 : Int32) = _ from e2, Option.bind_some, tp_b_r]
      dsimp only
      have Q2 := tp_Q10_of Q1 g2 d2
      rw [tm_t_c0, Option.bind_some, if_pos Q2.2.1, tm_t_c9, Option.bind_some]
      have hA : ∀ d, d ≠ 48 → (va_up (va_up A2 48 (upd (A2 48) 0 (nI v))) 48 (upd (upd (A2 48) 0 (nI v)) 9 (1 : Int32))) d = A2 d := fun d hd => by rw [tm_vn _ hd, tm_vn _ hd]
      exact ⟨_, _, rfl, tp_O10_r (tp_T10_w T2 hA) (tp_Q10_w Q2 hA (fun j hj => by rw [tm_vs]; exact tp_up10 (tp_up10 Q2.2.2.2 0 v) 9 1 j hj))⟩
  · rw [if_neg hc, if_neg (nI_nle (by omega) (by omega))]
    have hw : g_X10_wrong I (3 : Int32) (I 4404) = tp_w10 I 3 (tp_at c n e) := by rw [hT.2.2.2.1]; exact tp_wr10 hQ.2.1 3 _
    dsimp only [tw_let]
    rw [hw, Option.bind_some, if_neg (tp_F10_N (tp_wr10F (I := I) 3 (tp_at c n e)))]
    exact ⟨_, _, rfl, tp_O10_l (tp_wr10F _ _) (tp_Z10_w hQ.1 _ _)⟩
