/-! MATHEMATICS, 27: the sets that fit: the class -/
def tm_fi (T : Nat → Nat) (set : Nat) : Bool := decide (tm_fq T (tm_Wu T set) = T 5)
def tm_fl (T : Nat → Nat) : Nat → List Nat
  | 0 => []
  | n + 1 => if tm_fi T n = true then tm_fl T n ++ [n] else tm_fl T n
theorem tm_fl_len (T : Nat → Nat) : ∀ n, (tm_fl T n).length ≤ n
  | 0 => Nat.le_refl _
  | n + 1 => by
    have h := tm_fl_len T n
    rw [tm_fl]
    split
    · rw [List.length_append, List.length_singleton]
      omega
    · omega
theorem tm_fl_mem (T : Nat → Nat) : ∀ n x, x ∈ tm_fl T n → x < n
  | 0, x, h => by
    rw [tm_fl] at h
    cases h
  | n + 1, x, h => by
    rw [tm_fl] at h
    split at h
    · rcases List.mem_append.mp h with g | g
      · have := tm_fl_mem T n x g
        omega
      · rw [List.mem_singleton] at g
        omega
    · have := tm_fl_mem T n x h
      omega
theorem tm_fi_iff (T : Nat → Nat) (set : Nat) (h5 : T 5 ≤ 3) : tm_fo (tm_fq T (tm_Wu T set)) (T 5) = (-2 : Int32) ↔ tm_fi T set = true := by
  have hle := tm_ff_le (tm_ot T (tm_Wu T set)) (T 5)
  have hq : tm_fq T (tm_Wu T set) ≤ T 5 := hle
  unfold tm_fi tm_fo
  by_cases g : tm_fq T (tm_Wu T set) < T 5
  · rw [if_pos g]
    exact ⟨fun q => absurd q (tm_nm2 (by omega)), fun q => by have := of_decide_eq_true q; omega⟩
  · rw [if_neg g]
    exact ⟨fun _ => decide_eq_true (by omega), fun _ => rfl⟩
theorem tm_tk9 {A : Nat → Nat → Int32} {T : Nat → Nat} (hC : tm_C A T) (hW : tm_W T) (h : ∀ p, p < T 3 → (∀ j, j < T 7 → T (95 + 2 * j) ≠ p) → A 37 p = nI (T (28 + 4 * p))) {set : Nat} (hs : set < 2 ^ T 7) : ∃ A1, g_X2_takeForOther A (nI set) = some A1 ∧ (∀ p, p < T 3 → A1 37 p = nI (tm_Wu T set p)) ∧ ∀ c, c ≠ 37 → A1 c = A c := by
  have h3 := tm_W_b3 hW
  have h7 := tm_W_b7 hW
  have h24 : (2 : Nat) ^ T 7 ≤ 16 := Nat.pow_le_pow_right (n := 2) (by decide) h7
  have L : ∃ r, g_X2_takeForOther_L1 (nI set) 4096 (nI 0) A = some r ∧ ((∀ p, p < T 3 → r 37 p = nI (tm_Wu T set p)) ∧ ∀ c, c ≠ 37 → r c = A c) := by
    refine tm_lr (fun n i (s : Nat → Nat → Int32) => g_X2_takeForOther_L1 (nI set) n i s) (T 7) 0 (Nat.zero_le _) (fun i s => (∀ p, p < T 3 → (∃ j, j < i ∧ T (95 + 2 * j) = p) → s 37 p = nI (tm_wk T set i p)) ∧ (∀ p, p < T 3 → (∀ j, j < i → T (95 + 2 * j) ≠ p) → s 37 p = A 37 p) ∧ ∀ c, c ≠ 37 → s c = A c) _ ?_ ?_ (s := A) ⟨fun p _ hp => by obtain ⟨j, hj, _⟩ := hp; omega, fun _ _ _ => rfl, fun _ _ => rfl⟩ (m := 4096) (by omega)
    · rintro n s ⟨a, b, c⟩
      have hC1 : tm_C s T := tm_C_of hC fun d d1 _ => c d (by omega)
      refine ⟨s, ?_, fun p hp => ?_, c⟩
      · show g_X2_takeForOther_L1 (nI set) (n + 1) (nI (T 7)) s = _
        rw [g_X2_takeForOther_L1, tm_cn7 hC1, if_pos (nI_le (Nat.le_refl _) (by omega))]
      · by_cases g : ∃ j, j < T 7 ∧ T (95 + 2 * j) = p
        · exact a p hp g
        · have g2 : ∀ j, j < T 7 → T (95 + 2 * j) ≠ p := fun j hj e => g ⟨j, hj, e⟩
          rw [b p hp g2, h p hp g2]
          unfold tm_Wu
          rw [tm_wk_n set (T 7) p g2]
    · rintro n i s _ hi _ ⟨a, b, c⟩
      have hC1 : tm_C s T := tm_C_of hC fun d d1 _ => c d (by omega)
      have hu := tm_W_u hW i hi
      have v : ∃ v, tm_wk T set (i + 1) (T (95 + 2 * i)) = v ∧ g_X2_takeForOther_L1 (nI set) (n + 1) (nI i) s = g_X2_takeForOther_L1 (nI set) n (nI (i + 1)) (va_up s 37 (upd (s 37) (T (95 + 2 * i)) (nI v))) := by
        have put : ∀ x : Int32, g_X6_takeForWit s (nI (T (95 + 2 * i))) x = va_up s 37 (upd (s 37) (T (95 + 2 * i)) x) := fun x => by
          unfold g_X6_takeForWit tw_let
          rw [tm_put (by omega) (by decide)]
        have g12 : tw_get0 4 (s 12) (nI i) = nI (T (95 + 2 * i)) := by rw [tm_get (by omega) (by decide), (tm_C_un hC1 i hi).1]
        have g13 : tw_get0 4 (s 13) (nI i) = nI (T (96 + 2 * i)) := by rw [tm_get (by omega) (by decide), (tm_C_un hC1 i hi).2]
        have g7 : tw_get0 6 (s 7) (nI (T (95 + 2 * i))) = nI (T (28 + 4 * T (95 + 2 * i))) := by rw [tm_get (by omega) (by decide), (tm_C_pe hC1 _ hu.1).2.1]
        cases e : set.testBit i
        · refine ⟨T (28 + 4 * T (95 + 2 * i)), ?_, ?_⟩
          · rw [tm_wk, if_neg (fun q => by rw [e] at q; cases q.1), tm_wk_n set i _ hu.2.2]
          · rw [g_X2_takeForOther_L1, tm_cn7 hC1, if_neg (nI_ge hi (by omega)), if_pos ((tm_b0 (by omega) (by omega)).mpr e), Option.bind_some, if_pos rfl, g12, g7, Option.bind_some, put, ← nI_succ]
        · refine ⟨T (96 + 2 * i), ?_, ?_⟩
          · rw [tm_wk, if_pos ⟨e, rfl⟩]
          · rw [g_X2_takeForOther_L1, tm_cn7 hC1, if_neg (nI_ge hi (by omega)), if_neg (fun q => by rw [(tm_b0 (by omega) (by omega)).mp q] at e; cases e), Option.bind_some, if_neg (by decide), g12, g13, Option.bind_some, put, ← nI_succ]
      obtain ⟨v, v1, v2⟩ := v
      refine Or.inr ⟨_, ⟨fun p hp hj => ?_, fun p hp hj => ?_, fun d hd => (tm_vn _ hd).trans (c d hd)⟩, v2⟩
      · rw [tm_vs]
        by_cases g : p = T (95 + 2 * i)
        · rw [g, tm_us, v1]
        · rw [tm_un _ g, tm_wk, if_neg (fun q => g q.2.symm)]
          refine a p hp ?_
          obtain ⟨j, h1, h2⟩ := hj
          refine ⟨j, ?_, h2⟩
          by_cases q : j = i
          · subst q
            exact absurd h2.symm g
          · omega
      · have g := hj i (Nat.lt_succ_self _)
        rw [tm_vs, tm_un _ (fun q => g q.symm)]
        exact b p hp fun j h1 => hj j (by omega)
  obtain ⟨A1, e, a, b⟩ := L
  refine ⟨A1, ?_, a, b⟩
  unfold g_X2_takeForOther
  rw [show g_X2_takeForOther_L1 (nI set) 4096 (0 : Int32) A = _ from e, Option.bind_some]
/-- the row of the sets found -/
def tm_Fr (I : Nat → Int32) (A : Nat → Nat → Int32) (l : List Nat) : Prop := I 4203 = nI l.length ∧ ∀ j v, l[j]? = some v → A 43 j = nI v
theorem tm_ff9 {I : Nat → Int32} {A : Nat → Nat → Int32} {T : Nat → Nat} (hW : tm_W T) (hK : tm_K9 I A T 0 (fun _ => 0) (tm_Wt T) (tm_Et T)) : ∃ I1 A1, g_X2_findFits I A = some (I1, A1) ∧ tm_Fr I1 A1 (tm_fl T (2 ^ T 7)) ∧ tm_C A1 T ∧ tm_Sd I1 ∧ tm_f9 I A I1 A1 := by
  have h5 := tm_W_b5 hW
  have h7 := tm_W_b7 hW
  have h24 : (2 : Nat) ^ T 7 ≤ 16 := Nat.pow_le_pow_right (n := 2) (by decide) h7
  have L : ∃ r, g_X2_findFits_L1 4096 (nI 0) (upd I 4203 0) A = some r ∧ (tm_Fr r.1 r.2 (tm_fl T (2 ^ T 7)) ∧ tm_C r.2 T ∧ tm_Sd r.1 ∧ tm_f9 I A r.1 r.2) := by
    refine tm_lr (fun n i (s : (Nat → Int32) × (Nat → Nat → Int32)) => g_X2_findFits_L1 n i s.1 s.2) (2 ^ T 7) 0 (Nat.zero_le _) (fun i s => tm_Fr s.1 s.2 (tm_fl T i) ∧ tm_C s.2 T ∧ tm_Sd s.1 ∧ tm_f9 I A s.1 s.2 ∧ s.1 3601 = nI 0 ∧ s.1 3602 = nI (tm_pk fun _ => 0) ∧ (∀ p, p < T 3 → s.2 38 p = nI (tm_Et T p)) ∧ ∀ p, p < T 3 → (∀ j, j < T 7 → T (95 + 2 * j) ≠ p) → s.2 37 p = nI (T (28 + 4 * p))) _ ?_ ?_ (s := (upd I 4203 0, A)) ⟨⟨show upd I 4203 0 4203 = (0 : Int32) from tm_us _ _ _, fun j v q => by rw [tm_fl] at q; cases q⟩, hK.1, ?_, ⟨fun k hk => tm_un _ (by omega), fun _ _ => rfl⟩, by dsimp only; rw [tm_un _ (by decide)]; exact hK.2.1.1, by dsimp only; rw [tm_un _ (by decide)]; exact hK.2.1.2.1, fun p hp => (hK.2.1.2.2 p hp).2, fun p hp _ => (hK.2.1.2.2 p hp).1⟩ (m := 4096) (by omega)
    · rintro n ⟨I1, A1⟩ ⟨a, b, c, d, -⟩
      refine ⟨(I1, A1), ?_, a, b, c, d⟩
      show g_X2_findFits_L1 (n + 1) (nI (2 ^ T 7)) I1 A1 = _
      rw [g_X2_findFits_L1, tm_cn7 b, tm_shl1 (by omega), if_pos (nI_le (Nat.le_refl _) (by omega))]
    · rintro n i ⟨I1, A1⟩ _ hi _ ⟨a, b, c, d, e, f, g, h⟩
      dsimp only at a b c d e f g h
      have hl := tm_fl_len T i
      obtain ⟨A2, e2, m2, f2⟩ := tm_tk9 b hW h hi
      have hC2 : tm_C A2 T := tm_C_of b fun c c1 _ => f2 c (by omega)
      have hK2 : tm_K9 I1 A2 T 0 (fun _ => 0) (tm_Wu T i) (tm_Et T) := ⟨hC2, ⟨e, f, fun p hp => ⟨m2 p hp, by rw [f2 38 (by decide)]; exact g p hp⟩⟩, c⟩
      obtain ⟨I3, A3, e3, k3, f3, f4⟩ := tm_fo9 hW hK2 (tm_SBu hW i)
      have fA : tm_f9 I A I3 A3 := tm_f9_t d ⟨fun k hk => f3 k (by omega), fun c hc => (f4 c (by omega)).trans (f2 c (by omega))⟩
      have n37 : ∀ p, p < T 3 → (∀ j, j < T 7 → T (95 + 2 * j) ≠ p) → A3 37 p = nI (T (28 + 4 * p)) := fun p hp hn => by
        rw [(k3.2.1.2.2 p hp).1]
        unfold tm_Wu
        rw [tm_wk_n i (T 7) p hn]
      have a43 : A3 43 = A1 43 := (f4 43 (by decide)).trans (f2 43 (by decide))
      have i4203 : I3 4203 = nI (tm_fl T i).length := (f3 4203 (by decide)).trans a.1
      by_cases q : tm_fi T i = true
      · refine Or.inr ⟨(upd I3 4203 (nI ((tm_fl T i).length + 1)), va_up A3 43 (upd (A3 43) (tm_fl T i).length (nI i))), ⟨?_, tm_C_of k3.1 fun c c1 _ => tm_vn _ (by omega), ?_, tm_f9_t fA ⟨fun k hk => tm_un _ (by omega), fun c hc => tm_vn _ (by omega)⟩, by dsimp only; rw [tm_un _ (by decide)]; exact k3.2.1.1, by dsimp only; rw [tm_un _ (by decide)]; exact k3.2.1.2.1, fun p hp => ?_, fun p hp hn => ?_⟩, ?_⟩
        · rw [tm_fl, if_pos q]
          refine ⟨by rw [List.length_append, List.length_singleton]; dsimp only; rw [tm_us], fun j v hj => ?_⟩
          dsimp only
          rw [tm_vs]
          by_cases z : j = (tm_fl T i).length
          · rw [z, tm_us]
            rw [z, List.getElem?_concat_length] at hj
            cases hj
            rfl
          · rw [tm_un _ z, a43]
            refine a.2 j v ?_
            have hjl : j < (tm_fl T i).length := by
              have := (List.getElem?_eq_some_iff.mp hj).1
              rw [List.length_append, List.length_singleton] at this
              omega
            rw [List.getElem?_append_left hjl] at hj
            exact hj
        · obtain ⟨z, z1, z2⟩ := k3.2.2
          refine ⟨z, z1, ?_⟩
          dsimp only
          rw [tm_un _ (by decide)]
          exact z2
        · dsimp only
          rw [tm_vn _ (by decide)]
          exact (k3.2.1.2.2 p hp).2
        · dsimp only
          rw [tm_vn _ (by decide)]
          exact n37 p hp hn
        · show g_X2_findFits_L1 (n + 1) (nI i) I1 A1 = g_X2_findFits_L1 n (nI (i + 1)) _ _
          rw [g_X2_findFits_L1, tm_cn7 b, tm_shl1 (by omega), if_neg (nI_ge hi (by omega)), e2, Option.bind_some, e3, Option.bind_some]
          dsimp only
          rw [if_pos ((tm_fi_iff T i h5).mpr q), i4203, tm_put (by omega) (by decide), ← nI_succ, ← nI_succ]
          rfl
      · refine Or.inr ⟨(I3, A3), ⟨?_, k3.1, k3.2.2, fA, k3.2.1.1, k3.2.1.2.1, fun p hp => (k3.2.1.2.2 p hp).2, n37⟩, ?_⟩
        · rw [tm_fl, if_neg q]
          exact ⟨i4203, fun j v hj => by dsimp only; rw [a43]; exact a.2 j v hj⟩
        · show g_X2_findFits_L1 (n + 1) (nI i) I1 A1 = g_X2_findFits_L1 n (nI (i + 1)) _ _
          rw [g_X2_findFits_L1, tm_cn7 b, tm_shl1 (by omega), if_neg (nI_ge hi (by omega)), e2, Option.bind_some, e3, Option.bind_some]
          dsimp only
          rw [if_neg (fun z => q ((tm_fi_iff T i h5).mp z)), Option.bind_some, ← nI_succ]
    · obtain ⟨z, z1, z2⟩ := hK.2.2
      refine ⟨z, z1, ?_⟩
      dsimp only
      rw [tm_un _ (by decide)]
      exact z2
  obtain ⟨⟨I1, A1⟩, e, a⟩ := L
  refine ⟨I1, A1, ?_, a⟩
  unfold g_X2_findFits
  rw [show g_X2_findFits_L1 4096 (0 : Int32) (upd I 4203 0) A = _ from e, Option.bind_some]
