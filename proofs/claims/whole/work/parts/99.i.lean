/-! the two town drafts change places: an address map that follows -/
def tw_sw (k : Nat) : Nat := if 2 ≤ k ∧ k < 14 then k + 12 else if 14 ≤ k ∧ k < 26 then k - 12 else k
def tw_sw1 (r : Nat) : Nat := match r with
  | 0 => 0
  | k + 1 => tw_sw k + 1
theorem tw_sw_sw (k : Nat) : tw_sw (tw_sw k) = k := by
  unfold tw_sw
  split
  · rw [if_neg (by omega), if_pos (by omega)]; omega
  · split
    · rw [if_pos (by omega)]; omega
    · rfl
theorem tw_sw_lt {k : Nat} (h : k < 57) : tw_sw k < 57 := by
  unfold tw_sw
  split
  · omega
  · split <;> omega
theorem tw_sw_o {k : Nat} (h : k < 2 ∨ 25 < k) : tw_sw k = k := by
  unfold tw_sw
  rw [if_neg (by omega), if_neg (by omega)]
theorem tw_sw_shB : (List.range 57).all (fun k => decide (tw_sh (tw_sw k) = tw_sh k) && ((List.range (tw_sh k).2).all (fun j => (decide (k = 36 ∧ j = 0)) || decide (tw_P 14 2 14 0 (tw_sw k) j = tw_sw1 (tw_P 2 14 2 0 k j))) || decide (10 ≤ (tw_sh k).1))) = true := by decide +kernel
theorem tw_sw_tcB : (List.range 57).all (fun k => decide (k < 2 ∨ 25 < k) || (decide (10 ≤ (tw_sh k).1) || ((List.range (tw_sh k).2).all (fun j => decide (tw_tc (tw_sh k).1 j = 2))))) = true := by decide +kernel
theorem tw_P_sc0 (tw dr rt sc k b : Nat) (h : ¬ (k = 36 ∧ b = 0)) : tw_P tw dr rt sc k b = tw_P tw dr rt 0 k b := by
  have e : (Nat.beq k 36 && Nat.beq b 0) = false := by
    rw [Bool.and_eq_false_iff]
    by_cases h1 : k = 36
    · exact Or.inr (tw_beqf (fun h2 => h ⟨h1, h2⟩))
    · exact Or.inl (tw_beqf h1)
  unfold tw_P
  rw [e]
  rfl
theorem tw_sw_sh {k : Nat} (h : k < 57) : tw_sh (tw_sw k) = tw_sh k := by
  have h1 := List.all_eq_true.mp tw_sw_shB k (List.mem_range.mpr h)
  rw [Bool.and_eq_true] at h1
  exact of_decide_eq_true h1.1
theorem tw_sw_P {k j sc : Nat} (h : k < 57) (h8 : (tw_sh k).1 < 10) (hj : j < (tw_sh k).2) : tw_P 14 2 14 sc (tw_sw k) j = tw_sw1 (tw_P 2 14 2 (tw_sw sc) k j) := by
  by_cases h36 : k = 36 ∧ j = 0
  · obtain ⟨rfl, rfl⟩ := h36
    show sc + 1 = tw_sw (tw_sw sc) + 1
    rw [tw_sw_sw]
  · have h1 := List.all_eq_true.mp tw_sw_shB k (List.mem_range.mpr h)
    simp only [Bool.and_eq_true, Bool.or_eq_true, decide_eq_true_eq] at h1
    have h2 := h1.2.resolve_right (by omega)
    have h3 := List.all_eq_true.mp h2 j (List.mem_range.mpr hj)
    simp only [Bool.or_eq_true, decide_eq_true_eq] at h3
    rw [tw_P_sc0 _ _ _ _ k j h36, tw_P_sc0 _ _ _ sc (tw_sw k) j (fun q => h36 ⟨by rw [← tw_sw_sw k, q.1]; rfl, q.2⟩)]
    exact h3.resolve_left h36
theorem tw_sw_cv (ad : Nat → Nat) (r : Nat) : tw_cv (fun k => ad (tw_sw k)) (tw_rf r) = tw_cv ad (tw_rf (tw_sw1 r)) := by
  cases r with
  | zero => rfl
  | succ k => rfl
theorem tw_sw_A (A : Nat → Nat → Int32) {k : Nat} (h : (tw_sh k).1 = 10 ∨ (tw_sh k).1 = 11) : tp_swp A k = A (tw_sw k) := by
  unfold tp_swp tw_sw
  by_cases h2 : k = 2
  · subst h2; rcases h with h | h <;> cases h
  · by_cases h14 : k = 14
    · subst h14; rcases h with h | h <;> cases h
    · by_cases g1 : 2 < k ∧ k < 14
      · rw [if_pos g1, if_pos (show 2 ≤ k ∧ k < 14 by omega)]
      · rw [if_neg g1]
        by_cases g2 : 14 < k ∧ k < 26
        · rw [if_pos g2, if_neg (show ¬ (2 ≤ k ∧ k < 14) by omega), if_pos (show 14 ≤ k ∧ k < 26 by omega)]
        · rw [if_neg g2, if_neg (show ¬ (2 ≤ k ∧ k < 14) by omega), if_neg (show ¬ (14 ≤ k ∧ k < 26) by omega)]
theorem tw_sw_fix {k : Nat} (h : k < 57) (h12 : (tw_sh k).1 = 12) : tw_sw k = k := by
  refine tw_sw_o ?_
  by_cases g : k < 2 ∨ 25 < k
  · exact g
  · exfalso
    have h1 := List.all_eq_true.mp (show (List.range 57).all (fun k => decide ((tw_sh k).1 = 12 → k < 2 ∨ 25 < k)) = true by decide +kernel) k (List.mem_range.mpr h)
    exact g (of_decide_eq_true h1 h12)
theorem tw_sw_cell {cy : tw_Y} {ad : Nat → Nat} {I : Nat → Int32} {L : Nat → Int64} {A : Nat → Nat → Int32} {J : Nat → Nat → Int64} {sc nc nc' k : Nat} (h : k < 57) : tw_cell cy (fun z => ad (tw_sw z)) (I, L, tw_P 2 14 2 (tw_sw sc), tp_swp A, J, nc) k = tw_cell cy ad (I, L, tw_P 14 2 14 sc, A, J, nc') (tw_sw k) := by
  have hs := tw_sw_sh h
  rcases (show (tw_sh k).1 < 10 ∨ (tw_sh k).1 = 10 ∨ (tw_sh k).1 = 11 ∨ (tw_sh k).1 = 12 from (by
    have h1 := List.all_eq_true.mp (show (List.range 57).all (fun k => decide ((tw_sh k).1 ≤ 12)) = true by decide +kernel) k (List.mem_range.mpr h)
    have h2 := of_decide_eq_true h1
    omega)) with g | g | g | g
  · rw [tw_cell_obj g, tw_cell_obj (by rw [hs]; exact g), hs]
    refine congrArg Sum.inr (congrArg (Prod.mk _) ?_)
    unfold tw_fl
    rw [hs]
    refine List.map_congr_left fun j hj => ?_
    have hj' := List.mem_range.mp hj
    by_cases gk : k < 2 ∨ 25 < k
    · unfold tw_fv
      rw [tw_sw_o gk]
      split
      · rfl
      · rfl
      · refine (tw_sw_cv ad _).trans ?_
        dsimp only
        rw [← tw_sw_P h g hj', tw_sw_o gk]
    · have h1 := List.all_eq_true.mp tw_sw_tcB k (List.mem_range.mpr h)
      simp only [Bool.or_eq_true, decide_eq_true_eq] at h1
      have h2 := (h1.resolve_left gk).resolve_left (by omega)
      have h3 : tw_tc (tw_sh k).1 j = 2 := of_decide_eq_true (List.all_eq_true.mp h2 j hj)
      rw [h3]
      refine (tw_sw_cv ad _).trans ?_
      show tw_cv ad (tw_rf _) = tw_cv ad (tw_rf _)
      dsimp only
      rw [← tw_sw_P h g hj']
  · rw [tw_cell_10 g, tw_cell_10 (by rw [hs]; exact g), hs]
    show Sum.inl (_, _, Sum.inl (tp_swp A k)) = _
    rw [tw_sw_A A (Or.inl g)]
  · rw [tw_cell_11 g, tw_cell_11 (by rw [hs]; exact g), hs]
    show Sum.inl (_, _, Sum.inl (tp_swp A k)) = _
    rw [tw_sw_A A (Or.inr g)]
  · rw [tw_cell_12 g, tw_cell_12 (by rw [hs]; exact g), hs, tw_sw_fix h g]
theorem tw_P_le {sc k j : Nat} (hsc : sc < 57) (h : tw_P 14 2 14 0 k j ≤ 57) : tw_P 2 14 2 sc k j ≤ 57 := by
  by_cases h36 : k = 36 ∧ j = 0
  · obtain ⟨rfl, rfl⟩ := h36
    show sc + 1 ≤ 57
    omega
  · rw [tw_P_sc0 _ _ _ _ k j h36]
    unfold tw_P at h ⊢
    generalize (Nat.beq k 36 && Nat.beq j 0) = c1 at h ⊢
    generalize (Nat.beq k 26 && Nat.beq j 1) = c2 at h ⊢
    generalize (Nat.beq k 0 && Nat.beq j 2) = c3 at h ⊢
    generalize (Nat.beq k 0 && Nat.beq j 3) = c4 at h ⊢
    cases c1 with
    | true => exact (show (1 : Nat) ≤ 57 by decide)
    | false =>
      cases c2 with
      | true => exact (show (3 : Nat) ≤ 57 by decide)
      | false =>
        cases c3 with
        | true => exact (show (3 : Nat) ≤ 57 by decide)
        | false =>
          cases c4 with
          | true => exact (show (15 : Nat) ≤ 57 by decide)
          | false => exact h
theorem tw_swapW {p : Program} {l : Launch} {e0 : Env} {s : State} {m : MethodId} {args : Array Value} {below : List Frame} {meth : Method} {c : Code} {n0 b0 L0 : Nat} {xs : Nat → Int32} {adK : Nat → Nat} {dC : Nat → ClassId} {dI : Nat → Nat → Nat} {cy : tw_Y} {Q : State → Prop} {x y k i : Nat} {I : Nat → Int32} {L : Nat → Int64} {A : Nat → Nat → Int32} {J : Nat → Nat → Int64} {sc : Nat} (h : tw_MW p l e0 s m args below meth c n0 b0 L0 xs adK dC dI cy Q x y (k, tw_l6 i, [], (I, L, tw_P 2 14 2 (tw_sw sc), tp_swp A, J, 57))) : tw_MW p l e0 s m args below meth c n0 b0 L0 xs adK dC dI cy Q x y (k, tw_l6 i, [], (I, L, tw_P 14 2 14 sc, A, J, 57)) := by
  intro hlen ad H locs lsA hr hl
  obtain ⟨hP, hD, hS, hU1, hU2, hU3, hU4, hU5, hU6, hU7⟩ := hr
  dsimp only at hU3 hU4 hU5
  refine h rfl (fun z => ad (tw_sw z)) H locs lsA ⟨fun j q hq => ?_, ⟨fun i j p q hp hq he => ?_, fun j q hq => ?_⟩, hS, ?_, fun i hi => ?_, fun j hj b => ?_, hU4, ?_, hU6, hU7⟩ hl
  · have hj : j < 57 := by
      have := (List.getElem?_eq_some_iff.mp hq).1
      rwa [tw_w_len] at this
    rw [tw_w_get hj] at hq
    cases hq
    refine hP (tw_sw j) _ ?_
    rw [tw_w_get (tw_sw_lt hj), tw_sw_cell (nc' := 57) hj]
  · have hi' : i < 57 := by
      have := (List.getElem?_eq_some_iff.mp hp).1
      rwa [tw_w_len] at this
    have hj' : j < 57 := by
      have := (List.getElem?_eq_some_iff.mp hq).1
      rwa [tw_w_len] at this
    rw [tw_w_get hi'] at hp
    rw [tw_w_get hj'] at hq
    cases hp
    cases hq
    have := hD.1 (tw_sw i) (tw_sw j) _ _ (tw_w_get (tw_sw_lt hi')) (tw_w_get (tw_sw_lt hj')) he
    rw [← tw_sw_sw i, this, tw_sw_sw]
  · have hj' : j < 57 := by
      have := (List.getElem?_eq_some_iff.mp hq).1
      rwa [tw_w_len] at this
    rw [tw_w_get hj'] at hq
    cases hq
    exact hD.2 (tw_sw j) (ad (tw_sw j), tw_cell cy ad (I, L, tw_P 14 2 14 sc, A, J, 57) (tw_sw j)) (tw_w_get (tw_sw_lt hj'))
  · show ad (tw_sw 900) = b0
    rw [tw_sw_o (by decide)]
    exact hU1
  · show ad (tw_sw (1000 + i)) = adK i
    rw [tw_sw_o (by omega)]
    exact hU2 i hi
  · have h36 : sc + 1 ≤ 57 := hU3 36 (by decide) 0
    have h0 : tw_P 14 2 14 0 j b ≤ 57 := by
      by_cases h9 : j = 36 ∧ b = 0
      · obtain ⟨rfl, rfl⟩ := h9
        decide
      · rw [← tw_P_sc0 _ _ _ sc j b h9]
        exact hU3 j hj b
    exact tw_P_le (tw_sw_lt (by omega)) h0
  · rw [← hU5]
    exact tp_swp_o (d := 900) (by decide)
