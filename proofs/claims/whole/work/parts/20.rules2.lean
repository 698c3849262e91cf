/-! more rules: where the references point, locals that are dropped, the helpers of arrays, switches -/
def tw_Pl : List (List Nat) := [[2, 0, 0, 0, 27, 34, 37, 40, 42, 43], [], [4, 5, 6, 7, 8, 9, 10, 11, 12, 13, 14], [], [], [], [], [], [], [], [], [], [], [], [16, 17, 18, 19, 20, 21, 22, 23, 24, 25, 26], [], [], [], [], [], [], [], [], [], [], [], [33, 0, 0, 28, 29, 30, 0, 31, 32], [], [], [], [], [], [2], [0, 0, 0, 35, 0, 36], [], [], [0, 0, 0, 38, 39], [], [], [37, 41], [], [37, 40], [37, 40, 44], [], [0, 46, 0, 0, 0, 0, 0, 0, 0, 0, 0, 0, 47, 0, 0, 48, 49, 50, 51, 52, 0, 0, 53, 54, 55, 0, 0, 0, 0, 0, 0, 0, 56], [], [], [], [], [], [], [], [], [], [], [], []]
theorem tw_beqf {a b : Nat} (h : ¬ a = b) : Nat.beq a b = false := by
  cases hb : Nat.beq a b with
  | false => rfl
  | true => exact absurd (Nat.eq_of_beq_eq_true hb) h
def tw_P (tw dr rt sc : Nat) : Nat → Nat → Nat := fun k b =>
  bif Nat.beq k 36 && Nat.beq b 0 then sc + 1 else bif Nat.beq k 26 && Nat.beq b 1 then rt + 1 else bif Nat.beq k 0 && Nat.beq b 2 then tw + 1 else bif Nat.beq k 0 && Nat.beq b 3 then dr + 1 else (tw_Pl.getD k []).getD b 0
theorem tw_P_sc (tw dr rt sc q : Nat) : va_up (tw_P tw dr rt sc) 36 (va_up (tw_P tw dr rt sc 36) 0 (q + 1)) = tw_P tw dr rt q := by
  funext k b
  unfold va_up
  by_cases h : k = 36
  · subst h
    rw [if_pos rfl]
    by_cases h0 : b = 0
    · subst h0; rfl
    · rw [if_neg h0]
      have e : Nat.beq b 0 = false := tw_beqf h0
      unfold tw_P
      simp only [e, Bool.and_false, cond_false]
  · rw [if_neg h]
    have e : Nat.beq k 36 = false := tw_beqf h
    unfold tw_P
    simp only [e, Bool.false_and, cond_false]
theorem tw_P_rt (tw dr rt sc q : Nat) : va_up (tw_P tw dr rt sc) 26 (va_up (tw_P tw dr rt sc 26) 1 (q + 1)) = tw_P tw dr q sc := by
  funext k b
  unfold va_up
  by_cases h : k = 26
  · subst h
    rw [if_pos rfl]
    by_cases h0 : b = 1
    · subst h0; rfl
    · rw [if_neg h0]
      have e : Nat.beq b 1 = false := tw_beqf h0
      unfold tw_P
      simp only [e, Bool.and_false, cond_false]
  · rw [if_neg h]
    have e : Nat.beq k 26 = false := tw_beqf h
    unfold tw_P
    simp only [e, Bool.false_and, cond_false]
theorem tw_P_tw (tw dr rt sc q : Nat) : va_up (tw_P tw dr rt sc) 0 (va_up (tw_P tw dr rt sc 0) 2 (q + 1)) = tw_P q dr rt sc := by
  funext k b
  unfold va_up
  by_cases h : k = 0
  · subst h
    rw [if_pos rfl]
    by_cases h0 : b = 2
    · subst h0; rfl
    · rw [if_neg h0]
      have e : Nat.beq b 2 = false := tw_beqf h0
      unfold tw_P
      simp only [e, Bool.and_false, cond_false]
  · rw [if_neg h]
    have e : Nat.beq k 0 = false := tw_beqf h
    unfold tw_P
    simp only [e, Bool.false_and, cond_false]
theorem tw_P_dr (tw dr rt sc q : Nat) : va_up (tw_P tw dr rt sc) 0 (va_up (tw_P tw dr rt sc 0) 3 (q + 1)) = tw_P tw q rt sc := by
  funext k b
  unfold va_up
  by_cases h : k = 0
  · subst h
    rw [if_pos rfl]
    by_cases h0 : b = 3
    · subst h0; rfl
    · rw [if_neg h0]
      have e : Nat.beq b 3 = false := tw_beqf h0
      unfold tw_P
      simp only [e, Bool.and_false, cond_false]
  · rw [if_neg h]
    have e : Nat.beq k 0 = false := tw_beqf h
    unfold tw_P
    simp only [e, Bool.false_and, cond_false]
section
variable {y : Nat} {cd : List tw_E} {k q pc len x tw dr rt sc : Nat} {v : Int32} {w : Int64} {ls : tw_Ls} {st : List Value} {I : Nat → Int32} {L : Nat → Int64} {A : Nat → Nat → Int32} {J : Nat → Nat → Int64} {out : Option Value × tw_S}
theorem tw_putP_sc (hc : tw_code y = cd) (he : cd[k]? = some (pc, .putfield x, len, 5, 0, 2, v, w)) (hq : Nat.blt q 57 = true) (h : tw_ME y (k + 1, ls, st, (I, L, tw_P tw dr rt q, A, J, 57)) out) : tw_ME y (k, ls, .ref q :: .ref 36 :: st, (I, L, tw_P tw dr rt sc, A, J, 57)) out := by
  refine tw_br hc he rfl ?_ h
  show (if 36 < 57 ∧ (tw_sh 36).1 = 5 then (tw_put (I, L, tw_P tw dr rt sc, A, J, 57) 36 0 2 v (.ref q)).map (fun s => (k + 1, ls, st, s)) else none) = some (k + 1, ls, st, (I, L, tw_P tw dr rt q, A, J, 57))
  rw [if_pos ⟨by decide, by decide⟩]
  have hq2 : q < 57 := Nat.le_of_ble_eq_true hq
  show Option.map (fun s => (k + 1, ls, st, s)) (if q < 57 then some (I, L, va_up (tw_P tw dr rt sc) 36 (va_up (tw_P tw dr rt sc 36) 0 (q + 1)), A, J, 57) else none) = some (k + 1, ls, st, (I, L, tw_P tw dr rt q, A, J, 57))
  rw [if_pos hq2, tw_P_sc]
  rfl
theorem tw_putP_rt (hc : tw_code y = cd) (he : cd[k]? = some (pc, .putfield x, len, 4, 1, 2, v, w)) (hq : Nat.blt q 57 = true) (h : tw_ME y (k + 1, ls, st, (I, L, tw_P tw dr q sc, A, J, 57)) out) : tw_ME y (k, ls, .ref q :: .ref 26 :: st, (I, L, tw_P tw dr rt sc, A, J, 57)) out := by
  refine tw_br hc he rfl ?_ h
  show (if 26 < 57 ∧ (tw_sh 26).1 = 4 then (tw_put (I, L, tw_P tw dr rt sc, A, J, 57) 26 1 2 v (.ref q)).map (fun s => (k + 1, ls, st, s)) else none) = some (k + 1, ls, st, (I, L, tw_P tw dr q sc, A, J, 57))
  rw [if_pos ⟨by decide, by decide⟩]
  have hq2 : q < 57 := Nat.le_of_ble_eq_true hq
  show Option.map (fun s => (k + 1, ls, st, s)) (if q < 57 then some (I, L, va_up (tw_P tw dr rt sc) 26 (va_up (tw_P tw dr rt sc 26) 1 (q + 1)), A, J, 57) else none) = some (k + 1, ls, st, (I, L, tw_P tw dr q sc, A, J, 57))
  rw [if_pos hq2, tw_P_rt]
  rfl
theorem tw_putP_tw (hc : tw_code y = cd) (he : cd[k]? = some (pc, .putfield x, len, 8, 2, 2, v, w)) (hq : Nat.blt q 57 = true) (h : tw_ME y (k + 1, ls, st, (I, L, tw_P q dr rt sc, A, J, 57)) out) : tw_ME y (k, ls, .ref q :: .ref 0 :: st, (I, L, tw_P tw dr rt sc, A, J, 57)) out := by
  refine tw_br hc he rfl ?_ h
  show (if 0 < 57 ∧ (tw_sh 0).1 = 8 then (tw_put (I, L, tw_P tw dr rt sc, A, J, 57) 0 2 2 v (.ref q)).map (fun s => (k + 1, ls, st, s)) else none) = some (k + 1, ls, st, (I, L, tw_P q dr rt sc, A, J, 57))
  rw [if_pos ⟨by decide, by decide⟩]
  have hq2 : q < 57 := Nat.le_of_ble_eq_true hq
  show Option.map (fun s => (k + 1, ls, st, s)) (if q < 57 then some (I, L, va_up (tw_P tw dr rt sc) 0 (va_up (tw_P tw dr rt sc 0) 2 (q + 1)), A, J, 57) else none) = some (k + 1, ls, st, (I, L, tw_P q dr rt sc, A, J, 57))
  rw [if_pos hq2, tw_P_tw]
  rfl
theorem tw_putP_dr (hc : tw_code y = cd) (he : cd[k]? = some (pc, .putfield x, len, 8, 3, 2, v, w)) (hq : Nat.blt q 57 = true) (h : tw_ME y (k + 1, ls, st, (I, L, tw_P tw q rt sc, A, J, 57)) out) : tw_ME y (k, ls, .ref q :: .ref 0 :: st, (I, L, tw_P tw dr rt sc, A, J, 57)) out := by
  refine tw_br hc he rfl ?_ h
  show (if 0 < 57 ∧ (tw_sh 0).1 = 8 then (tw_put (I, L, tw_P tw dr rt sc, A, J, 57) 0 3 2 v (.ref q)).map (fun s => (k + 1, ls, st, s)) else none) = some (k + 1, ls, st, (I, L, tw_P tw q rt sc, A, J, 57))
  rw [if_pos ⟨by decide, by decide⟩]
  have hq2 : q < 57 := Nat.le_of_ble_eq_true hq
  show Option.map (fun s => (k + 1, ls, st, s)) (if q < 57 then some (I, L, va_up (tw_P tw dr rt sc) 0 (va_up (tw_P tw dr rt sc 0) 3 (q + 1)), A, J, 57) else none) = some (k + 1, ls, st, (I, L, tw_P tw q rt sc, A, J, 57))
  rw [if_pos hq2, tw_P_dr]
  rfl
end
/-- the helpers of arrays -/
def tw_get0 (N : Nat) (f : Nat → Int32) (i : Int32) : Int32 := if i < 0 ∨ N ≤ i.toNatClampNeg then 0 else f i.toNatClampNeg
def tw_put0 (N : Nat) (f : Nat → Int32) (i v : Int32) : Nat → Int32 := if i < 0 ∨ N ≤ i.toNatClampNeg then f else upd f i.toNatClampNeg v
def tw_fill0 (N : Nat) (f : Nat → Int32) (v : Int32) : Nat → Int32 := fun j => if j < N then v else f j
def tw_copyL (N1 : Nat) (f : Nat → Int32) (N2 : Nat) (a into many : Int32) : Nat → Int32 → (Nat → Int32) → Option (Nat → Int32)
  | 0, _, _ => none
  | n + 1, k, g => if many ≤ k then some g else (tw_ld N1 f (a + k)).bind fun x => (tw_st N2 g (into + k) x).bind fun g' => tw_copyL N1 f N2 a into many n (k + 1) g'
def tw_copy0 (N1 : Nat) (f : Nat → Int32) (N2 : Nat) (g : Nat → Int32) (a into many : Int32) : Option (Nat → Int32) := tw_copyL N1 f N2 a into many 4096 0 g
theorem tw_lenA_at {I : Nat → Int32} {L : Nat → Int64} {P : Nat → Nat → Nat} {A : Nat → Nat → Int32} {J : Nat → Nat → Int64} {q N : Nat} (hq : Nat.blt q 57 = true) (hk : tw_sh q = (11, N)) : tw_lenA (I, L, P, A, J, 57) q = some (nI N) := by
  unfold tw_lenA
  rw [hk, if_pos ⟨Nat.le_of_ble_eq_true hq, Nat.le_of_ble_eq_true rfl, Nat.le_of_ble_eq_true rfl⟩]
  rfl
theorem tw_alen {y : Nat} {cd : List tw_E} (hc : tw_code y = cd) {k q N pc len a b t : Nat} {v : Int32} {w : Int64} {ls : tw_Ls} {st : List Value} {I : Nat → Int32} {L : Nat → Int64} {P : Nat → Nat → Nat} {A : Nat → Nat → Int32} {J : Nat → Nat → Int64} {out : Option Value × tw_S} (he : cd[k]? = some (pc, .arraylength, len, a, b, t, v, w)) (hq : Nat.blt q 57 = true) (hk : tw_sh q = (11, N)) (h : tw_ME y (k + 1, ls, .int (nI N) :: st, (I, L, P, A, J, 57)) out) : tw_ME y (k, ls, .ref q :: st, (I, L, P, A, J, 57)) out := by
  refine tw_br hc he rfl ?_ h
  show Option.map _ (tw_lenA _ q) = _
  rw [tw_lenA_at hq hk]
  rfl
theorem tw_e_get (I : Nat → Int32) (L : Nat → Int64) (P : Nat → Nat → Nat) (A : Nat → Nat → Int32) (J : Nat → Nat → Int64) {q N : Nat} (hq : Nat.blt q 57 = true) (hk : tw_sh q = (11, N)) (hN : N < 2147483648) (i : Int32) : tw_ME 74 (0, [some (.ref q), some (.int i)], [], (I, L, P, A, J, 57)) (some (.int (tw_get0 N (A q) i)), (I, L, P, A, J, 57)) := by
  refine tw_blk (cd := tw_c74) rfl 3 (c1 := (3, [some (.ref q), some (.int i)], [.int i], (I, L, P, A, J, 57))) rfl ?_
  by_cases h0 : i < 0
  · refine tw_br (cd := tw_c74) rfl rfl rfl (by exact if_pos h0) ?_
    refine tw_blk (cd := tw_c74) rfl 1 (c1 := (13, [some (.ref q), some (.int i)], [.int 0], (I, L, P, A, J, 57))) rfl ?_
    rw [show tw_get0 N (A q) i = 0 from if_pos (Or.inl h0)]
    exact tw_retE (cd := tw_c74) rfl rfl rfl rfl
  · refine tw_br (cd := tw_c74) rfl rfl rfl (by exact if_neg h0) ?_
    refine tw_blk (cd := tw_c74) rfl 2 (c1 := (6, [some (.ref q), some (.int i)], [.ref q, .int i], (I, L, P, A, J, 57))) rfl ?_
    refine tw_alen (cd := tw_c74) rfl rfl hq hk ?_
    by_cases h1 : nI N ≤ i
    · refine tw_br (cd := tw_c74) rfl rfl rfl (by exact if_pos h1) ?_
      refine tw_blk (cd := tw_c74) rfl 1 (c1 := (13, [some (.ref q), some (.int i)], [.int 0], (I, L, P, A, J, 57))) rfl ?_
      have h2 : N ≤ i.toNatClampNeg := by
        obtain ⟨j, hj, rfl⟩ := nI_of h0
        rw [nI_clamp hj]
        exact (nI_leI hN hj).mp h1
      rw [show tw_get0 N (A q) i = 0 from if_pos (Or.inr h2)]
      exact tw_retE (cd := tw_c74) rfl rfl rfl rfl
    · refine tw_br (cd := tw_c74) rfl rfl rfl (by exact if_neg h1) ?_
      refine tw_blk (cd := tw_c74) rfl 2 (c1 := (10, [some (.ref q), some (.int i)], [.int i, .ref q], (I, L, P, A, J, 57))) rfl ?_
      have h2 : ¬ (i < 0 ∨ N ≤ i.toNatClampNeg) := by
        rintro (h | h)
        · exact h0 h
        · obtain ⟨j, hj, rfl⟩ := nI_of h0
          rw [nI_clamp hj] at h
          exact h1 ((nI_leI hN hj).mpr h)
      refine tw_iald (cd := tw_c74) (N := N) (x := A q i.toNatClampNeg) rfl rfl hq hk (if_neg h2) ?_
      refine tw_blk (cd := tw_c74) rfl 1 (c1 := (13, [some (.ref q), some (.int i)], [.int (A q i.toNatClampNeg)], (I, L, P, A, J, 57))) rfl ?_
      rw [show tw_get0 N (A q) i = A q i.toNatClampNeg from if_neg h2]
      exact tw_retE (cd := tw_c74) rfl rfl rfl rfl
theorem tw_upA (A : Nat → Nat → Int32) (q : Nat) : va_up A q (A q) = A := by
  funext k
  unfold va_up
  split
  · next h => rw [h]
  · rfl
theorem tw_upA2 (A : Nat → Nat → Int32) (q : Nat) (f g : Nat → Int32) : va_up (va_up A q f) q g = va_up A q g := by
  funext k
  unfold va_up
  split <;> rfl
theorem tw_e_put (I : Nat → Int32) (L : Nat → Int64) (P : Nat → Nat → Nat) (A : Nat → Nat → Int32) (J : Nat → Nat → Int64) {q N : Nat} (hq : Nat.blt q 57 = true) (hk : tw_sh q = (11, N)) (hN : N < 2147483648) (i v : Int32) (g : Nat → Int32) (hg : tw_put0 N (A q) i v = g) : tw_ME 75 (0, [some (.ref q), some (.int i), some (.int v)], [], (I, L, P, A, J, 57)) (none, (I, L, P, va_up A q g, J, 57)) := by
  refine tw_blk (cd := tw_c75) rfl 3 (c1 := (3, [some (.ref q), some (.int i), some (.int v)], [.int i], (I, L, P, A, J, 57))) rfl ?_
  by_cases h0 : i < 0
  · refine tw_br (cd := tw_c75) rfl rfl rfl (by exact if_pos h0) ?_
    rw [← hg, show tw_put0 N (A q) i v = A q from if_pos (Or.inl h0), tw_upA]
    exact tw_retE (cd := tw_c75) rfl rfl rfl rfl
  · refine tw_br (cd := tw_c75) rfl rfl rfl (by exact if_neg h0) ?_
    refine tw_blk (cd := tw_c75) rfl 2 (c1 := (6, [some (.ref q), some (.int i), some (.int v)], [.ref q, .int i], (I, L, P, A, J, 57))) rfl ?_
    refine tw_alen (cd := tw_c75) rfl rfl hq hk ?_
    by_cases h1 : nI N ≤ i
    · refine tw_br (cd := tw_c75) rfl rfl rfl (by exact if_pos h1) ?_
      have h2 : N ≤ i.toNatClampNeg := by
        obtain ⟨j, hj, rfl⟩ := nI_of h0
        rw [nI_clamp hj]
        exact (nI_leI hN hj).mp h1
      rw [← hg, show tw_put0 N (A q) i v = A q from if_pos (Or.inr h2), tw_upA]
      exact tw_retE (cd := tw_c75) rfl rfl rfl rfl
    · refine tw_br (cd := tw_c75) rfl rfl rfl (by exact if_neg h1) ?_
      refine tw_blk (cd := tw_c75) rfl 3 (c1 := (11, [some (.ref q), some (.int i), some (.int v)], [.int v, .int i, .ref q], (I, L, P, A, J, 57))) rfl ?_
      have h2 : ¬ (i < 0 ∨ N ≤ i.toNatClampNeg) := by
        rintro (h | h)
        · exact h0 h
        · obtain ⟨j, hj, rfl⟩ := nI_of h0
          rw [nI_clamp hj] at h
          exact h1 ((nI_leI hN hj).mpr h)
      refine tw_iast (cd := tw_c75) (N := N) (row := g) rfl rfl hq hk (by rw [← hg]; unfold tw_st tw_put0; rw [if_neg h2, if_neg h2]) ?_
      exact tw_retE (cd := tw_c75) rfl rfl rfl rfl
theorem tw_e_fill0 (I : Nat → Int32) (L : Nat → Int64) (P : Nat → Nat → Nat) (A : Nat → Nat → Int32) (J : Nat → Nat → Int64) {q N : Nat} (hq : Nat.blt q 57 = true) (hk : tw_sh q = (11, N)) (hN : N < 2147483648) (v : Int32) (f : Nat → Int32) : ∀ (m j : Nat), N = j + m → tw_ME 322 (5, [some (.ref q), some (.int v), some (.int (nI j)), some (.int (nI N))], [], (I, L, P, va_up A q (fun i => if i < j then v else f i), J, 57)) (none, (I, L, P, va_up A q (tw_fill0 N f v), J, 57))
  | 0, j, h => by
    have e : j = N := by omega
    subst e
    refine tw_blk (cd := tw_c322) rfl 2 (c1 := (7, [some (.ref q), some (.int v), some (.int (nI j)), some (.int (nI j))], [.int (nI j), .int (nI j)], (I, L, P, va_up A q (fun i => if i < j then v else f i), J, 57))) rfl ?_
    refine tw_br (cd := tw_c322) rfl rfl rfl (by exact if_pos (nI_le (Nat.le_refl _) hN)) ?_
    exact tw_retE (cd := tw_c322) rfl rfl rfl rfl
  | m + 1, j, h => by
    have hj : j < N := by omega
    refine tw_blk (cd := tw_c322) rfl 2 (c1 := (7, [some (.ref q), some (.int v), some (.int (nI j)), some (.int (nI N))], [.int (nI N), .int (nI j)], (I, L, P, va_up A q (fun i => if i < j then v else f i), J, 57))) rfl ?_
    refine tw_br (cd := tw_c322) rfl rfl rfl (by exact if_neg (nI_ge hj hN)) ?_
    refine tw_blk (cd := tw_c322) rfl 3 (c1 := (11, [some (.ref q), some (.int v), some (.int (nI j)), some (.int (nI N))], [.int v, .int (nI j), .ref q], (I, L, P, va_up A q (fun i => if i < j then v else f i), J, 57))) rfl ?_
    refine tw_iast (cd := tw_c322) (N := N) (row := fun i => if i < j + 1 then v else f i) rfl rfl hq hk ?_ ?_
    · unfold tw_st
      rw [if_neg (nI_in hj hN), va_up_self, nI_clamp (by omega)]
      congr 1
      funext i
      unfold upd
      by_cases e : i = j
      · rw [if_pos e, if_pos (by omega)]
      · rw [if_neg e]
        dsimp only
        by_cases e2 : i < j
        · rw [if_pos e2, if_pos (by omega)]
        · rw [if_neg e2, if_neg (by omega)]
    · rw [tw_upA2]
      refine tw_blk (cd := tw_c322) rfl 2 (c1 := (5, [some (.ref q), some (.int v), some (.int (nI j + 1)), some (.int (nI N))], [], (I, L, P, va_up A q (fun i => if i < j + 1 then v else f i), J, 57))) rfl ?_
      rw [nI_1]
      exact tw_e_fill0 I L P A J hq hk hN v f m (j + 1) (by omega)
theorem tw_e_fill (I : Nat → Int32) (L : Nat → Int64) (P : Nat → Nat → Nat) (A : Nat → Nat → Int32) (J : Nat → Nat → Int64) {q N : Nat} (hq : Nat.blt q 57 = true) (hk : tw_sh q = (11, N)) (hN : N < 2147483648) (v : Int32) (g : Nat → Int32) (hg : tw_fill0 N (A q) v = g) : tw_ME 322 (0, [some (.ref q), some (.int v), none, none], [], (I, L, P, A, J, 57)) (none, (I, L, P, va_up A q g, J, 57)) := by
  refine tw_blk (cd := tw_c322) rfl 3 (c1 := (3, [some (.ref q), some (.int v), some (.int 0), none], [.ref q], (I, L, P, A, J, 57))) rfl ?_
  refine tw_alen (cd := tw_c322) rfl rfl hq hk ?_
  refine tw_blk (cd := tw_c322) rfl 1 (c1 := (5, [some (.ref q), some (.int v), some (.int 0), some (.int (nI N))], [], (I, L, P, A, J, 57))) rfl ?_
  have h := tw_e_fill0 I L P A J hq hk hN v (A q) N 0 (by omega)
  rw [hg, nI_0] at h
  have e : (fun i => if i < 0 then v else A q i) = A q := by
    funext i
    rw [if_neg (Nat.not_lt_zero i)]
  rw [e, tw_upA] at h
  exact h
theorem tw_e_copyL (I : Nat → Int32) (L : Nat → Int64) (P : Nat → Nat → Nat) (A : Nat → Nat → Int32) (J : Nat → Nat → Int64) {q1 q2 N1 N2 : Nat} (hq1 : Nat.blt q1 57 = true) (hk1 : tw_sh q1 = (11, N1)) (hq2 : Nat.blt q2 57 = true) (hk2 : tw_sh q2 = (11, N2)) (hne : q1 ≠ q2) (a into many : Int32) (w : Nat → Int32) : ∀ (n : Nat) (k : Int32) (g : Nat → Int32), tw_copyL N1 (A q1) N2 a into many n k g = some w → tw_ME 199 (2, [some (.ref q1), some (.int a), some (.ref q2), some (.int into), some (.int many), some (.int k)], [], (I, L, P, va_up A q2 g, J, 57)) (none, (I, L, P, va_up A q2 w, J, 57))
  | 0, k, g, h => by cases h
  | n + 1, k, g, h => by
    rw [tw_copyL] at h
    refine tw_blk (cd := tw_c199) rfl 2 (c1 := (4, [some (.ref q1), some (.int a), some (.ref q2), some (.int into), some (.int many), some (.int k)], [.int many, .int k], (I, L, P, va_up A q2 g, J, 57))) rfl ?_
    by_cases hm : many ≤ k
    · rw [if_pos hm] at h
      cases h
      refine tw_br (cd := tw_c199) rfl rfl rfl (by exact if_pos hm) ?_
      exact tw_retE (cd := tw_c199) rfl rfl rfl rfl
    · rw [if_neg hm] at h
      obtain ⟨x, hx, h⟩ := tw_bindE h
      obtain ⟨g2, hg2, h⟩ := tw_bindE h
      refine tw_br (cd := tw_c199) rfl rfl rfl (by exact if_neg hm) ?_
      refine tw_blk (cd := tw_c199) rfl 8 (c1 := (13, [some (.ref q1), some (.int a), some (.ref q2), some (.int into), some (.int many), some (.int k)], [.int (a + k), .ref q1, .int (into + k), .ref q2], (I, L, P, va_up A q2 g, J, 57))) rfl ?_
      refine tw_iald (cd := tw_c199) (N := N1) rfl rfl hq1 hk1 (by rw [va_up_ne _ _ hne]; exact hx) ?_
      refine tw_iast (cd := tw_c199) (N := N2) rfl rfl hq2 hk2 (by rw [va_up_self]; exact hg2) ?_
      rw [tw_upA2]
      refine tw_blk (cd := tw_c199) rfl 2 (c1 := (2, [some (.ref q1), some (.int a), some (.ref q2), some (.int into), some (.int many), some (.int (k + 1))], [], (I, L, P, va_up A q2 g2, J, 57))) rfl ?_
      exact tw_e_copyL I L P A J hq1 hk1 hq2 hk2 hne a into many w n (k + 1) g2 h
theorem tw_e_copy (I : Nat → Int32) (L : Nat → Int64) (P : Nat → Nat → Nat) (A : Nat → Nat → Int32) (J : Nat → Nat → Int64) {q1 q2 N1 N2 : Nat} (hq1 : Nat.blt q1 57 = true) (hq2 : Nat.blt q2 57 = true) (hk1 : tw_sh q1 = (11, N1)) (hk2 : tw_sh q2 = (11, N2)) (hne : q1 ≠ q2) (a into many : Int32) (w : Nat → Int32) (hw : tw_copy0 N1 (A q1) N2 (A q2) a into many = some w) : tw_ME 199 (0, [some (.ref q1), some (.int a), some (.ref q2), some (.int into), some (.int many), none], [], (I, L, P, A, J, 57)) (none, (I, L, P, va_up A q2 w, J, 57)) := by
  refine tw_blk (cd := tw_c199) rfl 2 (c1 := (2, [some (.ref q1), some (.int a), some (.ref q2), some (.int into), some (.int many), some (.int 0)], [], (I, L, P, A, J, 57))) rfl ?_
  have h := tw_e_copyL I L P A J hq1 hk1 hq2 hk2 hne a into many w 4096 0 (A q2) hw
  rw [tw_upA] at h
  exact h
/-- locals that nobody reads any more -/
def tw_leP : tw_Ls → tw_Ls → Prop
  | [], [] => True
  | none :: a, _ :: b => tw_leP a b
  | some v :: a, x :: b => x = some v ∧ tw_leP a b
  | _, _ => False
theorem tw_leP_len : ∀ (a b : tw_Ls), tw_leP a b → a.length = b.length
  | [], [], _ => rfl
  | none :: a, _ :: b, h => by rw [List.length_cons, List.length_cons, tw_leP_len a b h]
  | some v :: a, x :: b, h => by rw [List.length_cons, List.length_cons, tw_leP_len a b h.2]
  | [], _ :: _, h => h.elim
  | none :: _, [], h => h.elim
  | some _ :: _, [], h => h.elim
theorem tw_leP_get : ∀ (a b : tw_Ls) (i : Nat) (v : Value), tw_leP a b → a[i]? = some (some v) → b[i]? = some (some v)
  | [], _, i, v, _, h => by simp at h
  | none :: a, [], i, v, h, _ => h.elim
  | some _ :: a, [], i, v, h, _ => h.elim
  | none :: a, x :: b, 0, v, h, h2 => by simp at h2
  | some u :: a, x :: b, 0, v, h, h2 => by
    obtain ⟨rfl, -⟩ := h
    exact h2
  | none :: a, x :: b, i + 1, v, h, h2 => by
    rw [List.getElem?_cons_succ] at h2 ⊢
    exact tw_leP_get a b i v h h2
  | some u :: a, x :: b, i + 1, v, h, h2 => by
    rw [List.getElem?_cons_succ] at h2 ⊢
    exact tw_leP_get a b i v h.2 h2
theorem tw_leP_set : ∀ (a b : tw_Ls) (i : Nat) (o : Option Value), tw_leP a b → tw_leP (a.set i o) (b.set i o)
  | [], [], i, o, _ => by simp [tw_leP]
  | [], _ :: _, i, o, h => h.elim
  | none :: a, [], i, o, h => h.elim
  | some _ :: a, [], i, o, h => h.elim
  | none :: a, x :: b, 0, o, h => by
    rw [List.set_cons_zero, List.set_cons_zero]
    cases o with
    | none => exact h
    | some v => exact ⟨rfl, h⟩
  | some u :: a, x :: b, 0, o, h => by
    rw [List.set_cons_zero, List.set_cons_zero]
    cases o with
    | none => exact h.2
    | some v => exact ⟨rfl, h.2⟩
  | none :: a, x :: b, i + 1, o, h => by
    rw [List.set_cons_succ, List.set_cons_succ]
    exact tw_leP_set a b i o h
  | some u :: a, x :: b, i + 1, o, h => by
    rw [List.set_cons_succ, List.set_cons_succ]
    exact ⟨h.1, tw_leP_set a b i o h.2⟩
theorem tw_leP_setN : ∀ (a b : tw_Ls) (i : Nat), tw_leP a b → (∀ v, a[i]? ≠ some (some v)) → tw_leP a (b.set i none)
  | [], [], i, _, _ => by simp [tw_leP]
  | [], _ :: _, i, h, _ => h.elim
  | none :: a, [], i, h, _ => h.elim
  | some _ :: a, [], i, h, _ => h.elim
  | none :: a, x :: b, 0, h, _ => h
  | some u :: a, x :: b, 0, h, h2 => absurd rfl (h2 u)
  | none :: a, x :: b, i + 1, h, h2 => by
    rw [List.set_cons_succ]
    exact tw_leP_setN a b i h (fun v => by have := h2 v; rw [List.getElem?_cons_succ] at this; exact this)
  | some u :: a, x :: b, i + 1, h, h2 => by
    rw [List.set_cons_succ]
    exact ⟨h.1, tw_leP_setN a b i h.2 (fun v => by have := h2 v; rw [List.getElem?_cons_succ] at this; exact this)⟩
theorem tw_leP_tget {a b : tw_Ls} {i : Nat} {v : Value} (h : tw_leP a b) (hg : tw_get a i = some v) : tw_get b i = some v := by
  unfold tw_get at hg ⊢
  split at hg
  · next u hu => cases hg; rw [tw_leP_get a b i _ h hu]
  · cases hg
theorem tw_leP_clr {a b : tw_Ls} (i : Nat) (h : tw_leP a b) : tw_leP (tw_clr a i) (tw_clr b i) := by
  unfold tw_clr
  cases i with
  | zero => exact h
  | succ j =>
    dsimp only
    cases ha : a[j]? with
    | none =>
      have hl := tw_leP_len a b h
      have hb : b[j]? = none := by
        rw [List.getElem?_eq_none_iff] at ha ⊢
        omega
      rw [hb]
      exact h
    | some o =>
      cases o with
      | some v =>
        rw [tw_leP_get a b j v h ha]
        dsimp only
        split
        · exact tw_leP_set a b j none h
        · exact h
      | none =>
        dsimp only
        split
        · split
          · exact tw_leP_setN a b j h (fun v hv => by rw [ha] at hv; cases hv)
          · exact h
        · exact h
theorem tw_leP_set1 {a b a' : tw_Ls} {i : Nat} {v : Value} (h : tw_leP a b) (hs : tw_set1 a i v = some a') : ∃ b', tw_set1 b i v = some b' ∧ tw_leP a' b' := by
  unfold tw_set1 at hs ⊢
  split at hs
  · next hi =>
    cases hs
    rw [if_pos (by rw [← tw_leP_len a b h]; exact hi)]
    exact ⟨_, rfl, tw_leP_set _ _ i _ (tw_leP_clr i h)⟩
  · cases hs
theorem tw_leP_set2 {a b a' : tw_Ls} {i : Nat} {v : Value} (h : tw_leP a b) (hs : tw_set2 a i v = some a') : ∃ b', tw_set2 b i v = some b' ∧ tw_leP a' b' := by
  unfold tw_set2 at hs ⊢
  split at hs
  · next hi =>
    cases hs
    rw [if_pos (by rw [← tw_leP_len a b h]; exact hi)]
    exact ⟨_, rfl, tw_leP_set _ _ _ _ (tw_leP_set _ _ i _ (tw_leP_clr i h))⟩
  · cases hs
theorem tw_leP_rfl : ∀ (a : tw_Ls), tw_leP a a
  | [] => trivial
  | none :: a => tw_leP_rfl a
  | some v :: a => ⟨rfl, tw_leP_rfl a⟩
theorem tw_put_eqn {σ σ' : tw_S} {q b t : Nat} {z : Int32} {x : Value} (h : tw_put σ q b t z x = some σ') : σ'.2.2.2.2.2 = σ.2.2.2.2.2 := by
  obtain ⟨I, L, P, A, J, nc⟩ := σ
  unfold tw_put at h
  dsimp only at h
  split at h
  · split at h
    · cases h; rfl
    · cases h
  · cases h; rfl
  · split at h
    · cases h; rfl
    · cases h
  · cases h
theorem tw_ast_eqn {σ σ' : tw_S} {kd q : Nat} {i x : Int32} (h : tw_ast σ kd q i x = some σ') : σ'.2.2.2.2.2 = σ.2.2.2.2.2 := by
  obtain ⟨I, L, P, A, J, nc⟩ := σ
  unfold tw_ast at h
  dsimp only at h
  split at h
  · split at h
    · cases h
    · cases h; rfl
  · cases h
theorem tw_copy_eqn {σ σ' : tw_S} {s d : Nat} {sp dp n : Int32} (h : tw_copy σ s d sp dp n = some σ') : σ'.2.2.2.2.2 = σ.2.2.2.2.2 := by
  obtain ⟨I, L, P, A, J, nc⟩ := σ
  unfold tw_copy at h
  dsimp only at h
  split at h
  · cases h; rfl
  · cases h
theorem tw_new_no {σ : tw_S} (hn : σ.2.2.2.2.2 = 57) (a : Nat) : tw_new σ a = none := by
  obtain ⟨I, L, P, A, J, nc⟩ := σ
  dsimp only at hn
  subst hn
  unfold tw_new
  dsimp only
  refine if_neg (fun h => ?_)
  have h1 : (tw_sh 57).1 = 99 := rfl
  rw [h1] at h
  omega
theorem tw_newa_no {σ : tw_S} (hn : σ.2.2.2.2.2 = 57) (t : Nat) (n : Int32) : tw_newa σ t n = none := by
  obtain ⟨I, L, P, A, J, nc⟩ := σ
  dsimp only at hn
  subst hn
  unfold tw_newa
  dsimp only
  split
  · next h =>
    have h1 : (tw_sh 57).1 = 99 := rfl
    rw [h1] at h
    obtain ⟨-, rfl, -⟩ := h
    rfl
  · rfl
set_option maxHeartbeats 8000000 in
theorem tw_s1_forget {cd : List tw_E} {e : tw_E} {k : Nat} {ls ls2 : tw_Ls} {st : List Value} {σ : tw_S} {k1 : Nat} {l1 : tw_Ls} {st1 : List Value} {σ1 : tw_S} (h : tw_leP ls2 ls) (hn : σ.2.2.2.2.2 = 57) (hs : tw_s1 cd e k ls2 st σ = some (k1, l1, st1, σ1)) : ∃ l2, tw_s1 cd e k ls st σ = some (k1, l2, st1, σ1) ∧ tw_leP l1 l2 ∧ σ1.2.2.2.2.2 = 57 := by
  obtain ⟨pc, i, len, a, b, t, v, w⟩ := e
  unfold tw_s1 at hs ⊢
  dsimp only at hs
  split at hs
  all_goals dsimp only
  all_goals first
    | (cases hs; done)
    | (cases hs; exact ⟨_, rfl, h, hn⟩)
    | (split at hs
       · cases hs; rename_i hc; exact ⟨_, if_pos hc, h, hn⟩
       · cases hs; rename_i hc; exact ⟨_, if_neg hc, h, hn⟩)
    | (split at hs
       · cases hs; done
       · cases hs; rename_i hc; exact ⟨_, if_neg hc, h, hn⟩)
    | (split at hs
       · cases hs; rename_i hc; exact ⟨_, if_pos hc, h, hn⟩
       · cases hs; done)
    | (split at hs
       · rename_i hg; cases hs; rw [tw_leP_tget h hg]; exact ⟨_, rfl, h, hn⟩
       · cases hs; done)
    | (obtain ⟨z, hz, hq⟩ := Option.map_eq_some_iff.mp hs
       cases hq
       obtain ⟨l2, hl2, hle⟩ := tw_leP_set1 h hz
       rw [hl2]
       exact ⟨_, rfl, hle, hn⟩)
    | (obtain ⟨z, hz, hq⟩ := Option.map_eq_some_iff.mp hs
       cases hq
       obtain ⟨l2, hl2, hle⟩ := tw_leP_set2 h hz
       rw [hl2]
       exact ⟨_, rfl, hle, hn⟩)
    | (obtain ⟨z, hz, hq⟩ := Option.map_eq_some_iff.mp hs
       cases hq
       rw [hz]
       exact ⟨_, rfl, h, hn⟩)
    | (obtain ⟨z, hz, hq⟩ := Option.map_eq_some_iff.mp hs
       cases hq
       rw [hz]
       exact ⟨_, rfl, h, (tw_ast_eqn hz).trans hn⟩)
    | (split at hs
       · rename_i hg
         obtain ⟨z, hz, hq⟩ := Option.map_eq_some_iff.mp hs
         cases hq
         obtain ⟨l2, hl2, hle⟩ := tw_leP_set1 h hz
         rw [tw_leP_tget h hg]
         dsimp only
         rw [hl2]
         exact ⟨_, rfl, hle, hn⟩
       · cases hs; done)
    | (split at hs
       · rename_i hg
         obtain ⟨z, hz, hq⟩ := Option.map_eq_some_iff.mp hs
         cases hq
         rw [if_pos hg, hz]
         exact ⟨_, rfl, h, (tw_put_eqn hz).trans hn⟩
       · cases hs; done)
    | (split at hs
       · rw [tw_newa_no hn] at hs; cases hs
       · cases hs; done)
    | (split at hs
       · rw [tw_new_no hn] at hs; cases hs
       · cases hs; done)
    | (split at hs
       split at hs
       · rename_i hg
         rw [if_pos hg]
         split at hs
         · cases hs; done
         · rename_i hc; cases hs; exact ⟨_, if_neg hc, h, hn⟩
       · cases hs; done)
    | (split at hs
       · rename_i hg
         rw [if_pos hg]
         split at hs
         · cases hs; done
         · rename_i hc; cases hs; exact ⟨_, if_neg hc, h, hn⟩
       · cases hs; done)
    | (split at hs
       · rename_i hg
         rw [if_neg hg.1]
         split at hs <;> first | (cases hs; done) | (cases hs; exact ⟨_, rfl, h, hn⟩)
       · cases hs; done)
    | skip
  · split at hs
    · rename_i hc
      cases hs
      exact ⟨_, if_pos hc, h, hn⟩
    · rename_i hc
      rw [if_neg hc]
      split at hs
      · cases hs
        exact ⟨_, rfl, h, hn⟩
      · cases hs
  · split at hs
    · rename_i hc
      cases hs
      exact ⟨_, if_pos hc, h, hn⟩
    · rename_i h4
      rw [if_neg h4]
      split at hs
      · rename_i h5
        rw [if_pos h5]
        split at hs
        · split at hs
          · rename_i h6
            cases hs
            exact ⟨_, if_pos h6, h, hn⟩
          · cases hs
        · cases hs
      · rename_i h5
        rw [if_neg h5]
        split at hs
        · rename_i h6
          rw [if_pos h6]
          split at hs
          · split at hs
            · rename_i h7
              obtain ⟨z, hz, hq⟩ := Option.map_eq_some_iff.mp hs
              cases hq
              rw [if_pos h7, hz]
              exact ⟨_, rfl, h, (tw_copy_eqn hz).trans hn⟩
            · cases hs
          · cases hs
        · cases hs
theorem tw_run_57 : ∀ (n y k : Nat) (ls : tw_Ls) (st : List Value) (σ : tw_S) (c' : tw_C), σ.2.2.2.2.2 = 57 → tw_run n y (k, ls, st, σ) = some c' → c'.2.2.2.2.2.2.2.2 = 57
  | 0, _, _, _, _, _, _, _, h => by cases h
  | n + 1, y, k, ls, st, σ, c', hn, h => by
    rw [tw_run] at h
    cases he : (tw_code y)[k]? with
    | none => rw [he] at h; cases h
    | some e =>
      rw [he] at h
      dsimp only at h
      by_cases h1 : tw_end e = true
      · rw [if_pos h1] at h
        cases h
        exact hn
      · rw [if_neg h1] at h
        by_cases h2 : tw_call e = true
        · rw [if_pos h2] at h
          cases hp : tw_pre e st σ.2.2.2.2.2 with
          | none => rw [hp] at h; cases h
          | some q =>
            obtain ⟨as, rest⟩ := q
            rw [hp] at h
            dsimp only at h
            by_cases h3 : (tw_al as).length ≤ tw_ml e.2.2.2.1
            · rw [if_pos h3] at h
              cases hr : tw_run n e.2.2.2.1 (0, tw_args as (tw_ml e.2.2.2.1), [], σ) with
              | none => rw [hr] at h; cases h
              | some c2 =>
                rw [hr] at h
                dsimp only at h
                have hn2 := tw_run_57 n _ _ _ _ _ c2 hn hr
                cases ho : tw_out e.2.2.2.1 c2 with
                | none => rw [ho] at h; cases h
                | some q2 =>
                  obtain ⟨r, σ'⟩ := q2
                  rw [ho] at h
                  dsimp only at h
                  have h5 := tw_out_nc ho
                  subst h5
                  by_cases h4 : c2.2.2.2.2.2.2.2.2 = σ.2.2.2.2.2 ∨ tw_vok σ.2.2.2.2.2 ls rest = true
                  · rw [if_pos h4] at h
                    exact tw_run_57 n _ _ _ _ _ c' hn2 h
                  · rw [if_neg h4] at h; cases h
            · rw [if_neg h3] at h; cases h
        · rw [if_neg h2] at h
          cases hs : tw_s1 (tw_code y) e k ls st σ with
          | none => rw [hs] at h; cases h
          | some c1 =>
            rw [hs] at h
            obtain ⟨k1, l1, st1, σ1⟩ := c1
            obtain ⟨_, -, -, hn1⟩ := tw_s1_forget (tw_leP_rfl ls) hn hs
            exact tw_run_57 n _ _ _ _ _ c' hn1 h
theorem tw_run_forget : ∀ (n y k : Nat) (ls ls2 : tw_Ls) (st : List Value) (σ : tw_S) (c' : tw_C), tw_leP ls2 ls → σ.2.2.2.2.2 = 57 → tw_run n y (k, ls2, st, σ) = some c' → ∃ l, tw_run n y (k, ls, st, σ) = some (c'.1, l, c'.2.2.1, c'.2.2.2)
  | 0, _, _, _, _, _, _, _, _, _, h => by cases h
  | n + 1, y, k, ls, ls2, st, σ, c', hle, hn, h => by
    rw [tw_run] at h
    rw [tw_run]
    cases he : (tw_code y)[k]? with
    | none => rw [he] at h; cases h
    | some e =>
      rw [he] at h
      dsimp only at h ⊢
      by_cases h1 : tw_end e = true
      · rw [if_pos h1] at h ⊢
        cases h
        exact ⟨ls, rfl⟩
      · rw [if_neg h1] at h ⊢
        by_cases h2 : tw_call e = true
        · rw [if_pos h2] at h ⊢
          cases hp : tw_pre e st σ.2.2.2.2.2 with
          | none => rw [hp] at h; cases h
          | some q =>
            obtain ⟨as, rest⟩ := q
            rw [hp] at h
            dsimp only at h ⊢
            by_cases h3 : (tw_al as).length ≤ tw_ml e.2.2.2.1
            · rw [if_pos h3] at h ⊢
              cases hr : tw_run n e.2.2.2.1 (0, tw_args as (tw_ml e.2.2.2.1), [], σ) with
              | none => rw [hr] at h; cases h
              | some c2 =>
                rw [hr] at h
                dsimp only at h ⊢
                have hn2 := tw_run_57 n _ _ _ _ _ c2 hn hr
                cases ho : tw_out e.2.2.2.1 c2 with
                | none => rw [ho] at h; cases h
                | some q2 =>
                  obtain ⟨r, σ'⟩ := q2
                  rw [ho] at h
                  dsimp only at h ⊢
                  have h5 := tw_out_nc ho
                  subst h5
                  rw [if_pos (Or.inl (hn2.trans hn.symm))] at h ⊢
                  exact tw_run_forget n _ _ _ _ _ _ c' hle hn2 h
            · rw [if_neg h3] at h; cases h
        · rw [if_neg h2] at h ⊢
          cases hs : tw_s1 (tw_code y) e k ls2 st σ with
          | none => rw [hs] at h; cases h
          | some c1 =>
            rw [hs] at h
            obtain ⟨k1, l1, st1, σ1⟩ := c1
            obtain ⟨l2, hs2, hle2, hn1⟩ := tw_s1_forget hle hn hs
            rw [hs2]
            exact tw_run_forget n _ _ _ _ _ _ c' hle2 hn1 h
theorem tw_forget {y k : Nat} {ls ls2 : tw_Ls} {st : List Value} {I : Nat → Int32} {L : Nat → Int64} {P : Nat → Nat → Nat} {A : Nat → Nat → Int32} {J : Nat → Nat → Int64} {out : Option Value × tw_S} (h : tw_leP ls2 ls) (hm : tw_ME y (k, ls2, st, (I, L, P, A, J, 57)) out) : tw_ME y (k, ls, st, (I, L, P, A, J, 57)) out := by
  obtain ⟨n, c', h1, h2⟩ := hm
  obtain ⟨l, h3⟩ := tw_run_forget n y k ls ls2 st _ c' h rfl h1
  exact ⟨n, _, h3, h2⟩
/-- String constants, arraycopy, switches -/
def tw_abs (z : Int32) : Int32 := if 0 ≤ z then z else 0 - z
def tw_max (x z : Int32) : Int32 := if x < z then z else x
def tw_ldS (q : Nat) (i : Int32) : Option Int32 := if i < 0 ∨ tw_lenS q ≤ i.toNatClampNeg then none else some (tw_chr q i.toNatClampNeg)
section
variable {y : Nat} {cd : List tw_E} {k q pc len a b x : Nat} {v : Int32} {w : Int64} {ls : tw_Ls} {st : List Value} {σ : tw_S} {out : Option Value × tw_S}
theorem tw_slen (hc : tw_code y = cd) (he : cd[k]? = some (pc, .invokevirtual x, len, a, b, 4, v, w)) (hq : 1000 ≤ q ∧ q < 1019) (hs : Nat.ble (st.map Value.category).sum 8 = true) (h : tw_ME y (k + 1, ls, .int (Int32.ofNat (tw_lenS q)) :: st, σ) out) : tw_ME y (k, ls, .ref q :: st, σ) out := by
  refine tw_br hc he rfl ?_ h
  exact if_pos ⟨rfl, hq.1, hq.2, Nat.le_of_ble_eq_true hs⟩
theorem tw_mabs {z : Int32} (hc : tw_code y = cd) (he : cd[k]? = some (pc, .invokestatic x, len, a, b, 4, v, w)) (hs : Nat.ble (st.map Value.category).sum 8 = true) (h : tw_ME y (k + 1, ls, .int (tw_abs z) :: st, σ) out) : tw_ME y (k, ls, .int z :: st, σ) out := by
  refine tw_br hc he rfl ?_ h
  unfold tw_s1 tw_abs
  dsimp only
  rw [if_pos ⟨rfl, Nat.le_of_ble_eq_true hs⟩]
theorem tw_mmax {z z2 : Int32} (hc : tw_code y = cd) (he : cd[k]? = some (pc, .invokestatic x, len, a, b, 5, v, w)) (hs : Nat.ble (st.map Value.category).sum 8 = true) (h : tw_ME y (k + 1, ls, .int (tw_max z2 z) :: st, σ) out) : tw_ME y (k, ls, .int z :: .int z2 :: st, σ) out := by
  refine tw_br hc he rfl ?_ h
  unfold tw_s1 tw_max
  dsimp only
  rw [if_neg (fun h => absurd h.1 (by decide)), if_pos rfl, if_pos (Nat.le_of_ble_eq_true hs)]
theorem tw_schr {i z : Int32} (hc : tw_code y = cd) (he : cd[k]? = some (pc, .invokevirtual x, len, a, b, 5, v, w)) (hq : 1000 ≤ q ∧ q < 1019) (hs : Nat.ble (st.map Value.category).sum 8 = true) (hz : tw_ldS q i = some z) (h : tw_ME y (k + 1, ls, .int z :: st, σ) out) : tw_ME y (k, ls, .int i :: .ref q :: st, σ) out := by
  refine tw_br hc he rfl ?_ h
  unfold tw_ldS at hz
  show (if (5 : Nat) = 5 ∧ 1000 ≤ q ∧ q < 1019 ∧ (st.map Value.category).sum ≤ 8 then (if i < 0 ∨ tw_lenS q ≤ i.toNatClampNeg then none else some (k + 1, ls, .int (tw_chr q i.toNatClampNeg) :: st, σ)) else none) = some (k + 1, ls, .int z :: st, σ)
  rw [if_pos ⟨rfl, hq.1, hq.2, Nat.le_of_ble_eq_true hs⟩]
  split at hz
  · cases hz
  · next hin => rw [if_neg hin, Option.some.inj hz]
theorem tw_tsD {d lo hi : Int} {offs : Array Int} {k2 t : Nat} (hc : tw_code y = cd) (he : cd[k]? = some (pc, .tableswitch d lo hi offs, len, a, b, t, v, w)) {z : Int32} (ho : z.toInt < lo ∨ hi < z.toInt) (hk : tw_ix cd ((pc : Int) + d).toNat = k2) (h : tw_ME y (k2, ls, st, σ) out) : tw_ME y (k, ls, .int z :: st, σ) out := by
  refine tw_br hc he rfl ?_ h
  rw [← hk]
  exact if_pos ho
theorem tw_lsD {d : Int} {ps : Array (Int × Int)} {k2 t : Nat} (hc : tw_code y = cd) (he : cd[k]? = some (pc, .lookupswitch d ps, len, a, b, t, v, w)) {z : Int32} (ho : ps.toList.all (fun q => !(decide (q.1 = z.toInt))) = true) (hk : tw_ix cd ((pc : Int) + d).toNat = k2) (h : tw_ME y (k2, ls, st, σ) out) : tw_ME y (k, ls, .int z :: st, σ) out := by
  refine tw_br hc he rfl ?_ h
  rw [← hk]
  have e : Op.lookupswitch.offset ps.toList d z.toInt = d := by
    revert ho
    generalize ps.toList = l
    intro ho
    induction l with
    | nil => rfl
    | cons p r ih =>
      obtain ⟨m, o⟩ := p
      rw [List.all_cons, Bool.and_eq_true, Bool.not_eq_true', decide_eq_false_iff_not] at ho
      rw [Op.lookupswitch.offset]
      rw [if_neg (fun h => ho.1 h)]
      exact ih ho.2
  show some (tw_ix cd ((pc : Int) + Op.lookupswitch.offset ps.toList d z.toInt).toNat, ls, st, σ) = _
  rw [e]
theorem tw_acp {I : Nat → Int32} {L : Nat → Int64} {P : Nat → Nat → Nat} {A : Nat → Nat → Int32} {J : Nat → Nat → Int64} {s d N1 N2 : Nat} {sp dp n : Int32} {f : Nat → Int32} (hc : tw_code y = cd) (he : cd[k]? = some (pc, .invokestatic x, len, a, b, 6, v, w)) (hs : Nat.ble (st.map Value.category).sum 8 = true) (h1 : tw_sh s = (11, N1) ∧ s < 57) (h2 : tw_sh d = (11, N2) ∧ d < 57) (h3 : ¬ sp < 0 ∧ ¬ dp < 0 ∧ ¬ n < 0) (h4 : sp.toNatClampNeg + n.toNatClampNeg ≤ N1 ∧ dp.toNatClampNeg + n.toNatClampNeg ≤ N2) (hw : va_cpy (A s) (A d) sp.toNatClampNeg dp.toNatClampNeg n.toNatClampNeg = f) (h : tw_ME y (k + 1, ls, st, (I, L, P, va_up A d f, J, 57)) out) : tw_ME y (k, ls, .int n :: .int dp :: .ref d :: .int sp :: .ref s :: st, (I, L, P, A, J, 57)) out := by
  refine tw_br hc he rfl ?_ h
  unfold tw_s1
  dsimp only
  rw [if_neg (fun h => absurd h.1 (by decide)), if_neg (by decide), if_pos rfl, if_pos (Nat.le_of_ble_eq_true hs)]
  unfold tw_copy
  dsimp only
  rw [h1.1, h2.1, if_pos ⟨h1.2, rfl, h2.2, rfl, h3.1, h3.2.1, h3.2.2, h4.1, h4.2⟩, hw]
  rfl
end
