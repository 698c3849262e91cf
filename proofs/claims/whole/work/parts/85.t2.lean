/-! MATHEMATICS, 36: the words that are known; the class's rows that ask for them (its rows a word by wip/gen/mkt2.py) -/
def tp_kc (i j : Nat) : Nat := ((tw_byt.getD i []).getD j 0).toBitVec.toNat
def tp_kl (i : Nat) : Nat := (tw_byt.getD i []).length
def tp_kv (i : Nat) : Nat := tp_wv (tp_kc i) 0 (tp_kl i)
theorem tp_kvB : ∀ i, i < 19 → tp_kv i < 2 ^ 40 := by decide +kernel
theorem tp_num : ∀ i, i < 19 → g_X7_numberOf (1000 + i) = some (lN (tp_kv i)) := by decide +kernel
/-- the token is that word -/
def tp_is (c : Nat → Nat) (n e i : Nat) : Bool := decide (tp_kd c n e = 1 ∧ tp_v c n e = tp_kv i)
theorem tp_T9_A {c : Nat → Nat} {n : Nat} {I : Nat → Int32} {L : Nat → Int64} {A A1 : Nat → Nat → Int32} {e : Nat} (h : tp_T9 c n I L A e) (hA : A1 1 = A 1) : tp_T9 c n I L A1 e := by
  obtain ⟨⟨b1, b2⟩, h2⟩ := h
  exact ⟨⟨b1, fun j hj => by rw [hA]; exact b2 j hj⟩, h2⟩
theorem tp_T9_I {c : Nat → Nat} {n : Nat} {I I1 : Nat → Int32} {L : Nat → Int64} {A : Nat → Nat → Int32} {e : Nat} (h : tp_T9 c n I L A e) (hI : ∀ k, 3200 < k → k < 3206 → I1 k = I k) : tp_T9 c n I1 L A e := by
  obtain ⟨b, h1, h2, h3, h4, h5, h6, h7⟩ := h
  refine ⟨b, h1, ?_, ?_, ?_, fun q => ?_, h6, h7⟩
  · rw [hI 3201 (by decide) (by decide)]; exact h2
  · rw [hI 3203 (by decide) (by decide)]; exact h3
  · rw [hI 3205 (by decide) (by decide)]; exact h4
  · rw [hI 3204 (by decide) (by decide)]; exact h5 q
theorem tp_T9_k {c : Nat → Nat} {n : Nat} {I : Nat → Int32} {L : Nat → Int64} {A : Nat → Nat → Int32} {e : Nat} (h : tp_T9 c n I L A e) {k : Nat} (hk : k ≤ 4) : I 3205 = nI k ↔ tp_kd c n e = k := by
  have h1 := tp_kd4 c n e
  rw [h.2.2.2.2.1, nI_eq (by omega) (by omega)]
theorem tp_T9_k0 {c : Nat → Nat} {n : Nat} {I : Nat → Int32} {L : Nat → Int64} {A : Nat → Nat → Int32} {e : Nat} (h : tp_T9 c n I L A e) : I 3205 = 0 ↔ tp_kd c n e = 0 := tp_T9_k h (k := 0) (by decide)
theorem tp_T9_k1 {c : Nat → Nat} {n : Nat} {I : Nat → Int32} {L : Nat → Int64} {A : Nat → Nat → Int32} {e : Nat} (h : tp_T9 c n I L A e) : I 3205 = (1 : Int32) ↔ tp_kd c n e = 1 := tp_T9_k h (k := 1) (by decide)
theorem tp_T9_k2 {c : Nat → Nat} {n : Nat} {I : Nat → Int32} {L : Nat → Int64} {A : Nat → Nat → Int32} {e : Nat} (h : tp_T9 c n I L A e) : I 3205 = (2 : Int32) ↔ tp_kd c n e = 2 := tp_T9_k h (k := 2) (by decide)
theorem tp_T9_k3 {c : Nat → Nat} {n : Nat} {I : Nat → Int32} {L : Nat → Int64} {A : Nat → Nat → Int32} {e : Nat} (h : tp_T9 c n I L A e) : I 3205 = (3 : Int32) ↔ tp_kd c n e = 3 := tp_T9_k h (k := 3) (by decide)
theorem tp_isW9 {c : Nat → Nat} {n : Nat} {I : Nat → Int32} {L : Nat → Int64} {A : Nat → Nat → Int32} {e i : Nat} (h : tp_T9 c n I L A e) (hi : i < 19) : g_X7_isWord I L (1000 + i) = some (tp_is c n e i) := by
  unfold g_X7_isWord
  by_cases g : tp_kd c n e = 1
  · rw [if_pos ((tp_T9_k1 h).mpr g), tp_num i hi, Option.bind_some, h.2.2.2.2.2.2.1 g]
    have hv := tp_v_lt g
    have hk := tp_kvB i hi
    by_cases g2 : tp_v c n e = tp_kv i
    · rw [if_pos (by rw [lg_cmp_eq, g2]), show tp_is c n e i = true from decide_eq_true ⟨g, g2⟩]
    · rw [if_neg (by rw [lg_cmp_eq, pk_lEQ (by omega) (by omega)]; exact g2), show tp_is c n e i = false from decide_eq_false (fun q => g2 q.2)]
  · rw [if_neg (fun q => g ((tp_T9_k1 h).mp q)), show tp_is c n e i = false from decide_eq_false (fun q => g q.1)]
theorem tp_w9_0 {c : Nat → Nat} {n : Nat} {I : Nat → Int32} {L : Nat → Int64} {A : Nat → Nat → Int32} {e : Nat} (h : tp_T9 c n I L A e) : g_X7_isWord I L 1000 = some (tp_is c n e 0) := tp_isW9 h (i := 0) (by decide)
theorem tp_w9_1 {c : Nat → Nat} {n : Nat} {I : Nat → Int32} {L : Nat → Int64} {A : Nat → Nat → Int32} {e : Nat} (h : tp_T9 c n I L A e) : g_X7_isWord I L 1001 = some (tp_is c n e 1) := tp_isW9 h (i := 1) (by decide)
theorem tp_w9_2 {c : Nat → Nat} {n : Nat} {I : Nat → Int32} {L : Nat → Int64} {A : Nat → Nat → Int32} {e : Nat} (h : tp_T9 c n I L A e) : g_X7_isWord I L 1002 = some (tp_is c n e 2) := tp_isW9 h (i := 2) (by decide)
theorem tp_w9_3 {c : Nat → Nat} {n : Nat} {I : Nat → Int32} {L : Nat → Int64} {A : Nat → Nat → Int32} {e : Nat} (h : tp_T9 c n I L A e) : g_X7_isWord I L 1003 = some (tp_is c n e 3) := tp_isW9 h (i := 3) (by decide)
theorem tp_w9_4 {c : Nat → Nat} {n : Nat} {I : Nat → Int32} {L : Nat → Int64} {A : Nat → Nat → Int32} {e : Nat} (h : tp_T9 c n I L A e) : g_X7_isWord I L 1004 = some (tp_is c n e 4) := tp_isW9 h (i := 4) (by decide)
theorem tp_w9_5 {c : Nat → Nat} {n : Nat} {I : Nat → Int32} {L : Nat → Int64} {A : Nat → Nat → Int32} {e : Nat} (h : tp_T9 c n I L A e) : g_X7_isWord I L 1005 = some (tp_is c n e 5) := tp_isW9 h (i := 5) (by decide)
theorem tp_w9_6 {c : Nat → Nat} {n : Nat} {I : Nat → Int32} {L : Nat → Int64} {A : Nat → Nat → Int32} {e : Nat} (h : tp_T9 c n I L A e) : g_X7_isWord I L 1006 = some (tp_is c n e 6) := tp_isW9 h (i := 6) (by decide)
theorem tp_w9_7 {c : Nat → Nat} {n : Nat} {I : Nat → Int32} {L : Nat → Int64} {A : Nat → Nat → Int32} {e : Nat} (h : tp_T9 c n I L A e) : g_X7_isWord I L 1007 = some (tp_is c n e 7) := tp_isW9 h (i := 7) (by decide)
theorem tp_w9_8 {c : Nat → Nat} {n : Nat} {I : Nat → Int32} {L : Nat → Int64} {A : Nat → Nat → Int32} {e : Nat} (h : tp_T9 c n I L A e) : g_X7_isWord I L 1008 = some (tp_is c n e 8) := tp_isW9 h (i := 8) (by decide)
theorem tp_w9_9 {c : Nat → Nat} {n : Nat} {I : Nat → Int32} {L : Nat → Int64} {A : Nat → Nat → Int32} {e : Nat} (h : tp_T9 c n I L A e) : g_X7_isWord I L 1009 = some (tp_is c n e 9) := tp_isW9 h (i := 9) (by decide)
theorem tp_w9_10 {c : Nat → Nat} {n : Nat} {I : Nat → Int32} {L : Nat → Int64} {A : Nat → Nat → Int32} {e : Nat} (h : tp_T9 c n I L A e) : g_X7_isWord I L 1010 = some (tp_is c n e 10) := tp_isW9 h (i := 10) (by decide)
theorem tp_w9_11 {c : Nat → Nat} {n : Nat} {I : Nat → Int32} {L : Nat → Int64} {A : Nat → Nat → Int32} {e : Nat} (h : tp_T9 c n I L A e) : g_X7_isWord I L 1011 = some (tp_is c n e 11) := tp_isW9 h (i := 11) (by decide)
theorem tp_w9_12 {c : Nat → Nat} {n : Nat} {I : Nat → Int32} {L : Nat → Int64} {A : Nat → Nat → Int32} {e : Nat} (h : tp_T9 c n I L A e) : g_X7_isWord I L 1012 = some (tp_is c n e 12) := tp_isW9 h (i := 12) (by decide)
theorem tp_w9_13 {c : Nat → Nat} {n : Nat} {I : Nat → Int32} {L : Nat → Int64} {A : Nat → Nat → Int32} {e : Nat} (h : tp_T9 c n I L A e) : g_X7_isWord I L 1013 = some (tp_is c n e 13) := tp_isW9 h (i := 13) (by decide)
theorem tp_w9_14 {c : Nat → Nat} {n : Nat} {I : Nat → Int32} {L : Nat → Int64} {A : Nat → Nat → Int32} {e : Nat} (h : tp_T9 c n I L A e) : g_X7_isWord I L 1014 = some (tp_is c n e 14) := tp_isW9 h (i := 14) (by decide)
theorem tp_w9_15 {c : Nat → Nat} {n : Nat} {I : Nat → Int32} {L : Nat → Int64} {A : Nat → Nat → Int32} {e : Nat} (h : tp_T9 c n I L A e) : g_X7_isWord I L 1015 = some (tp_is c n e 15) := tp_isW9 h (i := 15) (by decide)
theorem tp_w9_16 {c : Nat → Nat} {n : Nat} {I : Nat → Int32} {L : Nat → Int64} {A : Nat → Nat → Int32} {e : Nat} (h : tp_T9 c n I L A e) : g_X7_isWord I L 1016 = some (tp_is c n e 16) := tp_isW9 h (i := 16) (by decide)
theorem tp_w9_17 {c : Nat → Nat} {n : Nat} {I : Nat → Int32} {L : Nat → Int64} {A : Nat → Nat → Int32} {e : Nat} (h : tp_T9 c n I L A e) : g_X7_isWord I L 1017 = some (tp_is c n e 17) := tp_isW9 h (i := 17) (by decide)
theorem tp_w9_18 {c : Nat → Nat} {n : Nat} {I : Nat → Int32} {L : Nat → Int64} {A : Nat → Nat → Int32} {e : Nat} (h : tp_T9 c n I L A e) : g_X7_isWord I L 1018 = some (tp_is c n e 18) := tp_isW9 h (i := 18) (by decide)
/-- which line the token begins: as size() counts; 9 none -/
def tp_ls (c : Nat → Nat) (n e : Nat) : Nat := if tp_is c n e 16 = true then 0 else if tp_is c n e 12 = true then 1 else if tp_is c n e 15 = true then 2 else if tp_is c n e 11 = true then 3 else if tp_is c n e 8 = true then 4 else if tp_is c n e 14 = true then 5 else if tp_is c n e 9 = true then 6 else if tp_is c n e 17 = true then 7 else if tp_is c n e 5 = true then 8 else 9
theorem tp_ls9 (c : Nat → Nat) (n e : Nat) : tp_ls c n e ≤ 9 := by
  unfold tp_ls
  repeat' split
  all_goals omega
theorem tp_ls_kd {c : Nat → Nat} {n e : Nat} (h : tp_ls c n e ≠ 9) : tp_kd c n e = 1 := by
  have q : ∀ i, tp_is c n e i = true → tp_kd c n e = 1 := fun i h => (of_decide_eq_true h).1
  unfold tp_ls at h
  repeat' split at h
  all_goals first | (next g => exact q _ g) | (exact absurd rfl h)
def tp_lsI (k : Nat) : Int32 := if k = 9 then (-1 : Int32) else nI k
theorem tp_lsI9 {k : Nat} (h : k ≤ 9) : tp_lsI k = (-1 : Int32) ↔ k = 9 := by
  unfold tp_lsI
  by_cases g : k = 9
  · rw [if_pos g]
    exact ⟨fun _ => g, fun _ => rfl⟩
  · rw [if_neg g]
    refine ⟨fun q => absurd q (tm_nm1 (by omega)), fun q => absurd q g⟩
theorem tp_lsort9 {c : Nat → Nat} {n : Nat} {I : Nat → Int32} {L : Nat → Int64} {A : Nat → Nat → Int32} {e : Nat} (h : tp_T9 c n I L A e) : g_X4_lineSort I L = some (tp_lsI (tp_ls c n e)) := by
  unfold g_X4_lineSort tp_ls
  rw [tp_w9_16 h, Option.bind_some]
  by_cases g16 : tp_is c n e 16 = true
  · rw [if_pos g16, if_pos g16]
    rfl
  · rw [if_neg g16, if_neg g16]
    rw [tp_w9_12 h, Option.bind_some]
    by_cases g12 : tp_is c n e 12 = true
    · rw [if_pos g12, if_pos g12]
      rfl
    · rw [if_neg g12, if_neg g12]
      rw [tp_w9_15 h, Option.bind_some]
      by_cases g15 : tp_is c n e 15 = true
      · rw [if_pos g15, if_pos g15]
        rfl
      · rw [if_neg g15, if_neg g15]
        rw [tp_w9_11 h, Option.bind_some]
        by_cases g11 : tp_is c n e 11 = true
        · rw [if_pos g11, if_pos g11]
          rfl
        · rw [if_neg g11, if_neg g11]
          rw [tp_w9_8 h, Option.bind_some]
          by_cases g8 : tp_is c n e 8 = true
          · rw [if_pos g8, if_pos g8]
            rfl
          · rw [if_neg g8, if_neg g8]
            rw [tp_w9_14 h, Option.bind_some]
            by_cases g14 : tp_is c n e 14 = true
            · rw [if_pos g14, if_pos g14]
              rfl
            · rw [if_neg g14, if_neg g14]
              rw [tp_w9_9 h, Option.bind_some]
              by_cases g9 : tp_is c n e 9 = true
              · rw [if_pos g9, if_pos g9]
                rfl
              · rw [if_neg g9, if_neg g9]
                rw [tp_w9_17 h, Option.bind_some]
                by_cases g17 : tp_is c n e 17 = true
                · rw [if_pos g17, if_pos g17]
                  rfl
                · rw [if_neg g17, if_neg g17]
                  rw [tp_w9_5 h, Option.bind_some]
                  by_cases g5 : tp_is c n e 5 = true
                  · rw [if_pos g5, if_pos g5]
                    rfl
                  · rw [if_neg g5, if_neg g5]
                    rfl
/-- faults -/
def tp_F9 (I : Nat → Int32) (x : Nat × Nat) : Prop := I 2610 = nI x.1 ∧ I 2611 = nI x.2
theorem tp_fail9 {c : Nat → Nat} {n : Nat} {I : Nat → Int32} {L : Nat → Int64} {A : Nat → Nat → Int32} {e : Nat} (h : tp_T9 c n I L A e) (f : Nat) : ∃ I1, g_X4_fail I (nI f) = (false, I1) ∧ tp_F9 I1 (f, tp_at c n e) ∧ ∀ k, k ≠ 2610 → k ≠ 2611 → I1 k = I k := by
  refine ⟨upd (upd I 2610 (nI f)) 2611 (I 3203), rfl, ⟨?_, ?_⟩, fun k k1 k2 => ?_⟩
  · rw [tm_un _ (by decide), tm_us]
  · rw [tm_us]
    exact h.2.2.2.1
  · rw [tm_un _ k2, tm_un _ k1]
def tp_b {α β : Type} (o : (Nat × Nat) ⊕ α) (f : α → (Nat × Nat) ⊕ β) : (Nat × Nat) ⊕ β := match o with
  | .inl x => .inl x
  | .inr y => f y
theorem tp_b_l {α β : Type} (x : Nat × Nat) (f : α → (Nat × Nat) ⊕ β) : tp_b (.inl x) f = .inl x := rfl
theorem tp_b_r {α β : Type} (y : α) (f : α → (Nat × Nat) ⊕ β) : tp_b (.inr y) f = f y := rfl
/-- a due word -/
def tp_wo (c : Nat → Nat) (n e i : Nat) : (Nat × Nat) ⊕ Unit := if tp_is c n e i = true then .inr () else .inl (1, tp_at c n e)
/-- a whole within bounds -/
def tp_wh (c : Nat → Nat) (n e lo hi : Nat) : (Nat × Nat) ⊕ Nat := if tp_kd c n e = 2 then (if tp_w c n e < lo ∨ hi < tp_w c n e then .inl (4, tp_at c n e) else .inr (tp_w c n e)) else .inl (1, tp_at c n e)
/-- what a step of the class leaves: frames but for the faults, the reads, the tokens -/
def tp_g9 (I I1 : Nat → Int32) : Prop := ∀ k, (k < 3202 ∨ 3205 < k) → k ≠ 2609 → k ≠ 2610 → k ≠ 2611 → I1 k = I k
theorem tp_word9 {c : Nat → Nat} {n : Nat} {I : Nat → Int32} {L : Nat → Int64} {A : Nat → Nat → Int32} {e i q : Nat} (h : tp_T9 c n I L A e) (hi : i < 19) (hq : q = 1000 + i) : ∃ b I1 L1, g_X4_word I L A q = some (b, I1, L1) ∧ tp_g9 I I1 ∧ match tp_wo c n e i with
    | .inl x => b = false ∧ tp_F9 I1 x
    | .inr _ => b = true ∧ tp_T9 c n I1 L1 A (tp_st c n e) ∧ I1 2609 = I 2609 ∧ I1 2610 = I 2610 := by
  subst hq
  unfold g_X4_word tp_wo
  rw [tp_isW9 h hi, Option.bind_some]
  by_cases g : tp_is c n e i = true
  · rw [if_pos g, if_pos g]
    have gk := (of_decide_eq_true g).1
    obtain ⟨I1, L1, a1, a2, a3, a4⟩ := tp_nxt9 h (by omega)
    rw [a1, Option.bind_some]
    exact ⟨true, I1, L1, rfl, fun k k1 _ _ _ => a4 k k1, rfl, a2, a4 2609 (by decide), a4 2610 (by decide)⟩
  · rw [if_neg g, if_neg g]
    obtain ⟨I1, a1, a2, a3⟩ := tp_fail9 h 1
    rw [show g_X4_fail I (1 : Int32) = _ from a1]
    exact ⟨false, I1, L, rfl, fun k _ _ k2 k3 => a3 k k2 k3, rfl, a2⟩
theorem tp_note9 {c : Nat → Nat} {n : Nat} {I : Nat → Int32} {L : Nat → Int64} {A : Nat → Nat → Int32} {e k : Nat} (h : tp_T9 c n I L A e) (hk : tp_kd c n e ≠ 4) (hr : I 2609 = nI k) (hk8 : k < 8) (x : Int32) : ∃ I1 L1, g_X4_note I L A x = some (true, I1, L1, va_up A 31 (upd (A 31) k x)) ∧ tp_T9 c n I1 L1 (va_up A 31 (upd (A 31) k x)) (tp_st c n e) ∧ I1 2609 = nI (k + 1) ∧ I1 2610 = I 2610 ∧ I1 3202 = nI (tp_at c n e) ∧ tp_g9 I I1 := by
  unfold g_X4_note
  rw [hr, tm_put hk8 (by decide), ← nI_succ]
  dsimp only [tw_let]
  have h2 : tp_T9 c n (upd I 2609 (nI (k + 1))) L (va_up A 31 (upd (A 31) k x)) e := tp_T9_A (tp_T9_I h (fun j j1 j2 => tm_un _ (by omega))) (tm_vn _ (by decide))
  obtain ⟨I1, L1, a1, a2, a3, a4⟩ := tp_nxt9 h2 hk
  rw [a1, Option.bind_some]
  refine ⟨I1, L1, rfl, a2, ?_, ?_, a3, fun j j1 j2 j3 j4 => ?_⟩
  · rw [a4 _ (by decide), tm_us]
  · rw [a4 _ (by decide), tm_un _ (by decide)]
  · rw [a4 j j1, tm_un _ j2]
theorem tp_whole9 {c : Nat → Nat} {n : Nat} {I : Nat → Int32} {L : Nat → Int64} {A : Nat → Nat → Int32} {e k : Nat} (h : tp_T9 c n I L A e) (hr : I 2609 = nI k) (hk8 : k < 8) {lo hi : Nat} (hl : lo < 1000) (hh : hi < 1000) : ∃ b I1 L1 A1, g_X4_whole I L A (nI lo) (nI hi) = some (b, I1, L1, A1) ∧ tp_g9 I I1 ∧ match tp_wh c n e lo hi with
    | .inl x => b = false ∧ A1 = A ∧ tp_F9 I1 x
    | .inr v => b = true ∧ A1 = va_up A 31 (upd (A 31) k (nI v)) ∧ tp_T9 c n I1 L1 A1 (tp_st c n e) ∧ I1 2609 = nI (k + 1) ∧ I1 2610 = I 2610 ∧ I1 3202 = nI (tp_at c n e) := by
  unfold g_X4_whole tp_wh
  by_cases g : tp_kd c n e = 2
  · rw [if_pos ((tp_T9_k2 h).mpr g), if_pos g, h.2.2.2.2.2.2.2 g, nI_l (by omega), nI_l (by omega)]
    have hw := tp_w_lt g
    by_cases g1 : tp_w c n e < lo
    · rw [if_pos (by rw [lg_cmp_lt, pk_lLT (by omega) (by omega)]; exact g1), if_pos (Or.inl g1)]
      obtain ⟨I1, a1, a2, a3⟩ := tp_fail9 h 4
      rw [show g_X4_fail I (4 : Int32) = _ from a1]
      exact ⟨false, I1, L, A, rfl, fun k _ _ k2 k3 => a3 k k2 k3, rfl, rfl, a2⟩
    · rw [if_neg (by rw [lg_cmp_lt, pk_lLT (by omega) (by omega)]; exact g1)]
      by_cases g2 : hi < tp_w c n e
      · rw [if_neg (by rw [lg_cmp_le, pk_lLE (by omega) (by omega)]; omega), if_pos (Or.inr g2)]
        obtain ⟨I1, a1, a2, a3⟩ := tp_fail9 h 4
        rw [show g_X4_fail I (4 : Int32) = _ from a1]
        exact ⟨false, I1, L, A, rfl, fun k _ _ k2 k3 => a3 k k2 k3, rfl, rfl, a2⟩
      · rw [if_pos (by rw [lg_cmp_le, pk_lLE (by omega) (by omega)]; omega), if_neg (by omega), lN_i]
        obtain ⟨I1, L1, a1, a2, a3, a4, a5, a6⟩ := tp_note9 h (by omega) hr hk8 (nI (tp_w c n e))
        rw [a1, Option.bind_some]
        exact ⟨true, I1, L1, _, rfl, a6, rfl, rfl, a2, a3, a4, a5⟩
  · rw [if_neg (fun q => g ((tp_T9_k2 h).mp q)), if_neg g]
    obtain ⟨I1, a1, a2, a3⟩ := tp_fail9 h 1
    rw [show g_X4_fail I (1 : Int32) = _ from a1]
    exact ⟨false, I1, L, A, rfl, fun k _ _ k2 k3 => a3 k k2 k3, rfl, rfl, a2⟩
/-- a person's kind -/
def tp_ki (c : Nat → Nat) (n e : Nat) : (Nat × Nat) ⊕ Nat := if tp_is c n e 13 = true then .inr 0 else if tp_is c n e 4 = true then .inr 1 else if tp_is c n e 2 = true then .inr 2 else if tp_is c n e 1 = true then .inr 3 else .inl (1, tp_at c n e)
theorem tp_kind9 {c : Nat → Nat} {n : Nat} {I : Nat → Int32} {L : Nat → Int64} {A : Nat → Nat → Int32} {e k : Nat} (h : tp_T9 c n I L A e) (hr : I 2609 = nI k) (hk8 : k < 8) : ∃ b I1 L1 A1, g_X4_kind I L A = some (b, I1, L1, A1) ∧ tp_g9 I I1 ∧ match tp_ki c n e with
    | .inl x => b = false ∧ A1 = A ∧ tp_F9 I1 x
    | .inr v => b = true ∧ v ≤ 3 ∧ A1 = va_up A 31 (upd (A 31) k (nI v)) ∧ tp_T9 c n I1 L1 A1 (tp_st c n e) ∧ I1 2609 = nI (k + 1) ∧ I1 2610 = I 2610 ∧ I1 3202 = nI (tp_at c n e) := by
  have q : ∀ i, tp_is c n e i = true → tp_kd c n e ≠ 4 := fun i h => by have := (of_decide_eq_true h).1; omega
  unfold g_X4_kind tp_ki
  rw [tp_w9_13 h, Option.bind_some]
  by_cases g13 : tp_is c n e 13 = true
  · rw [if_pos g13, if_pos g13]
    obtain ⟨I1, L1, a1, a2, a3, a4, a5, a6⟩ := tp_note9 h (q _ g13) hr hk8 (nI 0)
    rw [show g_X4_note I L A (0 : Int32) = _ from a1, Option.bind_some]
    exact ⟨true, I1, L1, _, rfl, a6, rfl, by decide, rfl, a2, a3, a4, a5⟩
  · rw [if_neg g13, if_neg g13]
    rw [tp_w9_4 h, Option.bind_some]
    by_cases g4 : tp_is c n e 4 = true
    · rw [if_pos g4, if_pos g4]
      obtain ⟨I1, L1, a1, a2, a3, a4, a5, a6⟩ := tp_note9 h (q _ g4) hr hk8 (nI 1)
      rw [show g_X4_note I L A (1 : Int32) = _ from a1, Option.bind_some]
      exact ⟨true, I1, L1, _, rfl, a6, rfl, by decide, rfl, a2, a3, a4, a5⟩
    · rw [if_neg g4, if_neg g4]
      rw [tp_w9_2 h, Option.bind_some]
      by_cases g2 : tp_is c n e 2 = true
      · rw [if_pos g2, if_pos g2]
        obtain ⟨I1, L1, a1, a2, a3, a4, a5, a6⟩ := tp_note9 h (q _ g2) hr hk8 (nI 2)
        rw [show g_X4_note I L A (2 : Int32) = _ from a1, Option.bind_some]
        exact ⟨true, I1, L1, _, rfl, a6, rfl, by decide, rfl, a2, a3, a4, a5⟩
      · rw [if_neg g2, if_neg g2]
        rw [tp_w9_1 h, Option.bind_some]
        by_cases g1 : tp_is c n e 1 = true
        · rw [if_pos g1, if_pos g1]
          obtain ⟨I1, L1, a1, a2, a3, a4, a5, a6⟩ := tp_note9 h (q _ g1) hr hk8 (nI 3)
          rw [show g_X4_note I L A (3 : Int32) = _ from a1, Option.bind_some]
          exact ⟨true, I1, L1, _, rfl, a6, rfl, by decide, rfl, a2, a3, a4, a5⟩
        · rw [if_neg g1, if_neg g1]
          obtain ⟨I1, a1, a2, a3⟩ := tp_fail9 h 1
          rw [show g_X4_fail I (1 : Int32) = _ from a1]
          exact ⟨false, I1, L, A, rfl, fun k _ _ k2 k3 => a3 k k2 k3, rfl, rfl, a2⟩
