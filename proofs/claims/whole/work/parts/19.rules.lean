/-! THE RULES of runs: a run is put together from blocks, branches, calls -/
theorem tw_run_up : ∀ (n y : Nat) (c c' : tw_C), tw_run n y c = some c' → tw_run (n + 1) y c = some c'
  | 0, _, _, _, h => by cases h
  | n + 1, y, (k, ls, st, σ), c', h => by
    rw [tw_run] at h
    rw [tw_run]
    cases he : (tw_code y)[k]? with
    | none => rw [he] at h; cases h
    | some e =>
      rw [he] at h
      dsimp only at h ⊢
      by_cases h1 : tw_end e = true
      · rw [if_pos h1] at h ⊢; exact h
      · rw [if_neg h1] at h ⊢
        by_cases h2 : tw_call e = true
        · rw [if_pos h2] at h ⊢
          cases hp : tw_pre e st σ.2.2.2.2.2 with
          | none => rw [hp] at h; cases h
          | some q =>
            obtain ⟨as, rest⟩ := q
            rw [hp] at h
            dsimp only at h ⊢
            by_cases h3 : (tw_al as).length ≤ tw_ml e.2.2.2.1
            · rw [if_pos h3] at h ⊢
              cases hr : tw_run n e.2.2.2.1 (0, tw_args as (tw_ml e.2.2.2.1), [], σ) with
              | none => rw [hr] at h; cases h
              | some c2 =>
                rw [hr] at h
                rw [tw_run_up n _ _ _ hr]
                dsimp only at h ⊢
                cases ho : tw_out e.2.2.2.1 c2 with
                | none => rw [ho] at h; cases h
                | some q2 =>
                  obtain ⟨r, σ'⟩ := q2
                  rw [ho] at h
                  dsimp only at h ⊢
                  by_cases h4 : σ'.2.2.2.2.2 = σ.2.2.2.2.2 ∨ tw_vok σ.2.2.2.2.2 ls rest = true
                  · rw [if_pos h4] at h ⊢
                    exact tw_run_up n _ _ _ h
                  · rw [if_neg h4] at h; cases h
            · rw [if_neg h3] at h; cases h
        · rw [if_neg h2] at h ⊢
          cases hs : tw_s1 (tw_code y) e k ls st σ with
          | none => rw [hs] at h; cases h
          | some c1 =>
            rw [hs] at h
            exact tw_run_up n _ _ _ h
theorem tw_run_le {n m y : Nat} {c c' : tw_C} (h : tw_run n y c = some c') (hm : n ≤ m) : tw_run m y c = some c' := by
  induction m with
  | zero =>
    have : n = 0 := by omega
    subst this
    exact h
  | succ m ih =>
    by_cases e : n = m + 1
    · subst e; exact h
    · exact tw_run_up m y c c' (ih (by omega))
/-- a run from a place comes to a return that hands this over -/
def tw_ME (y : Nat) (c : tw_C) (out : Option Value × tw_S) : Prop := ∃ n c', tw_run n y c = some c' ∧ tw_out y c' = some out
def tw_pl (e : tw_E) : Bool := !(tw_end e || tw_call e)
theorem tw_br {y : Nat} {cd : List tw_E} (hc : tw_code y = cd) {k : Nat} {e : tw_E} (he : cd[k]? = some e) (hp : tw_pl e = true) {ls : tw_Ls} {st : List Value} {σ : tw_S} {c1 : tw_C} (hx : tw_s1 cd e k ls st σ = some c1) {out : Option Value × tw_S} (h : tw_ME y c1 out) : tw_ME y (k, ls, st, σ) out := by
  obtain ⟨n, c', h1, h2⟩ := h
  refine ⟨n + 1, c', ?_, h2⟩
  subst hc
  simp only [tw_pl, Bool.not_eq_true', Bool.or_eq_false_iff] at hp
  rw [tw_run, he]
  dsimp only
  rw [hp.1, hp.2, hx]
  simpa using h1
def tw_ex (cd : List tw_E) : Nat → List tw_E → Nat → tw_Ls → List Value → tw_S → Option tw_C
  | 0, _, k, ls, st, σ => some (k, ls, st, σ)
  | _ + 1, [], _, _, _, _ => none
  | n + 1, e :: es, k, ls, st, σ => match tw_pl e with
    | true => (match tw_s1 cd e k ls st σ with
      | some (k1, ls1, st1, σ1) => if k1 = k + 1 ∨ n = 0 then tw_ex cd n es k1 ls1 st1 σ1 else none
      | none => none)
    | false => none
theorem tw_blk0 {y : Nat} {cd : List tw_E} (hc : tw_code y = cd) {out : Option Value × tw_S} {c1 : tw_C} : ∀ (n : Nat) (k : Nat) (ls : tw_Ls) (st : List Value) (σ : tw_S), tw_ex cd n (cd.drop k) k ls st σ = some c1 → tw_ME y c1 out → tw_ME y (k, ls, st, σ) out
  | 0, k, ls, st, σ, hx, h => by
    rw [tw_ex] at hx
    cases hx
    exact h
  | n + 1, k, ls, st, σ, hx, h => by
    cases hd : cd.drop k with
    | nil => rw [hd, tw_ex] at hx; cases hx
    | cons e es =>
      rw [hd, tw_ex] at hx
      have hlt : k < cd.length := by
        rcases Nat.lt_or_ge k cd.length with q | q
        · exact q
        · rw [List.drop_eq_nil_of_le q] at hd; cases hd
      rw [List.drop_eq_getElem_cons hlt] at hd
      injection hd with hd1 hd2
      have he : cd[k]? = some e := by rw [List.getElem?_eq_getElem hlt, hd1]
      split at hx
      · next hp =>
        split at hx
        · next k1 ls1 st1 σ1 hs =>
          split at hx
          · next hk =>
            refine tw_br hc he hp hs ?_
            rcases hk with hk | hk
            · subst hk
              rw [← hd2] at hx
              exact tw_blk0 hc n (k + 1) ls1 st1 σ1 hx h
            · subst hk
              rw [tw_ex] at hx
              cases hx
              exact h
          · cases hx
        · cases hx
      · cases hx
theorem tw_blk {y : Nat} {cd : List tw_E} (hc : tw_code y = cd) (n : Nat) {k : Nat} {ls : tw_Ls} {st : List Value} {σ : tw_S} {c1 : tw_C} (hx : tw_ex cd n (cd.drop k) k ls st σ = some c1) {out : Option Value × tw_S} (h : tw_ME y c1 out) : tw_ME y (k, ls, st, σ) out := tw_blk0 hc n k ls st σ hx h
theorem tw_callE {y : Nat} {cd : List tw_E} (hc : tw_code y = cd) {k : Nat} {e : tw_E} (he : cd[k]? = some e) (hp : (!tw_end e && tw_call e) = true) {ls : tw_Ls} {st as rest : List Value} {σ σ' : tw_S} {r : Option Value} (hpre : tw_pre e st σ.2.2.2.2.2 = some (as, rest)) (hal : Nat.ble (tw_al as).length (tw_ml e.2.2.2.1) = true) {out : Option Value × tw_S} (hcal : tw_ME e.2.2.2.1 (0, tw_args as (tw_ml e.2.2.2.1), [], σ) (r, σ')) (hn : σ'.2.2.2.2.2 = σ.2.2.2.2.2 ∨ tw_vok σ.2.2.2.2.2 ls rest = true) (h : tw_ME y (k + 1, ls, r.toList ++ rest, σ') out) : tw_ME y (k, ls, st, σ) out := by
  obtain ⟨n1, c1, h1, h2⟩ := hcal
  obtain ⟨n2, c2, h3, h4⟩ := h
  subst hc
  rw [Bool.and_eq_true, Bool.not_eq_true'] at hp
  refine ⟨max n1 n2 + 1, c2, ?_, h4⟩
  rw [tw_run, he]
  dsimp only
  rw [hp.1, hp.2, hpre]
  dsimp only
  rw [if_neg (by decide), if_pos rfl, if_pos (Nat.le_of_ble_eq_true hal), tw_run_le h1 (Nat.le_max_left _ _)]
  dsimp only
  rw [h2]
  dsimp only
  rw [if_pos hn]
  exact tw_run_le h3 (Nat.le_max_right _ _)
theorem tw_retE {y : Nat} {cd : List tw_E} (hc : tw_code y = cd) {k : Nat} {e : tw_E} (he : cd[k]? = some e) (hp : tw_end e = true) {ls : tw_Ls} {st : List Value} {σ : tw_S} {out : Option Value × tw_S} (ho : tw_out y (k, ls, st, σ) = some out) : tw_ME y (k, ls, st, σ) out := by
  subst hc
  refine ⟨1, (k, ls, st, σ), ?_, ho⟩
  rw [tw_run, he]
  dsimp only
  rw [if_pos hp]
def tw_b (b : Bool) : Int32 := match b with
  | true => 1
  | false => 0
theorem tw_b01 (b : Bool) : tw_b b = 0 ∨ tw_b b = 1 := by cases b <;> simp [tw_b]
theorem tw_b_f {b : Bool} (h : ¬ b = true) : tw_b b = 0 := by cases b <;> simp_all [tw_b]
theorem tw_b_t {b : Bool} (h : b = true) : ¬ tw_b b = 0 := by subst h; decide
theorem tw_retZ {y : Nat} {cd : List tw_E} (hc : tw_code y = cd) {k : Nat} {e : tw_E} (he : cd[k]? = some e) (hi : e.2.1 = .ireturn) (hr : tw_rt y = some .boolean) {ls : tw_Ls} {b : Bool} {σ : tw_S} : tw_ME y (k, ls, [.int (tw_b b)], σ) (some (.int (tw_b b)), σ) := by
  obtain ⟨pc, i, rest⟩ := e
  dsimp only at hi
  subst hi
  refine tw_retE hc he rfl ?_
  subst hc
  unfold tw_out
  dsimp only
  rw [he, hr]
  dsimp only
  rw [if_pos (tw_b01 b)]
/-- loads and stores -/
def tw_ld (n : Nat) (f : Nat → Int32) (i : Int32) : Option Int32 := if i < 0 ∨ n ≤ i.toNatClampNeg then none else some (f i.toNatClampNeg)
def tw_st (n : Nat) (f : Nat → Int32) (i x : Int32) : Option (Nat → Int32) := if i < 0 ∨ n ≤ i.toNatClampNeg then none else some (upd f i.toNatClampNeg x)
def tw_ldJ (n : Nat) (f : Nat → Int64) (i : Int32) : Option Int64 := if i < 0 ∨ n ≤ i.toNatClampNeg then none else some (f i.toNatClampNeg)
def tw_stJ (n : Nat) (f : Nat → Int64) (i : Int32) (x : Int64) : Option (Nat → Int64) := if i < 0 ∨ n ≤ i.toNatClampNeg then none else some (vp_updL f i.toNatClampNeg x)
section
variable {y : Nat} {cd : List tw_E} {k nc q N pc len a b t : Nat} {v : Int32} {w : Int64} {ls : tw_Ls} {st : List Value} {I : Nat → Int32} {L : Nat → Int64} {P : Nat → Nat → Nat} {A : Nat → Nat → Int32} {J : Nat → Nat → Int64} {out : Option Value × tw_S} {i x z : Int32} {xl : Int64}
theorem tw_iald (hc : tw_code y = cd) (he : cd[k]? = some (pc, .iaload, len, a, b, t, v, w)) (hq : Nat.blt q nc = true) (hk : tw_sh q = (11, N)) (hx : tw_ld N (A q) i = some x) (h : tw_ME y (k + 1, ls, .int x :: st, (I, L, P, A, J, nc)) out) : tw_ME y (k, ls, .int i :: .ref q :: st, (I, L, P, A, J, nc)) out := by
  refine tw_br hc he rfl ?_ h
  unfold tw_ld at hx
  show Option.map _ (tw_ald _ 11 q i) = _
  unfold tw_ald
  rw [if_pos ⟨Nat.le_of_ble_eq_true hq, by rw [hk]⟩, hk]
  dsimp only
  split at hx
  · cases hx
  · next hin => rw [if_neg hin]; cases hx; rfl
theorem tw_bald (hc : tw_code y = cd) (he : cd[k]? = some (pc, .baload, len, a, b, t, v, w)) (hq : Nat.blt q nc = true) (hk : tw_sh q = (10, N)) (hx : tw_ld N (A q) i = some x) (h : tw_ME y (k + 1, ls, .int x :: st, (I, L, P, A, J, nc)) out) : tw_ME y (k, ls, .int i :: .ref q :: st, (I, L, P, A, J, nc)) out := by
  refine tw_br hc he rfl ?_ h
  unfold tw_ld at hx
  show Option.map _ (tw_ald _ 10 q i) = _
  unfold tw_ald
  rw [if_pos ⟨Nat.le_of_ble_eq_true hq, by rw [hk]⟩, hk]
  dsimp only
  split at hx
  · cases hx
  · next hin => rw [if_neg hin]; cases hx; rfl
theorem tw_iast (hc : tw_code y = cd) (he : cd[k]? = some (pc, .iastore, len, a, b, t, v, w)) (hq : Nat.blt q nc = true) (hk : tw_sh q = (11, N)) {row : Nat → Int32} (hx : tw_st N (A q) i x = some row) (h : tw_ME y (k + 1, ls, st, (I, L, P, va_up A q row, J, nc)) out) : tw_ME y (k, ls, .int x :: .int i :: .ref q :: st, (I, L, P, A, J, nc)) out := by
  refine tw_br hc he rfl ?_ h
  unfold tw_st at hx
  show Option.map _ (tw_ast _ 11 q i x) = _
  unfold tw_ast
  dsimp only
  rw [if_pos ⟨Nat.le_of_ble_eq_true hq, by rw [hk]⟩, hk]
  dsimp only
  split at hx
  · cases hx
  · next hin => rw [if_neg hin]; cases hx; rfl
theorem tw_bast (hc : tw_code y = cd) (he : cd[k]? = some (pc, .bastore, len, a, b, t, v, w)) (hq : Nat.blt q nc = true) (hk : tw_sh q = (10, N)) {row : Nat → Int32} (hx : tw_st N (A q) i (vp_nar .byte x) = some row) (h : tw_ME y (k + 1, ls, st, (I, L, P, va_up A q row, J, nc)) out) : tw_ME y (k, ls, .int x :: .int i :: .ref q :: st, (I, L, P, A, J, nc)) out := by
  refine tw_br hc he rfl ?_ h
  unfold tw_st at hx
  show Option.map _ (tw_ast _ 10 q i (vp_nar .byte x)) = _
  unfold tw_ast
  dsimp only
  rw [if_pos ⟨Nat.le_of_ble_eq_true hq, by rw [hk]⟩, hk]
  dsimp only
  split at hx
  · cases hx
  · next hin => rw [if_neg hin]; cases hx; rfl
theorem tw_lald (hc : tw_code y = cd) (he : cd[k]? = some (pc, .laload, len, a, b, t, v, w)) (hq : Nat.blt q nc = true) (hk : tw_sh q = (12, N)) (hx : tw_ldJ N (J q) i = some xl) (h : tw_ME y (k + 1, ls, .long xl :: st, (I, L, P, A, J, nc)) out) : tw_ME y (k, ls, .int i :: .ref q :: st, (I, L, P, A, J, nc)) out := by
  refine tw_br hc he rfl ?_ h
  unfold tw_ldJ at hx
  show (if q < nc ∧ (tw_sh q).1 = 12 then (if i < 0 ∨ (tw_sh q).2 ≤ i.toNatClampNeg then none else some _) else none) = _
  rw [if_pos ⟨Nat.le_of_ble_eq_true hq, by rw [hk]⟩, hk]
  dsimp only
  split at hx
  · cases hx
  · next hin => rw [if_neg hin]; cases hx; rfl
theorem tw_last (hc : tw_code y = cd) (he : cd[k]? = some (pc, .lastore, len, a, b, t, v, w)) (hq : Nat.blt q nc = true) (hk : tw_sh q = (12, N)) {row : Nat → Int64} (hx : tw_stJ N (J q) i xl = some row) (h : tw_ME y (k + 1, ls, st, (I, L, P, A, va_up J q row, nc)) out) : tw_ME y (k, ls, .long xl :: .int i :: .ref q :: st, (I, L, P, A, J, nc)) out := by
  refine tw_br hc he rfl ?_ h
  unfold tw_stJ at hx
  show (if q < nc ∧ (tw_sh q).1 = 12 then (if i < 0 ∨ (tw_sh q).2 ≤ i.toNatClampNeg then none else some _) else none) = _
  rw [if_pos ⟨Nat.le_of_ble_eq_true hq, by rw [hk]⟩, hk]
  dsimp only
  split at hx
  · cases hx
  · next hin => rw [if_neg hin]; cases hx; rfl
end
/-- names for what comes out -/
theorem tw_bindE {α β : Type} {o : Option α} {f : α → Option β} {r : β} (h : o.bind f = some r) : ∃ x, o = some x ∧ f x = some r := Option.bind_eq_some_iff.mp h
abbrev tw_let {α β : Type} (a : α) (f : α → β) : β := f a
theorem tw_letE {α β : Type} {a : α} {f : α → β} {r : β} (h : tw_let a f = r) : ∃ x, a = x ∧ f x = r := ⟨a, rfl, h⟩
theorem tw_swE {y : Nat} {cd : List tw_E} (hc : tw_code y = cd) {k : Nat} {e : tw_E} (he : cd[k]? = some e) (hp : tw_pl e = true) {ls : tw_Ls} {st : List Value} {σ : tw_S} {c1 : tw_C} {x v : Int32} (hv : x = v) (hx : tw_s1 cd e k ls (.int v :: st) σ = some c1) {out : Option Value × tw_S} (h : tw_ME y c1 out) : tw_ME y (k, ls, .int x :: st, σ) out := by
  subst hv
  exact tw_br hc he hp hx h
