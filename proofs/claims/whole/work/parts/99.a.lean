/-! the law's own frame: configurations of the machine, rules by which its body is walked -/
def tw_MW (p : Program) (l : Launch) (e0 : Env) (s : State) (m : MethodId) (args : Array Value) (below : List Frame) (meth : Method) (c : Code) (n0 b0 L0 : Nat) (xs : Nat → Int32) (adK : Nat → Nat) (dC : Nat → ClassId) (dI : Nat → Nat → Nat) (cy : tw_Y) (Q : State → Prop) (x y : Nat) (cf : tw_C) : Prop :=
  cf.2.1.length = 7 → ∀ (ad : Nat → Nat) (H : Heap) (locs : List Loc) (ls : Array Slot), tw_Rp s n0 b0 L0 xs adK dC dI cy ad cf.2.2.2 H locs → lv_has ls 7 (tw_lvF ad 0 cf.2.1) → W p l e0 room_1 s m args below meth c H locs (cf.2.2.2.2.2.2.2.2 + x) (tw_sl cf.2.2.2.2.2.2.2.2 + y) Q (F0 m (tw_pc 323 cf.1) ls (cf.2.2.1.map (tw_cv ad)))
theorem tw_ml7 : tw_ml 323 = 7 := rfl
theorem tw_cd323 : tw_code 323 = tw_c323 := rfl
theorem tw_ex_nc {cd : List tw_E} {c1 : tw_C} : ∀ (n : Nat) (es : List tw_E) (k : Nat) (ls : tw_Ls) (st : List Value) (σ : tw_S), tw_ex cd n es k ls st σ = some c1 → σ.2.2.2.2.2 ≤ c1.2.2.2.2.2.2.2.2
  | 0, es, k, ls, st, σ, h => by
    rw [tw_ex] at h
    cases h
    exact Nat.le_refl _
  | n + 1, [], k, ls, st, σ, h => by
    rw [tw_ex] at h
    cases h
  | n + 1, e :: es, k, ls, st, σ, h => by
    rw [tw_ex] at h
    split at h
    · split at h
      · next k1 ls1 st1 σ1 hs =>
        split at h
        · exact Nat.le_trans (tw_s1_nc hs) (tw_ex_nc n es k1 ls1 st1 σ1 h)
        · cases h
      · cases h
    · cases h
section
variable {p : Program} {l : Launch} {e0 : Env} {s : State} {m : MethodId} {args : Array Value} {below : List Frame} {meth : Method} {c : Code} {n0 b0 L0 : Nat} {xs : Nat → Int32} {adK adV : Nat → Nat} {dC : Nat → ClassId} {dI : Nat → Nat → Nat} {cy : tw_Y} {Q : State → Prop} {x y : Nat}
theorem tw_brW (C : tw_Cx p room_1 s m args meth c 323 n0 b0 L0 xs adK adV dC dI cy) (hxy : 57 + x ≤ 1082 ∧ tw_sl 57 + y ≤ 11854) {k : Nat} {e : tw_E} (he : tw_c323[k]? = some e) {ls : tw_Ls} {st : List Value} {σ : tw_S} {c1 : tw_C} (hx : tw_s1 tw_c323 e k ls st σ = some c1) (hn : Nat.ble c1.2.2.2.2.2.2.2.2 57 = true) (h : tw_MW p l e0 s m args below meth c n0 b0 L0 xs adK dC dI cy Q x y c1) : tw_MW p l e0 s m args below meth c n0 b0 L0 xs adK dC dI cy Q x y (k, ls, st, σ) := by
  intro hlen ad H locs lsA hr hl
  have hn' := Nat.le_of_ble_eq_true hn
  have m1 := tw_s1_nc hx
  have m2 := tw_sl_mono m1
  have m3 := tw_sl_mono hn'
  have hB1 : σ.2.2.2.2.2 + x + (c1.2.2.2.2.2.2.2.2 - σ.2.2.2.2.2) = c1.2.2.2.2.2.2.2.2 + x := by omega
  have hB2 : tw_sl σ.2.2.2.2.2 + y + (tw_sl c1.2.2.2.2.2.2.2.2 - tw_sl σ.2.2.2.2.2) = tw_sl c1.2.2.2.2.2.2.2.2 + y := by omega
  refine tw_step (y := 323) C tw_ok (tw_jdk tw_ok) he hx hlen hr hl (show _ ≤ 1082 by dsimp only; omega) (show _ ≤ 11854 by dsimp only; omega) (fun H1 locs1 ls1 ad1 hr1 hl1 _ _ hlen1 => ?_)
  have h9 := h hlen1 ad1 H1 locs1 ls1 hr1 hl1
  dsimp only
  rw [hB1, hB2]
  exact h9
theorem tw_blkW0 (C : tw_Cx p room_1 s m args meth c 323 n0 b0 L0 xs adK adV dC dI cy) (hxy : 57 + x ≤ 1082 ∧ tw_sl 57 + y ≤ 11854) {c1 : tw_C} (hn : c1.2.2.2.2.2.2.2.2 ≤ 57) (h : tw_MW p l e0 s m args below meth c n0 b0 L0 xs adK dC dI cy Q x y c1) : ∀ (n k : Nat) (ls : tw_Ls) (st : List Value) (σ : tw_S), tw_ex tw_c323 n (tw_c323.drop k) k ls st σ = some c1 → tw_MW p l e0 s m args below meth c n0 b0 L0 xs adK dC dI cy Q x y (k, ls, st, σ)
  | 0, k, ls, st, σ, hx => by
    rw [tw_ex] at hx
    cases hx
    exact h
  | n + 1, k, ls, st, σ, hx => by
    cases hd : tw_c323.drop k with
    | nil => rw [hd, tw_ex] at hx; cases hx
    | cons e es =>
      rw [hd, tw_ex] at hx
      have hlt : k < tw_c323.length := by
        rcases Nat.lt_or_ge k tw_c323.length with q | q
        · exact q
        · rw [List.drop_eq_nil_of_le q] at hd; cases hd
      rw [List.drop_eq_getElem_cons hlt] at hd
      injection hd with hd1 hd2
      have he : tw_c323[k]? = some e := by rw [List.getElem?_eq_getElem hlt, hd1]
      split at hx
      · next hp =>
        split at hx
        · next k1 ls1 st1 σ1 hs =>
          split at hx
          · next hk =>
            have hnc := tw_ex_nc _ _ _ _ _ _ hx
            refine tw_brW C hxy he hs (Nat.ble_eq_true_of_le (Nat.le_trans hnc hn)) ?_
            rcases hk with hk | hk
            · subst hk
              rw [← hd2] at hx
              exact tw_blkW0 C hxy hn h n (k + 1) ls1 st1 σ1 hx
            · subst hk
              rw [tw_ex] at hx
              cases hx
              exact h
          · cases hx
        · cases hx
      · cases hx
theorem tw_blkW (C : tw_Cx p room_1 s m args meth c 323 n0 b0 L0 xs adK adV dC dI cy) (hxy : 57 + x ≤ 1082 ∧ tw_sl 57 + y ≤ 11854) (n : Nat) {k : Nat} {ls : tw_Ls} {st : List Value} {σ : tw_S} {c1 : tw_C} (hx : tw_ex tw_c323 n (tw_c323.drop k) k ls st σ = some c1) (hn : Nat.ble c1.2.2.2.2.2.2.2.2 57 = true) (h : tw_MW p l e0 s m args below meth c n0 b0 L0 xs adK dC dI cy Q x y c1) : tw_MW p l e0 s m args below meth c n0 b0 L0 xs adK dC dI cy Q x y (k, ls, st, σ) := tw_blkW0 C hxy (Nat.le_of_ble_eq_true hn) h n k ls st σ hx
theorem tw_calW (C : tw_Cx p room_1 s m args meth c 323 n0 b0 L0 xs adK adV dC dI cy) (hxy : 57 + x ≤ 1082 ∧ tw_sl 57 + y ≤ 11854) {k : Nat} {e : tw_E} (he : tw_c323[k]? = some e) (hp : tw_call e = true) {ls : tw_Ls} {st as rest : List Value} {σ σ' : tw_S} {r : Option Value} (hpre : tw_pre e st σ.2.2.2.2.2 = some (as, rest)) (hal : Nat.ble (tw_al as).length (tw_ml e.2.2.2.1) = true) (hcal : tw_ME e.2.2.2.1 (0, tw_args as (tw_ml e.2.2.2.1), [], σ) (r, σ')) (hn : Nat.ble σ'.2.2.2.2.2 57 = true) (hv : σ'.2.2.2.2.2 = σ.2.2.2.2.2 ∨ tw_vok σ.2.2.2.2.2 ls rest = true) (h : tw_MW p l e0 s m args below meth c n0 b0 L0 xs adK dC dI cy Q x y (k + 1, ls, r.toList ++ rest, σ')) : tw_MW p l e0 s m args below meth c n0 b0 L0 xs adK dC dI cy Q x y (k, ls, st, σ) := by
  intro hlen ad H locs lsA hr hl
  dsimp only at hlen hr hl ⊢
  obtain ⟨n1, c2, h1, h2⟩ := hcal
  have hn' := Nat.le_of_ble_eq_true hn
  have m1 := tw_run_nc _ _ _ _ h1
  rw [← tw_out_nc h2] at m1
  dsimp only at m1
  have m2 := tw_sl_mono m1
  have m3 := tw_sl_mono hn'
  have hB1 : σ.2.2.2.2.2 + x + (σ'.2.2.2.2.2 - σ.2.2.2.2.2) = σ'.2.2.2.2.2 + x := by omega
  have hB2 : tw_sl σ.2.2.2.2.2 + y + (tw_sl σ'.2.2.2.2.2 - tw_sl σ.2.2.2.2.2) = tw_sl σ'.2.2.2.2.2 + y := by omega
  refine tw_callW (y := 323) C tw_ok he hp hpre (tw_con n1) (Nat.le_of_ble_eq_true hal) h1 h2 hr hl.1 (show _ ≤ 1082 by omega) (show _ ≤ 11854 by omega) (fun hnx H1 locs1 ad1 hag hr1 => ?_)
  rw [hB1, hB2, ← hnx]
  have hlv : tw_lvF ad1 0 ls = tw_lvF ad 0 ls ∧ rest.map (tw_cv ad1) = rest.map (tw_cv ad) := by
    rcases hv with hv | hv
    · rw [hag.2 hv]; exact ⟨rfl, rfl⟩
    · simp only [tw_vok, Bool.and_eq_true] at hv
      exact ⟨tw_lv_agr _ _ hv.1 hag.1, tw_st_agr hv.2 hag.1⟩
  rw [← hlv.2, ← List.map_append]
  exact h hlen ad1 H1 locs1 lsA hr1 (by dsimp only; rw [hlv.1]; exact hl)
/-- the end -/
theorem tw_endW (C : tw_Cx p room_1 s m #[Value.ref b0] meth c 323 n0 b0 L0 xs adK adV dC dI cy) (hn0 : n0 = s.heap.size) (hr : meth.sig.returnType = ret) (hlocks : meth.locks = false) (hxy : 57 + x ≤ 1082 ∧ tw_sl 57 + y ≤ 11854) {ls : tw_Ls} {σ : tw_S} (hn : σ.2.2.2.2.2 ≤ 57) : tw_MW p l e0 s m #[Value.ref b0] below meth c n0 b0 L0 xs adK dC dI cy (lw_Z below #[Value.ref b0] s) x y (1167, ls, [.int 1], σ) := by
  intro hlen ad H locs lsA hrp hl
  have m3 := tw_sl_mono hn
  refine va_forget (fun q hq => ?_) ?_
  · have := hrp.2.2.1.2.2 q hq
    rw [← hn0]
    exact this
  · refine W.widen (k := 1082) (n := 11854) (by dsimp only; omega) (by dsimp only; omega) ?_
    exact lw_ret C.1 (show c.code = code from C.2.1) hr hlocks (show decode code (tw_pc 323 1167) = .ok (.ireturn, 1) by decide +kernel)
end
