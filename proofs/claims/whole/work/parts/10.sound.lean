/-! A RUN of the abstract machine is one of the real one: frames, calls, contracts -/
theorem tw_sl_mono1 (k : Nat) : tw_sl k ≤ tw_sl (k + 1) := by
  by_cases h : k < 57
  · rw [tw_sl_succ h]
    omega
  · have hl : tw_shl.length = 57 := by decide +kernel
    unfold tw_sl
    rw [List.take_of_length_le (by omega), List.take_of_length_le (by omega)]
    exact Nat.le_refl _
theorem tw_sl_mono {a b : Nat} (h : a ≤ b) : tw_sl a ≤ tw_sl b := by
  induction b with
  | zero =>
    have : a = 0 := by omega
    subst this
    exact Nat.le_refl _
  | succ b ih =>
    by_cases hb : a = b + 1
    · subst hb
      exact Nat.le_refl _
    · exact Nat.le_trans (ih (by omega)) (tw_sl_mono1 b)
theorem tw_put_nc {σ σ2 : tw_S} {k b t : Nat} {z : Int32} {x : Value} (h : tw_put σ k b t z x = some σ2) : σ.2.2.2.2.2 ≤ σ2.2.2.2.2.2 := by
  obtain ⟨I, L, P, A, J, nc⟩ := σ
  unfold tw_put at h
  dsimp only at h
  split at h
  · split at h
    · cases h; exact Nat.le_refl _
    · cases h
  · cases h; exact Nat.le_refl _
  · split at h
    · cases h; exact Nat.le_refl _
    · cases h
  · cases h
theorem tw_ast_nc {σ σ2 : tw_S} {kd k : Nat} {i x : Int32} (h : tw_ast σ kd k i x = some σ2) : σ.2.2.2.2.2 ≤ σ2.2.2.2.2.2 := by
  obtain ⟨I, L, P, A, J, nc⟩ := σ
  unfold tw_ast at h
  dsimp only at h
  split at h
  · split at h
    · cases h
    · cases h; exact Nat.le_refl _
  · cases h
theorem tw_new_nc {σ σ2 : tw_S} {kd : Nat} (h : tw_new σ kd = some σ2) : σ.2.2.2.2.2 ≤ σ2.2.2.2.2.2 := by
  obtain ⟨I, L, P, A, J, nc⟩ := σ
  unfold tw_new at h
  dsimp only at h
  split at h
  · cases h; exact Nat.le_succ _
  · cases h
theorem tw_newa_nc {σ σ2 : tw_S} {kd : Nat} {n : Int32} (h : tw_newa σ kd n = some σ2) : σ.2.2.2.2.2 ≤ σ2.2.2.2.2.2 := by
  obtain ⟨I, L, P, A, J, nc⟩ := σ
  unfold tw_newa at h
  dsimp only at h
  split at h
  · split at h
    · cases h; exact Nat.le_succ _
    · cases h; exact Nat.le_succ _
    · cases h; exact Nat.le_succ _
    · cases h
  · cases h
theorem tw_copy_nc {σ σ2 : tw_S} {a d : Nat} {sp dp n : Int32} (h : tw_copy σ a d sp dp n = some σ2) : σ.2.2.2.2.2 ≤ σ2.2.2.2.2.2 := by
  obtain ⟨I, L, P, A, J, nc⟩ := σ
  unfold tw_copy at h
  dsimp only at h
  split at h
  · cases h; exact Nat.le_refl _
  · cases h
set_option maxHeartbeats 8000000 in
theorem tw_s1_nc {cd : List tw_E} {e : tw_E} {k : Nat} {ls : tw_Ls} {st : List Value} {σ : tw_S} {c1 : tw_C} (h : tw_s1 cd e k ls st σ = some c1) : σ.2.2.2.2.2 ≤ c1.2.2.2.2.2.2.2.2 := by
  obtain ⟨pc, i, len, a, b, t, v, w⟩ := e
  obtain ⟨I, L, P, A, J, nc⟩ := σ
  unfold tw_s1 at h
  dsimp only at h
  split at h <;> repeat' first
    | (cases h; exact Nat.le_refl _)
    | (cases h; done)
    | (obtain ⟨z, hz, rfl⟩ := Option.map_eq_some_iff.mp h; first | exact Nat.le_refl _ | exact tw_put_nc hz | exact tw_ast_nc hz | exact tw_new_nc hz | exact tw_newa_nc hz | exact tw_copy_nc hz)
    | split at h
theorem tw_out_nc {y : Nat} {c : tw_C} {r : Option Value} {σ : tw_S} (h : tw_out y c = some (r, σ)) : σ = c.2.2.2 := by
  obtain ⟨k, ls, st, σ0⟩ := c
  unfold tw_out at h
  dsimp only at h
  split at h
  · split at h
    · cases h; rfl
    · split at h
      · cases h; rfl
      · cases h
    · cases h
  · split at h
    · cases h; rfl
    · cases h
  · split at h
    · cases h; rfl
    · cases h
  · cases h
theorem tw_run_nc : ∀ (n y : Nat) (c c' : tw_C), tw_run n y c = some c' → c.2.2.2.2.2.2.2.2 ≤ c'.2.2.2.2.2.2.2.2
  | 0, _, _, _, h => by cases h
  | n + 1, y, (k, ls, st, σ), c', h => by
    unfold tw_run at h
    split at h
    · cases h
    · next e he =>
      split at h
      · cases h; exact Nat.le_refl _
      · split at h
        · split at h
          · cases h
          · split at h
            · split at h
              · cases h
              · next c hc =>
                split at h
                · cases h
                · next r σ1 ho =>
                  split at h
                  · have h1 := tw_run_nc n _ _ _ hc
                    have h2 := tw_run_nc n _ _ _ h
                    have h3 := tw_out_nc ho
                    subst h3
                    exact Nat.le_trans h1 h2
                  · cases h
            · cases h
        · split at h
          · cases h
          · next c hc => exact Nat.le_trans (tw_s1_nc hc) (tw_run_nc n _ _ _ h)
/-- addresses: which stay -/
def tw_agr (nc nc' : Nat) (ad ad1 : Nat → Nat) : Prop := (∀ k, (k < nc ∨ 900 ≤ k) → ad1 k = ad k) ∧ (nc' = nc → ad1 = ad)
theorem tw_agr_trans {a b c : Nat} {f g h : Nat → Nat} (h1 : tw_agr a b f g) (h2 : tw_agr b c g h) (hab : a ≤ b) (hbc : b ≤ c) : tw_agr a c f h := by
  refine ⟨fun k hk => (h2.1 k (by omega)).trans (h1.1 k hk), fun e => ?_⟩
  rw [h2.2 (by omega), h1.2 (by omega)]
theorem tw_cv_agr {nc : Nat} {ad ad1 : Nat → Nat} {z : Value} (h : tw_vok1 nc z = true) (ha : ∀ k, (k < nc ∨ 900 ≤ k) → ad1 k = ad k) : tw_cv ad1 z = tw_cv ad z := by
  cases z with
  | ref k =>
    simp only [tw_vok1, Bool.or_eq_true, decide_eq_true_eq] at h
    show Value.ref (ad1 k) = Value.ref (ad k)
    rw [ha k h]
  | _ => rfl
theorem tw_lv_agr {nc : Nat} {ad ad1 : Nat → Nat} (l : tw_Ls) (i : Nat) (h : (l.all (fun o => match o with
  | some v => tw_vok1 nc v
  | none => true)) = true) (ha : ∀ k, (k < nc ∨ 900 ≤ k) → ad1 k = ad k) : tw_lvF ad1 i l = tw_lvF ad i l := by
  induction l generalizing i with
  | nil => rfl
  | cons o r ih =>
    rw [List.all_cons, Bool.and_eq_true] at h
    cases o with
    | none => exact ih _ h.2
    | some v =>
      show (i, _) :: tw_lvF _ _ r = (i, _) :: tw_lvF _ _ r
      rw [ih _ h.2, tw_cv_agr h.1 ha]
theorem tw_st_agr {nc : Nat} {ad ad1 : Nat → Nat} {l : List Value} (h : l.all (tw_vok1 nc) = true) (ha : ∀ k, (k < nc ∨ 900 ≤ k) → ad1 k = ad k) : l.map (tw_cv ad1) = l.map (tw_cv ad) :=
  List.map_congr_left fun z hz => tw_cv_agr (List.all_eq_true.mp h z hz) ha
/-- a method's start -/
def tw_B (n0 b L : Nat) (xs : Nat → Int32) (adK adV : Nat → Nat) (dC : Nat → ClassId) (dI : Nat → Nat → Nat) (cy : tw_Y) (ad : Nat → Nat) (σ : tw_S) (U : State) : Prop :=
  tw_F n0 b L xs adK adV U ∧ va_K (dC, dI) tw_cl (tw_ty3 cy) U ∧ va_P (dC, dI) tw_cl (tw_w cy ad σ) U.heap ∧ va_D (tw_A n0) (tw_w cy ad σ)
theorem tw_F_call {n0 b L : Nat} {xs : Nat → Int32} {adK adV : Nat → Nat} {U : State} {g : JFrame} {mk : MethodId} {a : Array Value} (h : tw_F n0 b L xs adK adV U) : tw_F n0 b L xs adK adV (U.calling g mk a) := by
  obtain ⟨h1, h2, h3, h4, h5, h6, h7, h8, h9⟩ := h
  exact ⟨h1.moved (U := U.calling g mk a) (Vm.Alike.refl U.vm), fun q hq => (h2 q hq).same rfl, h3.moved (U := U.calling g mk a) (Vm.Alike.refl U.vm), h4.moved (U := U.calling g mk a) (Vm.Alike.refl U.vm), h5.moved (U := U.calling g mk a) (Vm.Alike.refl U.vm), h6, h7, va_Nw.same rfl rfl h8, va_Nw.same rfl rfl h9⟩
theorem tw_blind {n0 b L : Nat} {xs : Nat → Int32} {adK adV : Nat → Nat} {dC : Nat → ClassId} {dI : Nat → Nat → Nat} {cy : tw_Y} {ad : Nat → Nat} {σ : tw_S} (av : List Value) : FrameBlind (va_Pc av (tw_B n0 b L xs adK adV dC dI cy ad σ)) := by
  intro a U g mk h
  obtain ⟨h0, h1, h2, h3, h4⟩ := h
  exact ⟨h0, tw_F_call h1, va_K.moved (u := U) (U := U.calling g mk a) (Vm.Alike.refl U.vm) h2, h3, h4⟩
/-- a method's end -/
def tw_Bo (dC : Nat → ClassId) (dI : Nat → Nat → Nat) (cy : tw_Y) (n0 : Nat) (σ : tw_S) (ad : Nat → Nat) (t : State) : Prop := va_P (dC, dI) tw_cl (tw_w cy ad σ) t.heap ∧ va_D (tw_A n0) (tw_w cy ad σ)
def tw_po (b L : Nat) (xs : Nat → Int32) (adK : Nat → Nat) (nc : Nat) (ad : Nat → Nat) (σ : tw_S) (ad1 : Nat → Nat) : Prop := tw_agr nc σ.2.2.2.2.2 ad ad1 ∧ tw_Pu b L xs adK ad1 σ
def tw_Qc (n0 b L : Nat) (xs : Nat → Int32) (adK : Nat → Nat) (dC : Nat → ClassId) (dI : Nat → Nat → Nat) (cy : tw_Y) (nc : Nat) (ad : Nat → Nat) (σ : tw_S) (r : Option Value) : Array Value → State → Outcome → State → Prop := match r with
  | none => va_Qv (fun ad1 : Nat → Nat => tw_po b L xs adK nc ad σ ad1) (tw_Bo dC dI cy n0 σ) (tw_A n0)
  | some (.int v) => va_Qi (fun (z : Int32) (ad1 : Nat → Nat) => z = v ∧ tw_po b L xs adK nc ad σ ad1) (tw_Bo dC dI cy n0 σ) (tw_A n0)
  | some (.long v) => va_Ql (fun (z : Int64) (ad1 : Nat → Nat) => z = v ∧ tw_po b L xs adK nc ad σ ad1) (tw_Bo dC dI cy n0 σ) (tw_A n0)
  | _ => fun _ _ _ _ => False
def tw_rm (y : Nat) (σ σ' : tw_S) : Room := { frames := tw_fr y, cells := σ'.2.2.2.2.2 - σ.2.2.2.2.2, slots := tw_sl σ'.2.2.2.2.2 - tw_sl σ.2.2.2.2.2, locals := tw_lo y }
/-- THE CONTRACT of a method, by a run of the abstract machine -/
def tw_Con (n : Nat) : Prop := ∀ (l : Launch) (n0 b L : Nat) (xs : Nat → Int32) (adK adV : Nat → Nat) (dC : Nat → ClassId) (dI : Nat → Nat → Nat) (cy : tw_Y) (y : Nat) (as : List Value) (σ : tw_S) (c' : tw_C) (r : Option Value) (σ' : tw_S) (ad : Nat → Nat), y < tw_NM → (tw_al as).length ≤ tw_ml y → tw_run n y (0, tw_args as (tw_ml y), [], σ) = some c' → tw_out y c' = some (r, σ') → tw_Pu b L xs adK ad σ →
  Met l (tw_nm y) (tw_ws y) (tw_rm y σ σ') (va_Pc (as.map (tw_cv ad)) (tw_B n0 b L xs adK adV dC dI cy ad σ)) (tw_Qc n0 b L xs adK dC dI cy σ.2.2.2.2.2 ad σ' r) (σ'.2.2.2.2.2 - σ.2.2.2.2.2) (tw_sl σ'.2.2.2.2.2 - tw_sl σ.2.2.2.2.2) (tw_A n0)
theorem tw_good (hok : tw_OK) {a : Nat} (hc : tw_cw a ∈ tw_WALL) (ws0 : List Cond) (h : ∀ w ∈ ws0, w ∈ tw_WALL) : GoodIn tw_WALL (ws0 ++ tw_ws a) := by
  intro w hw
  have hm : w ∈ tw_WALL := by
    rcases List.mem_append.mp hw with h1 | h1
    · exact h w h1
    · rcases List.mem_cons.mp h1 with h2 | h2
      · rw [h2]; exact hc
      · exact h2
  exact ⟨hm, good_of_word (hok.2.1 w hm)⟩
/-- behind a call -/
theorem tw_after {p : Program} {l : Launch} {e0 : Env} {R : Room} {s : State} {m : MethodId} {args : Array Value} {below : List Frame} {meth : Method} {c : Code} {n0 b L : Nat} {xs : Nat → Int32} {adK : Nat → Nat} {dC : Nat → ClassId} {dI : Nat → Nat → Nat} {cy : tw_Y} {Q : State → Prop} {H : Heap} {locs : List Loc} {ls : Array Slot} {st0 rest : List Value} {cells slots mc ms nc pc : Nat} {ad : Nat → Nat} {σ' : tw_S} {r : Option Value} {a : Array Value}
    (hrun : va_Run p l e0 R s m args below meth c H locs cells slots mc ms (F0 m pc ls st0) rest (tw_Qc n0 b L xs adK dC dI cy nc ad σ' r a) (tw_A n0)) (hS : va_S (tw_A n0) s.heap H locs)
    (kk : ∀ (H1 : Heap) (locs1 : List Loc) (ad1 : Nat → Nat), tw_agr nc σ'.2.2.2.2.2 ad ad1 → tw_Rp s n0 b L xs adK dC dI cy ad1 σ' H1 locs1 → W p l e0 R s m args below meth c H1 locs1 (cells + mc) (slots + ms) Q (F0 m (pc + 3) ls (r.toList.map (tw_cv ad1) ++ rest))) : W p l e0 R s m args below meth c H locs cells slots Q (F0 m pc ls st0) := by
  cases r with
  | none =>
    refine va_callv (a := a) hrun hS (fun _ _ h => h) (fun _ h => h) (fun u t H1 locs1 ht hvm hw hB hz hk hS1 => ?_)
    have hB1 := hB.1
    rw [ht] at hB1
    exact kk H1 locs1 u hw.1 ⟨hB1, hB.2, hS1, hw.2⟩
  | some v =>
    cases v with
    | int v =>
      refine va_calli (a := a) hrun hS (fun _ _ h => h) (fun _ h => h) (fun z u t H1 locs1 ht hvm hw hB hz hk hS1 => ?_)
      have hB1 := hB.1
      rw [ht] at hB1
      rw [hw.1]
      exact kk H1 locs1 u hw.2.1 ⟨hB1, hB.2, hS1, hw.2.2⟩
    | long v =>
      refine va_calll (a := a) hrun hS (fun _ _ h => h) (fun _ h => h) (fun z u t H1 locs1 ht hvm hw hB hz hk hS1 => ?_)
      have hB1 := hB.1
      rw [ht] at hB1
      rw [hw.1]
      exact kk H1 locs1 u hw.2.1 ⟨hB1, hB.2, hS1, hw.2.2⟩
    | _ =>
      intro T hT X
      obtain ⟨v, st₀, t, T', L, h0, X', hL, e1, e2, hf, st⟩ := hrun T hT X
      exact hf.elim
