/-! ONE INSTRUCTION: from the abstract machine to the real one -/
theorem tw_offs (d : Int) (x : Int) : ∀ (l : List (Int × Int)), Op.lookupswitch.offset l d x = d ∨ ∃ q ∈ l, Op.lookupswitch.offset l d x = q.2
  | [] => Or.inl rfl
  | (a, o) :: r => by
    rw [Op.lookupswitch.offset_cons]
    split
    · exact Or.inr ⟨(a, o), List.mem_cons_self, rfl⟩
    · rcases tw_offs d x r with h | ⟨q, h1, h2⟩
      · exact Or.inl h
      · exact Or.inr ⟨q, List.mem_cons_of_mem _ h1, h2⟩
theorem tw_q19 (q : Nat) (h1 : 1000 ≤ q) (h2 : q < 1019) : q - 1000 < 19 ∧ 1000 + (q - 1000) = q := ⟨by omega, by omega⟩
/-- putfield on the world -/
theorem tw_put_ok {cy : tw_Y} {b0 L0 : Nat} {xs : Nat → Int32} {adK ad : Nat → Nat} {σ σ' : tw_S} {q a b t : Nat} {z : Int32} {x : Value} (h : tw_put σ q b t z x = some σ') (hq : q < σ.2.2.2.2.2) (ha : (tw_sh q).1 = a) (h10 : a < 10) (hb : b < (tw_cg a).2.2) (ht : t = tw_tc a b) (hP : tw_Pu b0 L0 xs adK ad σ)
    (t0 : t = 0 → z = 0 → tw_tyo a b = .int) (t0b : t = 0 → z ≠ 0 → tw_tyo a b = .boolean) (t1 : t = 1 → tw_tyo a b = .long) (t2 : t = 2 → tw_isR (tw_tyo a b) = true) :
    σ'.2.2.2.2.2 = σ.2.2.2.2.2 ∧ tw_Pu b0 L0 xs adK ad σ' ∧ (tw_w cy ad σ).set q (ad q, .inr (a, (tw_fl ad σ q).set b (tw_cv ad x))) = tw_w cy ad σ' ∧ narrow (tw_tyo a b) (tw_cv ad x) = tw_cv ad x ∧ fits (tw_tyo a b) (tw_cv ad x) = true := by
  obtain ⟨I, L, P, A, J, nc⟩ := σ
  obtain ⟨p1, p2, p3, p4, p5, p6, p7⟩ := hP
  dsimp only at hq p3 p4 p5 p6
  have hshq := tw_sh_ok (k := q) (by omega)
  rw [ha] at hshq
  have hb2 : b < (tw_sh q).2 := by omega
  have key : ∀ (σ2 : tw_S), σ2.2.2.2.2.2 = nc → (∀ j, σ2.2.2.2.1 j = A j) → (∀ j, σ2.2.2.2.2.1 j = J j) → (∀ j c, j < 57 → c < 100 → (j ≠ q ∨ c ≠ b) → ∀ u, tw_cv ad (tw_fv σ2 j c u) = tw_cv ad (tw_fv (I, L, P, A, J, nc) j c u)) → tw_cv ad (tw_fv σ2 q b t) = tw_cv ad x → (tw_w cy ad (I, L, P, A, J, nc)).set q (ad q, .inr (a, (tw_fl ad (I, L, P, A, J, nc) q).set b (tw_cv ad x))) = tw_w cy ad σ2 := by
    intro σ2 e1 e2 e3 e4 e5
    refine tw_w_set hq e1 (fun j hj => ?_) ?_
    · by_cases hj57 : j < 57
      · refine tw_cell_same (fun hsh => tw_fl_same fun c hc => ?_) (fun _ => e2 j) (fun _ => e3 j) hj57
        have := tw_sh_ok hsh
        exact e4 j c hj57 (by omega) (Or.inl hj) _
      · unfold tw_cell tw_fl
        rw [tw_sh57 hj57]
        rfl
    · rw [tw_cell_obj (by omega), ha]
      congr 2
      apply List.ext_getElem?
      intro c
      by_cases hc : c < (tw_sh q).2
      · rw [tw_fl_get hc]
        by_cases hcb : c = b
        · subst hcb
          rw [List.getElem?_set_self (by rw [tw_fl_len]; exact hc), ha, ← ht, e5]
        · rw [List.getElem?_set_ne (Ne.symm hcb), tw_fl_get hc]
          exact congrArg some (e4 q c hshq.2.2 (by omega) (Or.inr hcb) _)
      · rw [List.getElem?_eq_none (by rw [tw_fl_len]; omega), List.getElem?_eq_none (by rw [List.length_set, tw_fl_len]; omega)]
  unfold tw_put at h
  dsimp only at h
  split at h
  · rename_i v0
    split at h
    · next hz =>
      cases h
      refine ⟨rfl, ⟨p1, p2, p3, ?_, p5, p6, p7⟩, key _ rfl (fun _ => rfl) (fun _ => rfl) (fun j c hj hc hd u => ?_) ?_, ?_, ?_⟩
      · show upd I (100 * q + b) v0 90000 = nI L0
        rw [← p4]
        unfold upd
        rw [if_neg (by have := hshq.2.2; omega)]
      · unfold tw_fv
        split
        · show Value.int (upd I (100 * q + b) v0 (100 * j + c)) = _
          unfold upd
          rw [if_neg (by rcases hd with h | h <;> omega)]
          rfl
        · rfl
        · rfl
      · show Value.int (upd I (100 * q + b) v0 (100 * q + b)) = _
        unfold upd
        rw [if_pos rfl]
        rfl
      · by_cases hz0 : z = 0
        · rw [t0 rfl hz0]; rfl
        · rw [t0b rfl hz0]
          rcases hz with h | h | h
          · exact absurd h hz0
          · subst h; rfl
          · subst h; rfl
      · by_cases hz0 : z = 0
        · rw [t0 rfl hz0]; rfl
        · rw [t0b rfl hz0]
          rcases hz with h | h | h
          · exact absurd h hz0
          · subst h; rfl
          · subst h; rfl
    · cases h
  · rename_i v0
    cases h
    refine ⟨rfl, ⟨p1, p2, p3, p4, p5, p6, p7⟩, key _ rfl (fun _ => rfl) (fun _ => rfl) (fun j c hj hc hd u => ?_) ?_, ?_, ?_⟩
    · unfold tw_fv
      split
      · rfl
      · show Value.long (vp_updL L (100 * q + b) v0 (100 * j + c)) = _
        unfold vp_updL
        rw [if_neg (by rcases hd with h | h <;> omega)]
        rfl
      · rfl
    · show Value.long (vp_updL L (100 * q + b) v0 (100 * q + b)) = _
      unfold vp_updL
      rw [if_pos rfl]
      rfl
    · rw [t1 rfl]; rfl
    · rw [t1 rfl]; rfl
  · rename_i r0
    split at h
    · next hr =>
      cases h
      refine ⟨rfl, ⟨p1, p2, fun k hk j => ?_, p4, p5, p6, p7⟩, key _ rfl (fun _ => rfl) (fun _ => rfl) (fun j c hj hc hd u => ?_) ?_, ?_, ?_⟩
      · show va_up P q (va_up (P q) b (r0 + 1)) k j ≤ nc
        unfold va_up
        split
        · dsimp only
          split
          · exact hr
          · exact p3 q hq j
        · exact p3 k hk j
      · unfold tw_fv
        split
        · rfl
        · rfl
        · show tw_cv ad (tw_rf (va_up P q (va_up (P q) b (r0 + 1)) j c)) = _
          unfold va_up
          by_cases hjq : j = q
          · subst hjq
            rw [if_pos rfl, if_neg (by rcases hd with h | h <;> omega)]
          · rw [if_neg hjq]
      · show tw_cv ad (tw_rf (va_up P q (va_up (P q) b (r0 + 1)) q b)) = _
        unfold va_up
        rw [if_pos rfl, if_pos rfl]
        rfl
      · have hR := t2 rfl
        unfold tw_isR at hR
        split at hR
        · next hty => rw [hty]; rfl
        · next hty => rw [hty]; rfl
        · cases hR
      · have hR := t2 rfl
        unfold tw_isR at hR
        split at hR
        · next hty => rw [hty]; rfl
        · next hty => rw [hty]; rfl
        · cases hR
    · cases h
  · cases h
/-- an array's cell is written -/
theorem tw_setA {cy : tw_Y} {ad : Nat → Nat} {I : Nat → Int32} {L : Nat → Int64} {P : Nat → Nat → Nat} {A : Nat → Nat → Int32} {J : Nat → Nat → Int64} {nc q : Nat} {g : Nat → Int32} {e : va_E} (hq : q < nc) (he : tw_cell cy ad (I, L, P, va_up A q g, J, nc) q = e) : (tw_w cy ad (I, L, P, A, J, nc)).set q (ad q, e) = tw_w cy ad (I, L, P, va_up A q g, J, nc) := by
  refine tw_w_set hq rfl (fun j hj => ?_) he
  have h1 : va_up A q g j = A j := by unfold va_up; rw [if_neg hj]
  unfold tw_cell
  dsimp only
  rw [h1]
  rfl
theorem tw_setJ {cy : tw_Y} {ad : Nat → Nat} {I : Nat → Int32} {L : Nat → Int64} {P : Nat → Nat → Nat} {A : Nat → Nat → Int32} {J : Nat → Nat → Int64} {nc q : Nat} {g : Nat → Int64} {e : va_E} (hq : q < nc) (he : tw_cell cy ad (I, L, P, A, va_up J q g, nc) q = e) : (tw_w cy ad (I, L, P, A, J, nc)).set q (ad q, e) = tw_w cy ad (I, L, P, A, va_up J q g, nc) := by
  refine tw_w_set hq rfl (fun j hj => ?_) he
  have h1 : va_up J q g j = J j := by unfold va_up; rw [if_neg hj]
  unfold tw_cell
  dsimp only
  rw [h1]
  rfl
theorem tw_PuA {b0 L0 : Nat} {xs : Nat → Int32} {adK ad : Nat → Nat} {I : Nat → Int32} {L : Nat → Int64} {P : Nat → Nat → Nat} {A : Nat → Nat → Int32} {J : Nat → Nat → Int64} {nc q : Nat} {g : Nat → Int32} (hq : q < nc) (h : tw_Pu b0 L0 xs adK ad (I, L, P, A, J, nc)) : tw_Pu b0 L0 xs adK ad (I, L, P, va_up A q g, J, nc) := by
  obtain ⟨p1, p2, p3, p4, p5, p6, p7⟩ := h
  refine ⟨p1, p2, p3, p4, ?_, p6, p7⟩
  dsimp only at p6 ⊢
  rw [← p5]
  show va_up A q g 900 = A 900
  unfold va_up
  rw [if_neg (by omega)]
theorem tw_sl_succ {k : Nat} (h : k < 57) : tw_sl (k + 1) = tw_sl k + (tw_sh k).2 := by
  have hl : tw_shl.length = 57 := by decide +kernel
  have hk : k < tw_shl.length := by omega
  unfold tw_sl tw_sh
  rw [List.take_succ_eq_append_getElem hk, List.map_append, List.sum_append, List.getD_eq_getElem?_getD, List.getElem?_eq_getElem hk]
  simp
theorem tw_cv_up {ad : Nat → Nat} {nc q : Nat} {z : Value} (h : tw_vok1 nc z = true) (hn : nc ≤ 57) : tw_cv (va_up ad nc q) z = tw_cv ad z := by
  cases z with
  | ref k =>
    simp only [tw_vok1, Bool.or_eq_true, decide_eq_true_eq] at h
    show Value.ref (va_up ad nc q k) = Value.ref (ad k)
    unfold va_up
    have hne : ¬ (k : Nat) = nc := fun e => by
      rcases h with h | h
      · rw [e] at h; exact Nat.lt_irrefl _ h
      · rw [e] at h; exact absurd (Nat.le_trans h hn) (by decide)
    rw [if_neg hne]
  | _ => rfl
theorem tw_lv_up {ad : Nat → Nat} {nc q : Nat} (l : tw_Ls) (i : Nat) (h : (l.all (fun o => match o with
  | some v => tw_vok1 nc v
  | none => true)) = true) (hn : nc ≤ 57) : tw_lvF (va_up ad nc q) i l = tw_lvF ad i l := by
  induction l generalizing i with
  | nil => rfl
  | cons o r ih =>
    rw [List.all_cons, Bool.and_eq_true] at h
    cases o with
    | none => exact ih _ h.2
    | some v =>
      show (i, _) :: tw_lvF _ _ r = (i, _) :: tw_lvF _ _ r
      rw [ih _ h.2, tw_cv_up h.1 hn]
theorem tw_map_up {ad : Nat → Nat} {nc q : Nat} {l : List Value} (h : l.all (tw_vok1 nc) = true) (hn : nc ≤ 57) : l.map (tw_cv (va_up ad nc q)) = l.map (tw_cv ad) :=
  List.map_congr_left fun z hz => tw_cv_up (List.all_eq_true.mp h z hz) hn
theorem tw_sh_smB : (List.range 57).all (fun k => decide ((tw_sh k).2 * 8 ≤ 536870912)) = true := by decide +kernel
theorem tw_sh_small (k : Nat) : (tw_sh k).2 * 8 ≤ 536870912 := by
  by_cases h : k < 57
  · exact of_decide_eq_true (List.all_eq_true.mp tw_sh_smB k (List.mem_range.mpr h))
  · rw [tw_sh57 h]; exact Nat.le_of_ble_eq_true rfl
theorem tw_rf_up {ad : Nat → Nat} {nc q r : Nat} (h : r ≤ nc) : tw_cv (va_up ad nc q) (tw_rf r) = tw_cv ad (tw_rf r) := by
  cases r with
  | zero => rfl
  | succ r =>
    show Value.ref (va_up ad nc q r) = Value.ref (ad r)
    unfold va_up
    rw [if_neg (by omega)]
theorem tw_newa_ok {b0 L0 t : Nat} {n : Int32} {xs : Nat → Int32} {adK ad : Nat → Nat} {σ σ2 : tw_S} (hs : tw_newa σ t n = some σ2) (hU : tw_Pu b0 L0 xs adK ad σ) :
    σ2.2.2.2.2.2 = σ.2.2.2.2.2 + 1 ∧ tw_sl (σ.2.2.2.2.2 + 1) = tw_sl σ.2.2.2.2.2 + (tw_sh σ.2.2.2.2.2).2 ∧ (∀ q : Nat, tw_Pu b0 L0 xs adK (va_up ad σ.2.2.2.2.2 q) σ2) ∧ (∀ (cy : tw_Y) (j : Nat), j < σ.2.2.2.2.2 → ∀ q : Nat, tw_cell cy (va_up ad σ.2.2.2.2.2 q) σ2 j = tw_cell cy ad σ j) ∧ ((tw_sh σ.2.2.2.2.2).1 = t ∧ ¬ n < 0 ∧ n.toNatClampNeg = (tw_sh σ.2.2.2.2.2).2) ∧ ∀ _ : Nat, ((t = 10 ∨ t = 11) → σ2.2.2.2.1 σ.2.2.2.2.2 = fun _ => 0) ∧ (t = 12 → σ2.2.2.2.2.1 σ.2.2.2.2.2 = fun _ => 0) := by
  obtain ⟨I, L, P, A, J, nc⟩ := σ
  obtain ⟨p1, p2, p3, p4, p5, p6, p7⟩ := hU
  unfold tw_newa at hs
  dsimp only at hs p3 p4 p5 p6 ⊢
  split at hs
  · next hc =>
    obtain ⟨c1, c2, c3, c4⟩ := hc
    have main : ∀ (A2 : Nat → Nat → Int32) (J2 : Nat → Nat → Int64), (∀ j, j ≠ nc → A2 j = A j) → (∀ j, j ≠ nc → J2 j = J j) → t ≤ 12 → σ2 = (I, L, va_up P nc (fun _ => 0), A2, J2, nc + 1) →
        σ2.2.2.2.2.2 = nc + 1 ∧ tw_sl (nc + 1) = tw_sl nc + (tw_sh nc).2 ∧ (∀ q : Nat, tw_Pu b0 L0 xs adK (va_up ad nc q) σ2) ∧ (∀ (cy : tw_Y) (j : Nat), j < nc → ∀ q : Nat, tw_cell cy (va_up ad nc q) σ2 j = tw_cell cy ad (I, L, P, A, J, nc) j) := by
      intro A2 J2 hA hJ ht e
      subst e
      have hn57 : nc < 57 := tw_sh_lt (by omega)
      refine ⟨rfl, tw_sl_succ hn57, fun q => ⟨?_, fun i hi => ?_, fun k hk j => ?_, p4, ?_, hn57, p7⟩, fun cy j hj q => ?_⟩
      · unfold va_up
        rw [if_neg (by omega)]
        exact p1
      · unfold va_up
        rw [if_neg (by omega)]
        exact p2 i hi
      · show va_up P nc (fun _ => 0) k j ≤ nc + 1
        unfold va_up
        split
        · exact Nat.zero_le _
        · have hk3 : k < nc + 1 := hk
          exact Nat.le_succ_of_le (p3 k (by omega) j)
      · show A2 900 = xs
        rw [hA _ (by omega)]
        exact p5
      · refine tw_cell_same (fun hsh => tw_fl_same fun c hc => ?_) (fun _ => hA j (by omega)) (fun _ => hJ j (by omega)) (by omega)
        unfold tw_fv
        split
        · rfl
        · rfl
        · have h0 : va_up P nc (fun _ => 0) j = P j := by unfold va_up; rw [if_neg (by omega)]
          show tw_cv _ (tw_rf (va_up P nc (fun _ => 0) j c)) = tw_cv ad (tw_rf (P j c))
          rw [h0]
          exact tw_rf_up (p3 j hj c)
    split at hs
    · cases hs
      obtain ⟨m1, m2, m3, m4⟩ := main (va_up A nc (fun _ => 0)) J (fun j hj => by unfold va_up; rw [if_neg hj]) (fun j _ => rfl) (by omega) rfl
      exact ⟨m1, m2, m3, m4, ⟨c2, c3, c4⟩, fun _ => ⟨fun _ => by show va_up A nc (fun _ => 0) nc = _; unfold va_up; rw [if_pos rfl], fun h => absurd h (by decide)⟩⟩
    · cases hs
      obtain ⟨m1, m2, m3, m4⟩ := main (va_up A nc (fun _ => 0)) J (fun j hj => by unfold va_up; rw [if_neg hj]) (fun j _ => rfl) (by omega) rfl
      exact ⟨m1, m2, m3, m4, ⟨c2, c3, c4⟩, fun _ => ⟨fun _ => by show va_up A nc (fun _ => 0) nc = _; unfold va_up; rw [if_pos rfl], fun h => absurd h (by decide)⟩⟩
    · cases hs
      obtain ⟨m1, m2, m3, m4⟩ := main A (va_up J nc (fun _ => 0)) (fun j _ => rfl) (fun j hj => by unfold va_up; rw [if_neg hj]) (by omega) rfl
      exact ⟨m1, m2, m3, m4, ⟨c2, c3, c4⟩, fun _ => ⟨fun h => absurd h (by decide), fun _ => by show va_up J nc (fun _ => 0) nc = _; unfold va_up; rw [if_pos rfl]⟩⟩
    · cases hs
  · cases hs
theorem tw_new_fl {a : Nat} {σ σ2 : tw_S} (hs : tw_new σ a = some σ2) (ad ad' : Nat → Nat) : tw_fl ad σ2 σ.2.2.2.2.2 = tw_fl ad' σ2 σ.2.2.2.2.2 := by
  obtain ⟨I, L, P, A, J, nc⟩ := σ
  unfold tw_new at hs
  dsimp only at hs ⊢
  split at hs
  · cases hs
    refine tw_fl_same fun c hc => ?_
    unfold tw_fv
    split
    · rfl
    · rfl
    · have h0 : va_up P nc (fun _ => 0) nc c = 0 := by unfold va_up; rw [if_pos rfl]
      show tw_cv ad (tw_rf (va_up P nc (fun _ => 0) nc c)) = tw_cv ad' (tw_rf (va_up P nc (fun _ => 0) nc c))
      rw [h0]
      rfl
  · cases hs
theorem tw_new_ok {b0 L0 a : Nat} {xs : Nat → Int32} {adK ad : Nat → Nat} {σ σ2 : tw_S} (hs : tw_new σ a = some σ2) (hU : tw_Pu b0 L0 xs adK ad σ) :
    σ2.2.2.2.2.2 = σ.2.2.2.2.2 + 1 ∧ tw_sl (σ.2.2.2.2.2 + 1) = tw_sl σ.2.2.2.2.2 + (tw_sh σ.2.2.2.2.2).2 ∧ (∀ q : Nat, tw_Pu b0 L0 xs adK (va_up ad σ.2.2.2.2.2 q) σ2) ∧ (∀ (cy : tw_Y) (j : Nat), j < σ.2.2.2.2.2 → ∀ q : Nat, tw_cell cy (va_up ad σ.2.2.2.2.2 q) σ2 j = tw_cell cy ad σ j) ∧ (tw_sh σ.2.2.2.2.2).1 = a ∧ ∀ (ad : Nat → Nat) (j : Nat), j < (tw_cg a).2.2 → defaultValue (tw_tyo a j) = vp_V (tw_fl ad σ2 σ.2.2.2.2.2) j := by
  obtain ⟨I, L, P, A, J, nc⟩ := σ
  obtain ⟨p1, p2, p3, p4, p5, p6, p7⟩ := hU
  unfold tw_new at hs
  dsimp only at hs p3 p4 p5 p6 ⊢
  split at hs
  · next hc =>
    obtain ⟨c1, c2, c3⟩ := hc
    cases hs
    have hn57 : nc < 57 := tw_sh_lt (by omega)
    refine ⟨rfl, tw_sl_succ hn57, fun q => ⟨?_, fun i hi => ?_, fun k hk j => ?_, ?_, p5, hn57, p7⟩, fun cy j hj q => ?_, c2, fun ad j hj => ?_⟩
    · unfold va_up
      rw [if_neg (by omega)]
      exact p1
    · unfold va_up
      rw [if_neg (by omega)]
      exact p2 i hi
    · show va_up P nc (fun _ => 0) k j ≤ nc + 1
      unfold va_up
      split
      · exact Nat.zero_le _
      · next hk2 => 
        have hk3 : k < nc + 1 := hk
        exact Nat.le_succ_of_le (p3 k (by omega) j)
    · show (if 100 * nc ≤ 90000 ∧ 90000 < 100 * nc + 100 then 0 else I 90000) = nI L0
      rw [if_neg (by omega)]
      exact p4
    · refine tw_cell_same (fun hsh => tw_fl_same fun c hc => ?_) (fun _ => rfl) (fun _ => rfl) (by omega)
      have h100 := (tw_sh_ok hsh).2.1
      unfold tw_fv
      split
      · show Value.int (if 100 * nc ≤ 100 * j + c ∧ 100 * j + c < 100 * nc + 100 then 0 else I (100 * j + c)) = _
        rw [if_neg (by omega)]
        rfl
      · show Value.long (if 100 * nc ≤ 100 * j + c ∧ 100 * j + c < 100 * nc + 100 then 0 else L (100 * j + c)) = _
        rw [if_neg (by omega)]
        rfl
      · have h0 : va_up P nc (fun _ => 0) j = P j := by unfold va_up; rw [if_neg (by omega)]
        show tw_cv _ (tw_rf (va_up P nc (fun _ => 0) j c)) = tw_cv ad (tw_rf (P j c))
        rw [h0]
        exact tw_rf_up (p3 j hj c)
    · have h1 := of_decide_eq_true (List.all_eq_true.mp (List.all_eq_true.mp tw_dfB a (List.mem_range.mpr c3)) j (List.mem_range.mpr hj))
      rw [h1]
      have hsh := tw_sh_ok (k := nc) (by omega)
      rw [c2] at hsh
      unfold vp_V
      rw [List.getD_eq_getElem?_getD, tw_fl_get (by omega), c2]
      show _ = tw_cv ad (tw_fv _ nc j (tw_tc a j))
      unfold tw_fv
      split
      · show Value.int 0 = Value.int (if 100 * nc ≤ 100 * nc + j ∧ 100 * nc + j < 100 * nc + 100 then 0 else I (100 * nc + j))
        rw [if_pos (by omega)]
      · show Value.long 0 = Value.long (if 100 * nc ≤ 100 * nc + j ∧ 100 * nc + j < 100 * nc + 100 then 0 else L (100 * nc + j))
        rw [if_pos (by omega)]
      · show Value.null = tw_cv ad (tw_rf (va_up P nc (fun _ => 0) nc j))
        have h0 : va_up P nc (fun _ => 0) nc j = 0 := by unfold va_up; rw [if_pos rfl]
        rw [h0]
        rfl
  · cases hs
theorem tw_clL {L : Nat} (h : L < 2 ^ 31) : (nI L).toNatClampNeg = L := nI_clamp h
/-- the words of String.length() and charAt(k) on a constant (their proofs: the part on the JDK's methods) -/
def tw_JDK : Prop := ∀ (p : Program) (l : Launch) (e0 : Env) (R : Room) (s : State) (m : MethodId) (args : Array Value) (below : List Frame) (meth : Method) (c : Code) (y n0 b L : Nat) (xs : Nat → Int32) (adK adV : Nat → Nat) (dC : Nat → ClassId) (dI : Nat → Nat → Nat) (cy : tw_Y), tw_Cx p R s m args meth c y n0 b L xs adK adV dC dI cy → ∀ (Q : State → Prop) (pc x i : Nat) (H : Heap) (locs : List Loc) (ls : Array Slot) (rest : List Value) (cells slots : Nat), ls.size = tw_ml y → i < 19 → va_S (tw_A n0) s.heap H locs → (rest.map fun v => v.category).sum ≤ 8 → cells ≤ R.cells → slots ≤ R.slots →
  (∀ (hlink : Cond.methodLink (tw_nm y).cls x yJ0_length_8abf5 ∈ tw_WALL), 2 ≤ R.frames → 40 ≤ R.locals → decode (tw_by y) pc = .ok (.invokevirtual x, 3) → (∀ (H1 : Heap) (locs1 : List Loc), (∀ q : Nat, q < H.size → H1[q]? = H[q]?) → va_S (tw_A n0) s.heap H1 locs1 → W p l e0 R s m args below meth c H1 locs1 cells slots Q (F0 m (pc + 3) ls (.int (Int32.ofNat (tw_lenS (1000 + i))) :: rest))) → W p l e0 R s m args below meth c H locs cells slots Q (F0 m pc ls (.ref (adK i) :: rest))) ∧
  (∀ (hlink : Cond.methodLink (tw_nm y).cls x yJ0_charAt_5068e ∈ tw_WALL) (j : Int32), ¬ (j < 0 ∨ tw_lenS (1000 + i) ≤ j.toNatClampNeg) → 4 ≤ R.frames → 85 ≤ R.locals → decode (tw_by y) pc = .ok (.invokevirtual x, 3) → (∀ (H1 : Heap) (locs1 : List Loc), (∀ q : Nat, q < H.size → H1[q]? = H[q]?) → va_S (tw_A n0) s.heap H1 locs1 → W p l e0 R s m args below meth c H1 locs1 cells slots Q (F0 m (pc + 3) ls (.int (tw_chr (1000 + i) j.toNatClampNeg) :: rest))) → W p l e0 R s m args below meth c H locs cells slots Q (F0 m pc ls (.int j :: .ref (adK i) :: rest)))
set_option maxHeartbeats 40000000 in
theorem tw_step {p : Program} {l : Launch} {e0 : Env} {R : Room} {s : State} {m : MethodId} {args : Array Value} {below : List Frame} {meth : Method} {c : Code} {y n0 b0 L0 : Nat} {xs : Nat → Int32} {adK adV : Nat → Nat} {dC : Nat → ClassId} {dI : Nat → Nat → Nat} {cy : tw_Y} (C : tw_Cx p R s m args meth c y n0 b0 L0 xs adK adV dC dI cy) (hok : tw_OK) (hJDK : tw_JDK) {Q : State → Prop} {k : Nat} {en : tw_E} (he : (tw_code y)[k]? = some en) {lA : tw_Ls} {st : List Value} {σ : tw_S} {c1 : tw_C} (h1 : tw_s1 (tw_code y) en k lA st σ = some c1) (hlen : lA.length = tw_ml y) {ad : Nat → Nat} {H : Heap} {locs : List Loc} {ls : Array Slot} {cells slots : Nat} (hr : tw_Rp s n0 b0 L0 xs adK dC dI cy ad σ H locs) (hl : lv_has ls (tw_ml y) (tw_lvF ad 0 lA)) (hcells : cells + (c1.2.2.2.2.2.2.2.2 - σ.2.2.2.2.2) ≤ R.cells) (hslots : slots + (tw_sl c1.2.2.2.2.2.2.2.2 - tw_sl σ.2.2.2.2.2) ≤ R.slots)
    (kk : ∀ (H1 : Heap) (locs1 : List Loc) (ls1 : Array Slot) (ad1 : Nat → Nat), tw_Rp s n0 b0 L0 xs adK dC dI cy ad1 c1.2.2.2 H1 locs1 → lv_has ls1 (tw_ml y) (tw_lvF ad1 0 c1.2.1) → (∀ k, (k < σ.2.2.2.2.2 ∨ 900 ≤ k) → ad1 k = ad k) → (c1.2.2.2.2.2.2.2.2 = σ.2.2.2.2.2 → ad1 = ad) → c1.2.1.length = tw_ml y → W p l e0 R s m args below meth c H1 locs1 (cells + (c1.2.2.2.2.2.2.2.2 - σ.2.2.2.2.2)) (slots + (tw_sl c1.2.2.2.2.2.2.2.2 - tw_sl σ.2.2.2.2.2)) Q (F0 m (tw_pc y c1.1) ls1 (c1.2.2.1.map (tw_cv ad1)))) :
    W p l e0 R s m args below meth c H locs cells slots Q (F0 m (tw_pc y k) ls (st.map (tw_cv ad))) := by
  obtain ⟨hx, hb, hml, hown, hts, hF, hK, hfr, hlo, hnm⟩ := id C
  obtain ⟨hP, hD, hS, hU⟩ := id hr
  have K : c1.2.2.2.2.2.2.2.2 = σ.2.2.2.2.2 → ∀ (H1 : Heap) (locs1 : List Loc) (ls1 : Array Slot), tw_Rp s n0 b0 L0 xs adK dC dI cy ad c1.2.2.2 H1 locs1 → lv_has ls1 (tw_ml y) (tw_lvF ad 0 c1.2.1) → c1.2.1.length = tw_ml y → W p l e0 R s m args below meth c H1 locs1 cells slots Q (F0 m (tw_pc y c1.1) ls1 (c1.2.2.1.map (tw_cv ad))) := by
    intro hn H1 locs1 ls1 a1 a2 a3
    have h := kk H1 locs1 ls1 ad a1 a2 (fun _ _ => rfl) (fun _ => rfl) a3
    rw [hn, Nat.sub_self, Nat.sub_self, Nat.add_zero, Nat.add_zero] at h
    exact h
  have hE := hok.1 y k en he
  obtain ⟨pc, i, len, a, b, t, v, w⟩ := en
  have hpc : tw_pc y k = pc := by unfold tw_pc; rw [he]
  rw [hpc]
  simp only [tw_okE, Bool.and_eq_true, decide_eq_true_eq] at hE
  obtain ⟨hdec, hI⟩ := hE
  unfold tw_s1 at h1
  dsimp only at h1
  split at h1
  · rename_i n
    obtain ⟨rfl, hn, hv⟩ := of_decide_eq_true hI
    cases h1
    dsimp only at K
    rw [hn] at K
    exact lv_iconst hx hb hdec hv (K rfl H locs ls hr hl hlen)
  · rename_i n
    obtain ⟨rfl, hn, hv⟩ := of_decide_eq_true hI
    cases h1
    dsimp only at K
    rw [hn] at K
    exact lv_bipush hx hb hdec hv (K rfl H locs ls hr hl hlen)
  · rename_i n
    obtain ⟨rfl, hn, hv⟩ := of_decide_eq_true hI
    cases h1
    dsimp only at K
    rw [hn] at K
    exact lv_sipush hx hb hdec hv (K rfl H locs ls hr hl hlen)
  · rename_i n
    obtain ⟨rfl, hn, h9⟩ := of_decide_eq_true hI
    split at h1
    · next ht =>
      cases h1
      dsimp only at K
      rw [hn] at K
      obtain ⟨g1, g2, g3⟩ := h9 ht
      have hR := hF.2.1 _ g3
      have hq0 : a - 1000 < 19 := by clear K kk; omega
      have hq1 : 1000 + (a - 1000) = a := by clear K kk; omega
      have hq : ad a = adK (a - 1000) := (congrArg ad hq1).symm.trans (hU.2.1 (a - 1000) hq0)
      refine va_ldcS hx hb hown hR hdec ?_
      have K2 := K rfl H locs ls hr hl hlen
      rw [List.map_cons] at K2
      show W p l e0 R s m args below meth c H locs cells slots Q (F0 m (pc + 2) ls (.ref (adK (a - 1000)) :: st.map (tw_cv ad)))
      rw [← hq]
      exact K2
    · next ht =>
      cases h1
      dsimp only at K
      rw [hn] at K
      exact lv_ldc hx hb hown (hts _ (tw_in he (by show _ ∈ (if t = 9 then [] else [Cond.constant (tw_nm y).cls n v]); rw [if_neg ht]; exact List.mem_cons_self))) hdec (K rfl H locs ls hr hl hlen)
  · rename_i n
    obtain ⟨rfl, hn⟩ := of_decide_eq_true hI
    split at h1
    · next ht =>
      cases h1
      dsimp only at K
      rw [hn] at K
      exact lv_ldcw hx hb hown (hts _ (tw_in he (by show _ ∈ (if t = 0 then [Cond.constant (tw_nm y).cls n v] else []); rw [if_pos ht]; exact List.mem_cons_self))) hdec (K rfl H locs ls hr hl hlen)
    · cases h1
  · rename_i n
    obtain ⟨rfl, hn⟩ := of_decide_eq_true hI
    cases h1
    dsimp only at K
    rw [hn] at K
    exact lv_ldc2 hx hb hown (hts _ (tw_in he (List.mem_cons_self))) hdec (K rfl H locs ls hr hl hlen)
  · rename_i n
    obtain ⟨rfl, hn, hv⟩ := of_decide_eq_true hI
    cases h1
    dsimp only at K
    rw [hn] at K
    exact lv_lconst hx hb hdec hv (K rfl H locs ls hr hl hlen)
  · rename_i j
    obtain ⟨rfl, hn⟩ := of_decide_eq_true hI
    split at h1
    · next x hg =>
      cases h1
      dsimp only at K
      rw [hn] at K
      exact lv_iload hx hb hdec (tw_lv_at hl hg) (K rfl H locs ls hr hl hlen)
    · cases h1
  · rename_i j
    obtain ⟨rfl, hn⟩ := of_decide_eq_true hI
    split at h1
    · next x hg =>
      cases h1
      dsimp only at K
      rw [hn] at K
      exact lv_iload_n hx hb hdec rfl (tw_lv_at hl hg) (K rfl H locs ls hr hl hlen)
    · cases h1
  · rename_i j
    obtain ⟨rfl, hn⟩ := of_decide_eq_true hI
    split at h1
    · next x hg =>
      cases h1
      dsimp only at K
      rw [hn] at K
      exact lv_lload hx hb hdec (tw_lv_at hl hg) (K rfl H locs ls hr hl hlen)
    · cases h1
  · rename_i j
    obtain ⟨rfl, hn⟩ := of_decide_eq_true hI
    split at h1
    · next x hg =>
      cases h1
      dsimp only at K
      rw [hn] at K
      exact lv_lload_n hx hb hdec rfl (tw_lv_at hl hg) (K rfl H locs ls hr hl hlen)
    · cases h1
  · rename_i j
    obtain ⟨rfl, hn⟩ := of_decide_eq_true hI
    split at h1
    · next x hg =>
      cases h1
      dsimp only at K
      rw [hn] at K
      exact lv_aload_n hx hb hdec rfl (tw_lv_at hl hg) (K rfl H locs ls hr hl hlen)
    · cases h1
  · rename_i j x r
    obtain ⟨rfl, hn⟩ := of_decide_eq_true hI
    cases hs : tw_set1 lA j (.int x) with
    | none => rw [hs] at h1; cases h1
    | some l2 =>
      rw [hs] at h1
      cases h1
      dsimp only at K
      rw [hn] at K
      exact lv_istore hx hb hdec hl (by have := (tw_set1_some hs).1; omega) rfl (fun ls1 hl1 => K rfl H locs ls1 hr (tw_lv_set1 (v := .int x) hl1 hs) ((tw_set1_len hs).trans hlen))
  · rename_i j x r
    obtain ⟨rfl, hn⟩ := of_decide_eq_true hI
    cases hs : tw_set1 lA j.val (.int x) with
    | none => rw [hs] at h1; cases h1
    | some l2 =>
      rw [hs] at h1
      cases h1
      dsimp only at K
      rw [hn] at K
      exact lv_istore_n hx hb hdec rfl hl (by have := (tw_set1_some hs).1; omega) rfl (fun ls1 hl1 => K rfl H locs ls1 hr (tw_lv_set1 (v := .int x) hl1 hs) ((tw_set1_len hs).trans hlen))
  · rename_i j x r
    obtain ⟨rfl, hn⟩ := of_decide_eq_true hI
    cases hs : tw_set2 lA j (.long x) with
    | none => rw [hs] at h1; cases h1
    | some l2 =>
      rw [hs] at h1
      cases h1
      dsimp only at K
      rw [hn] at K
      exact lv_lstore hx hb hdec hl (by have := (tw_set2_some hs).1; omega) rfl (fun ls1 hl1 => K rfl H locs ls1 hr (tw_lv_set2 (v := .long x) hl1 hs) ((tw_set2_len hs).trans hlen))
  · rename_i j x r
    obtain ⟨rfl, hn⟩ := of_decide_eq_true hI
    cases hs : tw_set2 lA j.val (.long x) with
    | none => rw [hs] at h1; cases h1
    | some l2 =>
      rw [hs] at h1
      cases h1
      dsimp only at K
      rw [hn] at K
      exact lv_lstore_n hx hb hdec rfl hl (by have := (tw_set2_some hs).1; omega) rfl (fun ls1 hl1 => K rfl H locs ls1 hr (tw_lv_set2 (v := .long x) hl1 hs) ((tw_set2_len hs).trans hlen))
  · rename_i j x r
    obtain ⟨rfl, hn⟩ := of_decide_eq_true hI
    cases hs : tw_set1 lA j.val (.ref x) with
    | none => rw [hs] at h1; cases h1
    | some l2 =>
      rw [hs] at h1
      cases h1
      dsimp only at K
      rw [hn] at K
      exact lv_astore_n hx hb hdec rfl hl (by have := (tw_set1_some hs).1; omega) rfl (fun ls1 hl1 => K rfl H locs ls1 hr (tw_lv_set1 (v := .ref x) hl1 hs) ((tw_set1_len hs).trans hlen))
  · rename_i j n
    obtain ⟨rfl, hn, hv⟩ := of_decide_eq_true hI
    split at h1
    · next x hg =>
      cases hs : tw_set1 lA j (.int (x + v)) with
      | none => rw [hs] at h1; cases h1
      | some l2 =>
        rw [hs] at h1
        cases h1
        dsimp only at K
        rw [hn] at K
        obtain ⟨k0, hk0⟩ := List.getElem?_of_mem ((tw_lv_mem (ad := ad) lA 0 (j, .int x)).mpr ⟨j, .int x, tw_get_some hg, by simp [tw_cv]⟩)
        exact lv_iinc (v := x + v) hx hb hdec hl hk0 (by rw [hv]) (by have := (tw_set1_some hs).1; omega) rfl (fun ls1 hl1 => K rfl H locs ls1 hr (tw_lv_set1 (v := .int (x + v)) hl1 hs) ((tw_set1_len hs).trans hlen))
    · cases h1
  · rename_i y1 x1 r
    obtain ⟨rfl, hn⟩ := of_decide_eq_true hI
    cases h1
    dsimp only at K
    rw [hn] at K
    exact lv_iadd hx hb hdec (K rfl H locs ls hr hl hlen)
  · rename_i y1 x1 r
    obtain ⟨rfl, hn⟩ := of_decide_eq_true hI
    cases h1
    dsimp only at K
    rw [hn] at K
    exact lv_isub hx hb hdec (K rfl H locs ls hr hl hlen)
  · rename_i y1 x1 r
    obtain ⟨rfl, hn⟩ := of_decide_eq_true hI
    cases h1
    dsimp only at K
    rw [hn] at K
    exact lv_imul hx hb hdec (K rfl H locs ls hr hl hlen)
  · rename_i y1 x1 r
    obtain ⟨rfl, hn⟩ := of_decide_eq_true hI
    cases h1
    dsimp only at K
    rw [hn] at K
    exact lv_iand hx hb hdec (K rfl H locs ls hr hl hlen)
  · rename_i y1 x1 r
    obtain ⟨rfl, hn⟩ := of_decide_eq_true hI
    cases h1
    dsimp only at K
    rw [hn] at K
    exact lv_ior hx hb hdec (K rfl H locs ls hr hl hlen)
  · rename_i y1 x1 r
    obtain ⟨rfl, hn⟩ := of_decide_eq_true hI
    cases h1
    dsimp only at K
    rw [hn] at K
    exact lv_ixor hx hb hdec (K rfl H locs ls hr hl hlen)
  · rename_i y1 x1 r
    obtain ⟨rfl, hn⟩ := of_decide_eq_true hI
    cases h1
    dsimp only at K
    rw [hn] at K
    exact lv_ishl hx hb hdec (K rfl H locs ls hr hl hlen)
  · rename_i y1 x1 r
    obtain ⟨rfl, hn⟩ := of_decide_eq_true hI
    cases h1
    dsimp only at K
    rw [hn] at K
    exact lv_ishr hx hb hdec (K rfl H locs ls hr hl hlen)
  · rename_i y1 x1 r
    obtain ⟨rfl, hn⟩ := of_decide_eq_true hI
    cases h1
    dsimp only at K
    rw [hn] at K
    exact lv_iushr hx hb hdec rfl (K rfl H locs ls hr hl hlen)
  · rename_i y1 x1 r
    obtain ⟨rfl, hn⟩ := of_decide_eq_true hI
    split at h1
    · cases h1
    · next hz =>
      cases h1
      dsimp only at K
      rw [hn] at K
      exact lv_idiv hx hb hdec hz (K rfl H locs ls hr hl hlen)
  · rename_i y1 x1 r
    obtain ⟨rfl, hn⟩ := of_decide_eq_true hI
    split at h1
    · cases h1
    · next hz =>
      cases h1
      dsimp only at K
      rw [hn] at K
      exact lv_irem hx hb hdec hz (K rfl H locs ls hr hl hlen)
  · rename_i x1 r
    obtain ⟨rfl, hn⟩ := of_decide_eq_true hI
    cases h1
    dsimp only at K
    rw [hn] at K
    exact lv_ineg hx hb hdec (K rfl H locs ls hr hl hlen)
  · rename_i y1 x1 r
    obtain ⟨rfl, hn⟩ := of_decide_eq_true hI
    cases h1
    dsimp only at K
    rw [hn] at K
    exact lv_ladd hx hb hdec (K rfl H locs ls hr hl hlen)
  · rename_i y1 x1 r
    obtain ⟨rfl, hn⟩ := of_decide_eq_true hI
    cases h1
    dsimp only at K
    rw [hn] at K
    exact lv_lsub hx hb hdec (K rfl H locs ls hr hl hlen)
  · rename_i y1 x1 r
    obtain ⟨rfl, hn⟩ := of_decide_eq_true hI
    cases h1
    dsimp only at K
    rw [hn] at K
    exact lv_lmul hx hb hdec (K rfl H locs ls hr hl hlen)
  · rename_i y1 x1 r
    obtain ⟨rfl, hn⟩ := of_decide_eq_true hI
    split at h1
    · cases h1
    · next hz =>
      cases h1
      dsimp only at K
      rw [hn] at K
      exact lv_ldiv hx hb hdec hz (K rfl H locs ls hr hl hlen)
  · rename_i y1 x1 r
    obtain ⟨rfl, hn⟩ := of_decide_eq_true hI
    split at h1
    · cases h1
    · next hz =>
      cases h1
      dsimp only at K
      rw [hn] at K
      exact lv_lrem hx hb hdec hz (K rfl H locs ls hr hl hlen)
  · rename_i y1 x1 r
    obtain ⟨rfl, hn⟩ := of_decide_eq_true hI
    cases h1
    dsimp only at K
    rw [hn] at K
    exact lv_lshl hx hb hdec rfl (K rfl H locs ls hr hl hlen)
  · rename_i y1 x1 r
    obtain ⟨rfl, hn⟩ := of_decide_eq_true hI
    cases h1
    dsimp only at K
    rw [hn] at K
    exact W.lcmp hx hb hdec (K rfl H locs ls hr hl hlen)
  · rename_i x1 r
    obtain ⟨rfl, hn⟩ := of_decide_eq_true hI
    cases h1
    dsimp only at K
    rw [hn] at K
    exact lv_i2l hx hb hdec rfl (K rfl H locs ls hr hl hlen)
  · rename_i x1 r
    obtain ⟨rfl, hn⟩ := of_decide_eq_true hI
    cases h1
    dsimp only at K
    rw [hn] at K
    exact lv_l2i hx hb hdec rfl (K rfl H locs ls hr hl hlen)
  · rename_i x1 r
    obtain ⟨rfl, hn⟩ := of_decide_eq_true hI
    cases h1
    dsimp only at K
    rw [hn] at K
    exact lv_i2b hx hb hdec rfl (K rfl H locs ls hr hl hlen)
  · rename_i x1 r
    obtain ⟨rfl, hn⟩ := of_decide_eq_true hI
    split at h1
    · next hc =>
      cases h1
      dsimp only at K
      rw [hn] at K
      exact lv_dup hx hb hdec (by rw [tw_cv_cat]; exact hc) (K rfl H locs ls hr hl hlen)
    · cases h1
  · rename_i x1 y1 r
    obtain ⟨rfl, hn⟩ := of_decide_eq_true hI
    split at h1
    · next hc =>
      cases h1
      dsimp only at K
      rw [hn] at K
      exact lv_dup2_11 hx hb hdec (by rw [tw_cv_cat]; exact hc.1) (by rw [tw_cv_cat]; exact hc.2) (K rfl H locs ls hr hl hlen)
    · cases h1
  · rename_i x1 r
    obtain ⟨rfl, hn⟩ := of_decide_eq_true hI
    split at h1
    · next hc =>
      cases h1
      dsimp only at K
      rw [hn] at K
      exact lv_pop hx hb hdec (by rw [tw_cv_cat]; exact hc) (K rfl H locs ls hr hl hlen)
    · cases h1
  · rename_i off
    obtain ⟨rfl, ht⟩ := of_decide_eq_true hI
    cases h1
    dsimp only at K
    exact lv_goto hx hb hdec ht (K rfl H locs ls hr hl hlen)
  · rename_i off x1 r
    obtain ⟨rfl, hn, ht⟩ := of_decide_eq_true hI
    refine lv_if_eq hx hb hdec ht (fun h => ?_) (fun h => ?_)
    · rw [if_pos h] at h1
      cases h1
      exact K rfl H locs ls hr hl hlen
    · rw [if_neg h] at h1
      cases h1
      dsimp only at K
      rw [hn] at K
      exact K rfl H locs ls hr hl hlen
  · rename_i off x1 r
    obtain ⟨rfl, hn, ht⟩ := of_decide_eq_true hI
    refine lv_if_ne hx hb hdec ht (fun h => ?_) (fun h => ?_)
    · rw [if_neg h] at h1
      cases h1
      exact K rfl H locs ls hr hl hlen
    · rw [if_pos h] at h1
      cases h1
      dsimp only at K
      rw [hn] at K
      exact K rfl H locs ls hr hl hlen
  · rename_i off x1 r
    obtain ⟨rfl, hn, ht⟩ := of_decide_eq_true hI
    refine lv_if_lt hx hb hdec ht (fun h => ?_) (fun h => ?_)
    · rw [if_pos h] at h1
      cases h1
      exact K rfl H locs ls hr hl hlen
    · rw [if_neg h] at h1
      cases h1
      dsimp only at K
      rw [hn] at K
      exact K rfl H locs ls hr hl hlen
  · rename_i off x1 r
    obtain ⟨rfl, hn, ht⟩ := of_decide_eq_true hI
    refine lv_if_ge hx hb hdec ht (fun h => ?_) (fun h => ?_)
    · rw [if_pos h] at h1
      cases h1
      exact K rfl H locs ls hr hl hlen
    · rw [if_neg h] at h1
      cases h1
      dsimp only at K
      rw [hn] at K
      exact K rfl H locs ls hr hl hlen
  · rename_i off x1 r
    obtain ⟨rfl, hn, ht⟩ := of_decide_eq_true hI
    refine lv_if_gt hx hb hdec ht (fun h => ?_) (fun h => ?_)
    · rw [if_pos h] at h1
      cases h1
      exact K rfl H locs ls hr hl hlen
    · rw [if_neg h] at h1
      cases h1
      dsimp only at K
      rw [hn] at K
      exact K rfl H locs ls hr hl hlen
  · rename_i off x1 r
    obtain ⟨rfl, hn, ht⟩ := of_decide_eq_true hI
    refine lv_if_le hx hb hdec ht (fun h => ?_) (fun h => ?_)
    · rw [if_pos h] at h1
      cases h1
      exact K rfl H locs ls hr hl hlen
    · rw [if_neg h] at h1
      cases h1
      dsimp only at K
      rw [hn] at K
      exact K rfl H locs ls hr hl hlen
  · rename_i off y1 x1 r
    obtain ⟨rfl, hn, ht⟩ := of_decide_eq_true hI
    refine lv_icmp_eq hx hb hdec ht (fun h => ?_) (fun h => ?_)
    · rw [if_pos h] at h1
      cases h1
      exact K rfl H locs ls hr hl hlen
    · rw [if_neg h] at h1
      cases h1
      dsimp only at K
      rw [hn] at K
      exact K rfl H locs ls hr hl hlen
  · rename_i off y1 x1 r
    obtain ⟨rfl, hn, ht⟩ := of_decide_eq_true hI
    refine lv_icmp_ne hx hb hdec ht (fun h => ?_) (fun h => ?_)
    · rw [if_neg h] at h1
      cases h1
      exact K rfl H locs ls hr hl hlen
    · rw [if_pos h] at h1
      cases h1
      dsimp only at K
      rw [hn] at K
      exact K rfl H locs ls hr hl hlen
  · rename_i off y1 x1 r
    obtain ⟨rfl, hn, ht⟩ := of_decide_eq_true hI
    refine lv_icmp_lt hx hb hdec ht (fun h => ?_) (fun h => ?_)
    · rw [if_pos h] at h1
      cases h1
      exact K rfl H locs ls hr hl hlen
    · rw [if_neg h] at h1
      cases h1
      dsimp only at K
      rw [hn] at K
      exact K rfl H locs ls hr hl hlen
  · rename_i off y1 x1 r
    obtain ⟨rfl, hn, ht⟩ := of_decide_eq_true hI
    refine lv_icmp_ge hx hb hdec ht (fun h => ?_) (fun h => ?_)
    · rw [if_pos h] at h1
      cases h1
      exact K rfl H locs ls hr hl hlen
    · rw [if_neg h] at h1
      cases h1
      dsimp only at K
      rw [hn] at K
      exact K rfl H locs ls hr hl hlen
  · rename_i off y1 x1 r
    obtain ⟨rfl, hn, ht⟩ := of_decide_eq_true hI
    refine lv_icmp_gt hx hb hdec ht (fun h => ?_) (fun h => ?_)
    · rw [if_pos h] at h1
      cases h1
      exact K rfl H locs ls hr hl hlen
    · rw [if_neg h] at h1
      cases h1
      dsimp only at K
      rw [hn] at K
      exact K rfl H locs ls hr hl hlen
  · rename_i off y1 x1 r
    obtain ⟨rfl, hn, ht⟩ := of_decide_eq_true hI
    refine lv_icmp_le hx hb hdec ht (fun h => ?_) (fun h => ?_)
    · rw [if_pos h] at h1
      cases h1
      exact K rfl H locs ls hr hl hlen
    · rw [if_neg h] at h1
      cases h1
      dsimp only at K
      rw [hn] at K
      exact K rfl H locs ls hr hl hlen
  · rename_i off q r
    obtain ⟨rfl, hn, ht⟩ := of_decide_eq_true hI
    cases h1
    dsimp only at K
    rw [hn] at K
    exact lv_ifnull hx hb hdec (K rfl H locs ls hr hl hlen)
  · rename_i off r
    obtain ⟨rfl, hn, ht⟩ := of_decide_eq_true hI
    cases h1
    dsimp only at K
    exact lv_ifnullN hx hb hdec ht (K rfl H locs ls hr hl hlen)
  · rename_i x q r
    obtain ⟨rfl, hn, h10, hbN, htc⟩ := of_decide_eq_true hI
    split at h1
    · next hc =>
      cases h1
      dsimp only at K
      rw [hn] at K
      have hsh := tw_sh_ok (k := q) (by omega)
      refine va_get (D := (dC, dI)) (q0 := q) (v := tw_cv ad (tw_fv σ q b t)) hx hb hts (tw_in_cl h10) hown hK hP (fs := tw_fl ad σ q) ?_ (tw_cl_at h10) b hbN (hts _ (tw_in he List.mem_cons_self)) (fun _ h => h) ?_ hdec (K rfl H locs ls hr hl hlen)
      · rw [tw_w_get hc.1, tw_cell_obj (by omega), hc.2]
      · rw [tw_fl_get (by rw [← hsh.1, hc.2]; exact hbN), hc.2, ← htc]
    · cases h1
  · rename_i x x1 q r
    obtain ⟨rfl, hn, h10, hbN, htc, hfin, hfi2, z0, z0b, z1, z2⟩ := of_decide_eq_true hI
    split at h1
    · next hc =>
      cases hs : tw_put σ q b t v x1 with
      | none => rw [hs] at h1; cases h1
      | some σ2 =>
        rw [hs] at h1
        cases h1
        dsimp only at K
        rw [hn] at K
        obtain ⟨e1, e2, e3, e4, e5⟩ := tw_put_ok (cy := cy) hs hc.1 hc.2 h10 hbN htc hU z0 z0b z1 z2
        have hsh := tw_sh_ok (k := q) (by omega)
        have hwq : (tw_w cy ad σ)[q]? = some (ad q, .inr (a, tw_fl ad σ q)) := by rw [tw_w_get hc.1, tw_cell_obj (by omega), hc.2]
        have hbl : b < (tw_fl ad σ q).length := by rw [tw_fl_len, ← hsh.1, hc.2]; exact hbN
        by_cases hw : w = 1
        · rw [decide_eq_true hw] at hfin
          refine va_putF (D := (dC, dI)) (q0 := q) (v := tw_cv ad x1) (ty := tw_tyo a b) hx hb hts (tw_in_cl h10) (tw_tyo a) (tw_cl_ty h10) (tw_cl_nm h10) hown hK hP hD hS (fs := tw_fl ad σ q) hwq (tw_cl_at h10) b hbN (hts _ (tw_in he List.mem_cons_self)) (fun _ h => h) hfin (hnm.trans (hfi2 hw).2) (hfi2 hw).1 (tw_cl_ty h10 b hbN) e4 e5 hbl hdec (fun H1 locs1 hP1 hD1 hS1 => ?_)
          rw [e3] at hP1 hD1
          exact K e1 H1 locs1 ls ⟨hP1, hD1, hS1, e2⟩ hl hlen
        · rw [decide_eq_false hw] at hfin
          refine va_put (D := (dC, dI)) (q0 := q) (v := tw_cv ad x1) (ty := tw_tyo a b) hx hb hts (tw_in_cl h10) (tw_tyo a) (tw_cl_ty h10) (tw_cl_nm h10) hown hK hP hD hS (fs := tw_fl ad σ q) hwq (tw_cl_at h10) b hbN (hts _ (tw_in he List.mem_cons_self)) (fun _ h => h) hfin (tw_cl_ty h10 b hbN) e4 e5 hbl hdec (fun H1 locs1 hP1 hD1 hS1 => ?_)
          rw [e3] at hP1 hD1
          exact K e1 H1 locs1 ls ⟨hP1, hD1, hS1, e2⟩ hl hlen
    · cases h1
  · rename_i i1 q r
    obtain ⟨rfl, hn⟩ := of_decide_eq_true hI
    cases hs : tw_ald σ 11 q i1 with
    | none => rw [hs] at h1; cases h1
    | some x1 =>
      rw [hs] at h1
      cases h1
      dsimp only at K
      rw [hn] at K
      unfold tw_ald at hs
      split at hs
      · next hc =>
        split at hs
        · cases hs
        · next hin =>
          cases hs
          exact va_iald (D := (dC, dI)) (q0 := q) (t0 := 1) hx hb hK hP (by rw [tw_w_get hc.1, tw_cell_11 hc.2]) rfl hin hdec (K rfl H locs ls hr hl hlen)
      · split at hs
        · next hc =>
          split at hs
          · cases hs
          · next hin =>
            cases hs
            obtain ⟨p1, p2, p3, p4, p5, p6, p7⟩ := hU
            obtain ⟨f1, f2, f3, f4, f5, f6, f7, -⟩ := hF
            rw [p4, tw_clL p7] at hin
            rw [p5] at K
            have hq : tw_cv ad (.ref q) = .ref b0 := by show Value.ref (ad q) = _; rw [hc.1, p1]
            rw [List.map_cons, List.map_cons, hq]
            exact va_sld hx hb f5 (Nat.lt_of_lt_of_le f6 f7) (Nat.not_le.mpr f6) hS hin hdec (K rfl H locs ls hr hl hlen)
        · cases hs
  · rename_i i1 q r
    obtain ⟨rfl, hn⟩ := of_decide_eq_true hI
    cases hs : tw_ald σ 10 q i1 with
    | none => rw [hs] at h1; cases h1
    | some x1 =>
      rw [hs] at h1
      cases h1
      dsimp only at K
      rw [hn] at K
      unfold tw_ald at hs
      split at hs
      · next hc =>
        split at hs
        · cases hs
        · next hin =>
          cases hs
          exact va_bald (D := (dC, dI)) (q0 := q) (t0 := 0) hx hb hK hP (by rw [tw_w_get hc.1, tw_cell_10 hc.2]) rfl hin hdec (K rfl H locs ls hr hl hlen)
      · split at hs
        · next hc => exact absurd hc.2 (by decide)
        · cases hs
  · rename_i x1 i1 q r
    obtain ⟨rfl, hn⟩ := of_decide_eq_true hI
    cases hs : tw_ast σ 11 q i1 x1 with
    | none => rw [hs] at h1; cases h1
    | some σ2 =>
      rw [hs] at h1
      cases h1
      dsimp only at K
      rw [hn] at K
      obtain ⟨I, L, P, A, J, nc⟩ := σ
      unfold tw_ast at hs
      dsimp only at hs
      split at hs
      · next hc =>
        split at hs
        · cases hs
        · next hin =>
          cases hs
          refine va_iast (D := (dC, dI)) (q0 := q) (t0 := 1) (f := A q) hx hb hK hP hD hS (by rw [tw_w_get hc.1, tw_cell_11 hc.2]) rfl hin hdec (fun H1 locs1 hP1 hD1 hS1 => ?_)
          rw [tw_setA hc.1 (by rw [tw_cell_11 hc.2]; show Sum.inl (_, _, Sum.inl (va_up A q _ q)) = _; unfold va_up; rw [if_pos rfl])] at hP1 hD1
          exact K rfl H1 locs1 ls ⟨hP1, hD1, hS1, tw_PuA hc.1 hU⟩ hl hlen
      · cases hs
  · rename_i x1 i1 q r
    obtain ⟨rfl, hn⟩ := of_decide_eq_true hI
    cases hs : tw_ast σ 10 q i1 (vp_nar .byte x1) with
    | none => rw [hs] at h1; cases h1
    | some σ2 =>
      rw [hs] at h1
      cases h1
      dsimp only at K
      rw [hn] at K
      obtain ⟨I, L, P, A, J, nc⟩ := σ
      unfold tw_ast at hs
      dsimp only at hs
      split at hs
      · next hc =>
        split at hs
        · cases hs
        · next hin =>
          cases hs
          refine va_bast (D := (dC, dI)) (q0 := q) (t0 := 0) (f := A q) hx hb hK hP hD hS (by rw [tw_w_get hc.1, tw_cell_10 hc.2]) rfl hin hdec (fun H1 locs1 hP1 hD1 hS1 => ?_)
          rw [tw_setA hc.1 (by rw [tw_cell_10 hc.2]; show Sum.inl (_, _, Sum.inl (va_up A q _ q)) = _; unfold va_up; rw [if_pos rfl])] at hP1 hD1
          exact K rfl H1 locs1 ls ⟨hP1, hD1, hS1, tw_PuA hc.1 hU⟩ hl hlen
      · cases hs
  · rename_i i1 q r
    obtain ⟨rfl, hn⟩ := of_decide_eq_true hI
    obtain ⟨I, L, P, A, J, nc⟩ := σ
    dsimp only at h1
    split at h1
    · next hc =>
      split at h1
      · cases h1
      · next hin =>
        cases h1
        dsimp only at K
        rw [hn] at K
        exact va_lald (D := (dC, dI)) (q0 := q) (t0 := 2) hx hb hK hP (by rw [tw_w_get hc.1, tw_cell_12 hc.2]) rfl hin hdec (K rfl H locs ls hr hl hlen)
    · cases h1
  · rename_i x1 i1 q r
    obtain ⟨rfl, hn⟩ := of_decide_eq_true hI
    obtain ⟨I, L, P, A, J, nc⟩ := σ
    dsimp only at h1
    split at h1
    · next hc =>
      split at h1
      · cases h1
      · next hin =>
        cases h1
        dsimp only at K
        rw [hn] at K
        refine va_last (D := (dC, dI)) (q0 := q) (t0 := 2) (f := J q) hx hb hK hP hD hS (by rw [tw_w_get hc.1, tw_cell_12 hc.2]) rfl hin hdec (fun H1 locs1 hP1 hD1 hS1 => ?_)
        rw [tw_setJ hc.1 (by rw [tw_cell_12 hc.2]; show Sum.inl (_, _, Sum.inr (Sum.inl (va_up J q _ q))) = _; unfold va_up; rw [if_pos rfl])] at hP1 hD1
        exact K rfl H1 locs1 ls ⟨hP1, hD1, hS1, hU⟩ hl hlen
    · cases h1
  · rename_i q r
    obtain ⟨rfl, hn⟩ := of_decide_eq_true hI
    cases hs : tw_lenA σ q with
    | none => rw [hs] at h1; cases h1
    | some x1 =>
      rw [hs] at h1
      cases h1
      dsimp only at K
      rw [hn] at K
      unfold tw_lenA at hs
      split at hs
      · next hc =>
        cases hs
        rcases (by omega : (tw_sh q).1 = 10 ∨ (tw_sh q).1 = 11 ∨ (tw_sh q).1 = 12) with h | h | h
        · exact va_alen (D := (dC, dI)) (q0 := q) (t0 := 0) (x := ((tw_sh q).2, .inl (σ.2.2.2.1 q))) hx hb hK hP (by rw [tw_w_get hc.1, tw_cell_10 h]) rfl rfl hdec (K rfl H locs ls hr hl hlen)
        · exact va_alen (D := (dC, dI)) (q0 := q) (t0 := 1) (x := ((tw_sh q).2, .inl (σ.2.2.2.1 q))) hx hb hK hP (by rw [tw_w_get hc.1, tw_cell_11 h]) rfl rfl hdec (K rfl H locs ls hr hl hlen)
        · exact va_alen (D := (dC, dI)) (q0 := q) (t0 := 2) (x := ((tw_sh q).2, .inr (.inl (σ.2.2.2.2.1 q)))) hx hb hK hP (by rw [tw_w_get hc.1, tw_cell_12 h]) rfl rfl hdec (K rfl H locs ls hr hl hlen)
      · split at hs
        · next hc =>
          cases hs
          obtain ⟨p1, p2, p3, p4, p5, p6, p7⟩ := hU
          obtain ⟨f1, f2, f3, f4, f5, f6, f7, -⟩ := hF
          rw [p4] at K
          have hq : tw_cv ad (.ref q) = .ref b0 := by show Value.ref (ad q) = _; rw [hc, p1]
          rw [List.map_cons, hq]
          exact va_slen hx hb f5 (Nat.lt_of_lt_of_le f6 f7) (Nat.not_le.mpr f6) hS hdec (K rfl H locs ls hr hl hlen)
        · cases hs
  · rename_i ty n r
    obtain ⟨rfl, hn, hty⟩ := of_decide_eq_true hI
    split at h1
    · next hv =>
      cases hs : tw_newa σ t n with
      | none => rw [hs] at h1; cases h1
      | some σ2 =>
        rw [hs] at h1
        cases h1
        obtain ⟨e1, e2, e3, e4, e5, e6⟩ := tw_newa_ok hs hU
        have hcw := hts _ (tw_in he (List.mem_cons_self (a := Cond.arrayClass (newarray.typeOf ty))))
        dsimp only at kk hcells hslots
        rw [e1] at kk hcells hslots
        rw [e2] at kk hslots
        have hA : ∀ q : Nat, s.heap.size ≤ q → tw_A n0 q := fun q h => Nat.le_trans hF.2.2.2.2.2.2.1 h
        have fin : ∀ (q : Nat) (_ : Nat) (H1 : Heap) (e : va_E), tw_cell cy (va_up ad σ.2.2.2.2.2 q) σ2 σ.2.2.2.2.2 = e → va_P (dC, dI) tw_cl (tw_w cy ad σ ++ [(q, e)]) H1 → va_D (tw_A n0) (tw_w cy ad σ ++ [(q, e)]) → va_S (tw_A n0) s.heap H1 locs → W p l e0 R s m args below meth c H1 locs (cells + 1) (slots + (tw_sh σ.2.2.2.2.2).2) Q (F0 m (pc + 2) ls (.ref q :: r.map (tw_cv ad))) := by
          intro q _ H1 e hce hP1 hD1 hS1
          have hadk : ∀ j, j ≠ σ.2.2.2.2.2 → va_up ad σ.2.2.2.2.2 q j = ad j := fun j hj => by unfold va_up; rw [if_neg hj]
          have hcv : ∀ z : Value, tw_vok1 σ.2.2.2.2.2 z = true → tw_cv (va_up ad σ.2.2.2.2.2 q) z = tw_cv ad z := fun z hz => tw_cv_up hz hU.2.2.2.2.2.1
          have hw := tw_w_push (cy := cy) (ad := ad) (ad' := va_up ad σ.2.2.2.2.2 q) (σ := σ) (σ' := σ2) (q := q) (e := e) e1 (fun j hj => ⟨hadk j (by omega), e4 _ j hj q⟩) (by unfold va_up; rw [if_pos rfl]) hce
          rw [hw] at hP1 hD1
          simp only [tw_vok, Bool.and_eq_true] at hv
          have K2 := kk H1 locs ls (va_up ad σ.2.2.2.2.2 q) ⟨hP1, hD1, hS1, e3 q⟩ (by rw [tw_lv_up _ _ hv.1 hU.2.2.2.2.2.1]; exact hl) (fun j hj => hadk j (by have h9 := hU.2.2.2.2.2.1; clear kk; omega)) (fun h => absurd h (by clear kk; omega)) hlen
          rw [hn, show σ.2.2.2.2.2 + 1 - σ.2.2.2.2.2 = 1 by omega, show tw_sl σ.2.2.2.2.2 + (tw_sh σ.2.2.2.2.2).2 - tw_sl σ.2.2.2.2.2 = (tw_sh σ.2.2.2.2.2).2 by omega, List.map_cons, tw_map_up hv.2 hU.2.2.2.2.2.1] at K2
          have hq : tw_cv (va_up ad σ.2.2.2.2.2 q) (.ref σ.2.2.2.2.2) = .ref q := by show Value.ref (va_up ad _ q _) = _; unfold va_up; rw [if_pos rfl]
          rw [hq] at K2
          exact K2
        have hc1 : cells + 1 ≤ R.cells := by clear kk fin; omega
        have hs1 : slots + (tw_sh σ.2.2.2.2.2).2 ≤ R.slots := by clear kk fin; omega
        obtain ⟨g1, g2, g3⟩ := e5
        have hb8 : (tw_sh σ.2.2.2.2.2).2 * 8 ≤ 536870912 := tw_sh_small _
        rcases hty with ⟨rfl, rfl⟩ | ⟨rfl, rfl⟩ | ⟨rfl, rfl⟩
        · refine va_newa (D := (dC, dI)) (atype := .byte) (ty := .byte) (N' := (tw_sh σ.2.2.2.2.2).2) (a0 := ((tw_sh σ.2.2.2.2.2).2, .inl (fun _ => 0))) hx hb hcw rfl hK hP hD hS hA (fun cA => rfl) g2 g3 (by show _ * 1 ≤ _; clear kk fin; omega) hc1 hs1 hdec (fun q cA H1 hK1 hP1 hD1 hS1 => ?_)
          have hcA : cA = cy.1 := by
            have h1 := (hK1.2 3 (cA, .byte) rfl).2
            have h2 := (hK.2 0 (cy.1, .byte) rfl).2
            exact Option.some.inj (h1.symm.trans h2)
          subst hcA
          exact fin q 0 H1 _ (by rw [tw_cell_10 g1]; rw [(e6 q).1 (Or.inl rfl)]) hP1 hD1 hS1
        · refine va_newa (D := (dC, dI)) (atype := .int) (ty := .int) (N' := (tw_sh σ.2.2.2.2.2).2) (a0 := ((tw_sh σ.2.2.2.2.2).2, .inl (fun _ => 0))) hx hb hcw rfl hK hP hD hS hA (fun cA => rfl) g2 g3 (by show _ * 4 ≤ _; clear kk fin; omega) hc1 hs1 hdec (fun q cA H1 hK1 hP1 hD1 hS1 => ?_)
          have hcA : cA = cy.2.1 := by
            have h1 := (hK1.2 3 (cA, .int) rfl).2
            have h2 := (hK.2 1 (cy.2.1, .int) rfl).2
            exact Option.some.inj (h1.symm.trans h2)
          subst hcA
          exact fin q 0 H1 _ (by rw [tw_cell_11 g1]; rw [(e6 q).1 (Or.inr rfl)]) hP1 hD1 hS1
        · refine va_newa (D := (dC, dI)) (atype := .long) (ty := .long) (N' := (tw_sh σ.2.2.2.2.2).2) (a0 := ((tw_sh σ.2.2.2.2.2).2, .inr (.inl (fun _ => 0)))) hx hb hcw rfl hK hP hD hS hA (fun cA => rfl) g2 g3 (by show _ * 8 ≤ _; exact hb8) hc1 hs1 hdec (fun q cA H1 hK1 hP1 hD1 hS1 => ?_)
          have hcA : cA = cy.2.2 := by
            have h1 := (hK1.2 3 (cA, .long) rfl).2
            have h2 := (hK.2 2 (cy.2.2, .long) rfl).2
            exact Option.some.inj (h1.symm.trans h2)
          subst hcA
          exact fin q 0 H1 _ (by rw [tw_cell_12 g1]; rw [(e6 q).2 rfl]) hP1 hD1 hS1
    · cases h1
  · rename_i x
    split at h1
    · next hv0 =>
      obtain ⟨ht0, hv⟩ := hv0
      cases hs : tw_new σ a with
      | none => rw [hs] at h1; cases h1
      | some σ2 =>
        rw [hs] at h1
        cases h1
        obtain ⟨e1, e2, e3, e4, e5, e6⟩ := tw_new_ok hs hU
        have ht9 : ¬ t = 99 := by omega
        obtain ⟨rfl, hn, h10⟩ := (of_decide_eq_true hI).resolve_left ht9
        have hw3 : ∀ w ∈ ([.classLink (tw_nm y).cls x (tw_cg a).1, .instantiable (tw_cg a).1 (tw_cg a).2.2, .initialized (tw_cg a).1] : List Cond), w.before args s = true := fun w hw => hts _ (tw_in he (by show w ∈ (if t = 99 then [] else _); rw [if_neg ht9]; exact hw))
        dsimp only at kk hcells hslots
        rw [e1] at kk hcells hslots
        rw [e2] at kk hslots
        have hA : ∀ q : Nat, s.heap.size ≤ q → tw_A n0 q := fun q h => Nat.le_trans hF.2.2.2.2.2.2.1 h
        have hN : (tw_cg a).2.2 = (tw_sh σ.2.2.2.2.2).2 := by have := (tw_sh_ok (k := σ.2.2.2.2.2) (by rw [e5]; exact h10)).1; rw [e5] at this; exact this
        have hc1 : cells + 1 ≤ R.cells := by clear kk; omega
        have hs1 : slots + (tw_cg a).2.2 ≤ R.slots := by rw [hN]; clear kk; omega
        refine va_new (D := (dC, dI)) (fs := tw_fl ad σ2 σ.2.2.2.2.2) hx hb hts (tw_in_cl h10) (tw_tyo a) (tw_cl_ty h10) hown (hw3 _ List.mem_cons_self) (hw3 _ (List.mem_cons_of_mem _ List.mem_cons_self)) (hw3 _ (List.mem_cons_of_mem _ (List.mem_cons_of_mem _ List.mem_cons_self))) hK hP hD hS hA (tw_cl_at h10) (fun j hj => e6 ad j hj) hc1 hs1 hdec (fun q H1 hP1 hD1 hS1 => ?_)
        have hadk : ∀ j, j ≠ σ.2.2.2.2.2 → va_up ad σ.2.2.2.2.2 q j = ad j := fun j hj => by unfold va_up; rw [if_neg hj]
        have hw := tw_w_push (cy := cy) (ad := ad) (ad' := va_up ad σ.2.2.2.2.2 q) (σ := σ) (σ' := σ2) (q := q) (e := .inr (a, tw_fl ad σ2 σ.2.2.2.2.2)) e1 (fun j hj => ⟨hadk j (by omega), e4 _ j hj q⟩) (by unfold va_up; rw [if_pos rfl]) (by rw [tw_cell_obj (by rw [e5]; exact h10), e5]; exact congrArg (fun z => Sum.inr (a, z)) (tw_new_fl hs _ _))
        rw [hw] at hP1 hD1
        simp only [tw_vok, Bool.and_eq_true] at hv
        have K2 := kk H1 locs ls (va_up ad σ.2.2.2.2.2 q) ⟨hP1, hD1, hS1, e3 q⟩ (by rw [tw_lv_up _ _ hv.1 hU.2.2.2.2.2.1]; exact hl) (fun j hj => hadk j (by have h9 := hU.2.2.2.2.2.1; clear kk; omega)) (fun h => absurd h (by clear kk; omega)) hlen
        rw [hn, show σ.2.2.2.2.2 + 1 - σ.2.2.2.2.2 = 1 by omega, show tw_sl σ.2.2.2.2.2 + (tw_sh σ.2.2.2.2.2).2 - tw_sl σ.2.2.2.2.2 = (tw_sh σ.2.2.2.2.2).2 by omega, List.map_cons, tw_map_up hv.2 hU.2.2.2.2.2.1] at K2
        have hq : tw_cv (va_up ad σ.2.2.2.2.2 q) (.ref σ.2.2.2.2.2) = .ref q := by show Value.ref (va_up ad _ q _) = _; unfold va_up; rw [if_pos rfl]
        rw [hq] at K2
        rw [hN]
        exact K2
    · cases h1
  · rename_i d ps x1 r
    simp only [tw_okI, Bool.and_eq_true] at hI
    obtain ⟨g1, g2, g3⟩ := hI
    cases h1
    dsimp only at K
    refine lv_lookup (tgt := tw_pc y (tw_ix (tw_code y) ((pc : Int) + Op.lookupswitch.offset ps.toList d x1.toInt).toNat)) hx hb hdec g1 rfl ?_ (K rfl H locs ls hr hl hlen)
    rcases tw_offs d x1.toInt ps.toList with h | ⟨q, h, h2⟩
    · rw [h]
      exact (of_decide_eq_true g2).symm
    · rw [h2]
      exact (of_decide_eq_true (List.all_eq_true.mp g3 q h)).symm
  · rename_i d lo hi offs x1 r
    simp only [tw_okI, Bool.and_eq_true] at hI
    obtain ⟨g2, g3⟩ := hI
    split at h1
    · next hc =>
      cases h1
      dsimp only at K
      exact lv_tableOut hx hb hdec hc (of_decide_eq_true g2).symm (K rfl H locs ls hr hl hlen)
    · next hc =>
      split at h1
      · next o ho =>
        cases h1
        dsimp only at K
        refine lv_tableIn hx hb hdec (fun h => hc (Or.inl h)) (fun h => hc (Or.inr h)) ho ?_ (K rfl H locs ls hr hl hlen)
        exact (of_decide_eq_true (List.all_eq_true.mp g3 o (Array.mem_toList_iff.mpr (Array.mem_of_getElem? ho)))).symm
      · cases h1
  · rename_i x q r
    split at h1
    · next hc =>
      cases h1
      dsimp only at K
      obtain ⟨ht, hsum⟩ := hc
      subst ht
      simp only [tw_okI] at hI
      have hI2 : (len = 3 ∧ tw_pc y (k + 1) = pc + 3) ∧ 1 ≤ tw_fr y ∧ 20 ≤ tw_lo y := by simpa using hI
      obtain ⟨⟨rfl, hn⟩, hf1, hl1⟩ := hI2
      rw [hn] at K
      have hw : ∀ w ∈ ([.methodLink (tw_nm y).cls x objectInit, .instanceMethod objectInit, .code objectInit ⟨#[0xb1]⟩ 1 none] : List Cond), w.before args s = true := fun w hw => hts _ (tw_in he hw)
      have hrm := lv_room (m := m) (pc := pc) (ls := ls) (rest := (Value.ref q :: r).map (tw_cv ad)) (st := r.map (tw_cv ad)) (by rw [List.map_map]; simpa [Function.comp_def, tw_cv_cat] using hsum)
      exact W.objInit (a := ad q) (rest := r.map (tw_cv ad)) hx hb hown (hw _ List.mem_cons_self) (hw _ (List.mem_cons_of_mem _ List.mem_cons_self)) (hw _ (List.mem_cons_of_mem _ (List.mem_cons_of_mem _ List.mem_cons_self))) rfl (by rw [hml]; exact hl.1) rfl hdec (by omega) (by omega) (K rfl H locs ls hr hl hlen)
    · cases h1
  · rename_i x q r
    split at h1
    · next hc =>
      obtain ⟨ht, hq1, hq2, hsum⟩ := hc
      subst ht
      cases h1
      dsimp only at K
      have hI2 : (len = 3 ∧ tw_pc y (k + 1) = pc + 3) ∧ 2 ≤ tw_fr y ∧ 40 ≤ tw_lo y := by simpa [tw_okI] using hI
      obtain ⟨⟨rfl, hn⟩, hf1, hl1⟩ := hI2
      rw [hn] at K
      have hr8 : ((r.map (tw_cv ad)).map fun v => v.category).sum ≤ 8 := by rw [List.map_map]; simpa [Function.comp_def, tw_cv_cat] using hsum
      have hi19 : q - 1000 < 19 := (tw_q19 q hq1 hq2).1
      have hqq : 1000 + (q - 1000) = q := (tw_q19 q hq1 hq2).2
      have hq : ad q = adK (q - 1000) := (congrArg ad hqq).symm.trans (hU.2.1 (q - 1000) hi19)
      have hJ := hJDK p l e0 R s m args below meth c y n0 b0 L0 xs adK adV dC dI cy C Q pc x (q - 1000) H locs ls (r.map (tw_cv ad)) cells slots hl.1 hi19 hS hr8 (by clear K kk; omega) (by clear K kk; omega)
      rw [hqq] at hJ
      have hq9 : (Value.ref q :: r).map (tw_cv ad) = .ref (adK (q - 1000)) :: r.map (tw_cv ad) := by show Value.ref (ad q) :: _ = _; rw [hq]
      rw [hq9]
      refine hJ.1 (tw_in he List.mem_cons_self) (by clear K kk; omega) (by clear K kk; omega) hdec (fun H1 locs1 hH1 hS1 => K rfl H1 locs1 ls ⟨?_, hD, hS1, hU⟩ hl hlen)
      exact hP.kept (fun k2 q2 h2 => hH1 q2.1 (hP k2 q2 h2).lt)
    · cases h1
  · rename_i x i1 q r
    split at h1
    · next hc =>
      obtain ⟨ht, hq1, hq2, hsum⟩ := hc
      subst ht
      split at h1
      · cases h1
      · next hin =>
       cases h1
       dsimp only at K
       have hI2 : (len = 3 ∧ tw_pc y (k + 1) = pc + 3) ∧ 4 ≤ tw_fr y ∧ 85 ≤ tw_lo y := by simpa [tw_okI] using hI
       obtain ⟨⟨rfl, hn⟩, hf1, hl1⟩ := hI2
       rw [hn] at K
       have hr8 : ((r.map (tw_cv ad)).map fun v => v.category).sum ≤ 8 := by rw [List.map_map]; simpa [Function.comp_def, tw_cv_cat] using hsum
       have hi19 : q - 1000 < 19 := (tw_q19 q hq1 hq2).1
       have hqq : 1000 + (q - 1000) = q := (tw_q19 q hq1 hq2).2
       have hq : ad q = adK (q - 1000) := (congrArg ad hqq).symm.trans (hU.2.1 (q - 1000) hi19)
       have hJ := hJDK p l e0 R s m args below meth c y n0 b0 L0 xs adK adV dC dI cy C Q pc x (q - 1000) H locs ls (r.map (tw_cv ad)) cells slots hl.1 hi19 hS hr8 (by clear K kk; omega) (by clear K kk; omega)
       rw [hqq] at hJ
       have hq9 : (Value.int i1 :: Value.ref q :: r).map (tw_cv ad) = .int i1 :: .ref (adK (q - 1000)) :: r.map (tw_cv ad) := by show Value.int i1 :: Value.ref (ad q) :: _ = _; rw [hq]
       rw [hq9]
       refine hJ.2 (tw_in he List.mem_cons_self) i1 hin (by clear K kk; omega) (by clear K kk; omega) hdec (fun H1 locs1 hH1 hS1 => K rfl H1 locs1 ls ⟨?_, hD, hS1, hU⟩ hl hlen)
       exact hP.kept (fun k2 q2 h2 => hH1 q2.1 (hP k2 q2 h2).lt)
    · cases h1
  · rename_i x n1 r
    split at h1
    · next hc =>
      obtain ⟨ht, hsum⟩ := hc
      subst ht
      cases h1
      dsimp only at K
      have hI2 : (len = 3 ∧ tw_pc y (k + 1) = pc + 3) ∧ 1 ≤ tw_fr y ∧ 21 ≤ tw_lo y := by simpa [tw_okI] using hI
      obtain ⟨⟨rfl, hn⟩, hf1, hl1⟩ := hI2
      rw [hn] at K
      have hr8 : ((r.map (tw_cv ad)).map fun v => v.category).sum ≤ 8 := by rw [List.map_map]; simpa [Function.comp_def, tw_cv_cat] using hsum
      have hw : ∀ w ∈ ([.methodLink (tw_nm y).cls x Lib.Math.abs.name, .static Lib.Math.abs.name, .initialized "java/lang/Math", .code Lib.Math.abs.name Lib.Math.abs.code 1 (some .int)] : List Cond), w.before args s = true := fun w hw => hts _ (tw_in he hw)
      exact va_mabs hx hb (by rw [hml]; exact hl.1.symm) hown (hw _ List.mem_cons_self) (hw _ (List.mem_cons_of_mem _ List.mem_cons_self)) (hw _ (List.mem_cons_of_mem _ (List.mem_cons_of_mem _ List.mem_cons_self))) (hw _ (List.mem_cons_of_mem _ (List.mem_cons_of_mem _ (List.mem_cons_of_mem _ List.mem_cons_self)))) (by clear K kk; omega) (by clear K kk; omega) (by clear K kk; omega) (by clear K kk; omega) hdec (K rfl H locs ls hr hl hlen)
    · split at h1
      · next ht =>
        subst ht
        split at h1
        · next x2 r2 hneg =>
          split at h1
          · next hsum =>
            cases h1
            dsimp only at K
            have hI2 : (len = 3 ∧ tw_pc y (k + 1) = pc + 3) ∧ 1 ≤ tw_fr y ∧ 21 ≤ tw_lo y := by simpa [tw_okI] using hI
            obtain ⟨⟨rfl, hn⟩, hf1, hl1⟩ := hI2
            rw [hn] at K
            have hr8 : ((r2.map (tw_cv ad)).map fun v => v.category).sum ≤ 8 := by rw [List.map_map]; simpa [Function.comp_def, tw_cv_cat] using hsum
            have hw : ∀ w ∈ ([.methodLink (tw_nm y).cls x Lib.Math.max.name, .static Lib.Math.max.name, .initialized "java/lang/Math", .code Lib.Math.max.name Lib.Math.max.code 2 (some .int)] : List Cond), w.before args s = true := fun w hw => hts _ (tw_in he hw)
            exact va_mmax hx hb (by rw [hml]; exact hl.1.symm) hown (hw _ List.mem_cons_self) (hw _ (List.mem_cons_of_mem _ List.mem_cons_self)) (hw _ (List.mem_cons_of_mem _ (List.mem_cons_of_mem _ List.mem_cons_self))) (hw _ (List.mem_cons_of_mem _ (List.mem_cons_of_mem _ (List.mem_cons_of_mem _ List.mem_cons_self)))) (by clear K kk; omega) (by clear K kk; omega) (by clear K kk; omega) (by clear K kk; omega) hdec (K rfl H locs ls hr hl hlen)
          · cases h1
        · cases h1
      · split at h1
        · next ht =>
          subst ht
          split at h1
          · next dp d sp s1 r2 hneg =>
            split at h1
            · next hsum =>
              cases hs : tw_copy σ s1 d sp dp n1 with
              | none => rw [hs] at h1; cases h1
              | some σ2 =>
                rw [hs] at h1
                cases h1
                dsimp only at K
                have hI2 : (len = 3 ∧ tw_pc y (k + 1) = pc + 3) ∧ 1 ≤ tw_fr y ∧ 8 + (nativeFrameWords "java/lang/System" "arraycopy" 5 + 11) ≤ tw_lo y := by simpa [tw_okI] using hI
                obtain ⟨⟨rfl, hn⟩, hf1, hl1⟩ := hI2
                rw [hn] at K
                have hr8 : ((r2.map (tw_cv ad)).map fun v => v.category).sum ≤ 8 := by rw [List.map_map]; simpa [Function.comp_def, tw_cv_cat] using hsum
                have hw : ∀ w ∈ ([.methodLink (tw_nm y).cls x arraycopyName, .native arraycopyName, .static arraycopyName, .initialized "java/lang/System"] : List Cond), w.before args s = true := fun w hw => hts _ (tw_in he hw)
                obtain ⟨I, L, P, A, J, nc⟩ := σ
                unfold tw_copy at hs
                dsimp only at hs
                split at hs
                · next hc =>
                  obtain ⟨c1, c2, c3, c4, c5, c6, c7, c8, c9⟩ := hc
                  cases hs
                  refine va_copyi (D := (dC, dI)) (q0 := s1) (q1 := d) (t0 := 1) (t1 := 1) (ty := .int) (f := A s1) (g := A d) hx hb (by rw [hml]; exact hl.1.symm) hown (hw _ List.mem_cons_self) (hw _ (List.mem_cons_of_mem _ List.mem_cons_self)) (hw _ (List.mem_cons_of_mem _ (List.mem_cons_of_mem _ List.mem_cons_self))) (hw _ (List.mem_cons_of_mem _ (List.mem_cons_of_mem _ (List.mem_cons_of_mem _ List.mem_cons_self)))) hK hP hD hS (by rw [tw_w_get c1, tw_cell_11 c2]) (by rw [tw_w_get c3, tw_cell_11 c4]) rfl rfl rfl c5 c6 c7 c8 c9 (fun _ _ => rfl) (by clear K kk; omega) (by clear K kk; omega) hdec (fun H1 locs1 hP1 hD1 hS1 => ?_)
                  rw [tw_setA c3 (by rw [tw_cell_11 c4]; show Sum.inl (_, _, Sum.inl (va_up A d _ d)) = _; unfold va_up; rw [if_pos rfl])] at hP1 hD1
                  exact K rfl H1 locs1 ls ⟨hP1, hD1, hS1, tw_PuA c3 hU⟩ hl hlen
                · cases hs
            · cases h1
          · cases h1
        · cases h1
  · cases h1
