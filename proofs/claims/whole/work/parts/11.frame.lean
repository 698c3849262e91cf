/-! a call, a frame's run, a method's contract -/
theorem tw_pre0 {pc b t : Nat} {i : Instr} {len a nc : Nat} {v : Int32} {w : Int64} {st as rest : List Value} (h : tw_pre (pc, i, len, a, b, t, v, w) st nc = some (as, rest)) (ht : t = 0) : st = as.reverse ++ rest ∧ as.length = b ∧ (rest.map Value.category).sum ≤ 8 := by
  unfold tw_pre at h
  dsimp only at h
  rw [if_pos ht] at h
  split at h
  · next hc =>
    cases h
    refine ⟨?_, ?_, hc.2⟩
    · rw [List.reverse_reverse, List.take_append_drop]
    · rw [List.length_reverse, List.length_take]
      omega
  · cases h
theorem tw_pre1 {pc b t : Nat} {i : Instr} {len a nc : Nat} {v : Int32} {w : Int64} {st as rest : List Value} (h : tw_pre (pc, i, len, a, b, t, v, w) st nc = some (as, rest)) (ht : t ≠ 0) : ∃ (q : Nat) (as1 : List Value), as = .ref q :: as1 ∧ st = as1.reverse ++ .ref q :: rest ∧ as1.length = b ∧ (rest.map Value.category).sum ≤ 8 ∧ q < nc ∧ (tw_sh q).1 = t / 10 := by
  unfold tw_pre at h
  dsimp only at h
  rw [if_neg ht] at h
  split at h
  · next hc =>
    split at h
    · next q hq =>
      split at h
      · next hq2 =>
        cases h
        have hlt := (List.getElem?_eq_some_iff.mp hq).1
        refine ⟨q, (st.take b).reverse, rfl, ?_, ?_, hc, hq2.1, hq2.2⟩
        · rw [List.reverse_reverse]
          have h1 := List.take_append_drop b st
          rw [List.drop_eq_getElem_cons hlt, (List.getElem?_eq_some_iff.mp hq).2] at h1
          exact h1.symm
        · rw [List.length_reverse, List.length_take]
          omega
      · cases h
    · cases h
  · cases h
theorem tw_callW {p : Program} {l : Launch} {e0 : Env} {R : Room} {s : State} {m : MethodId} {args : Array Value} {below : List Frame} {meth : Method} {c : Code} {y n0 b0 L0 : Nat} {xs : Nat → Int32} {adK adV : Nat → Nat} {dC : Nat → ClassId} {dI : Nat → Nat → Nat} {cy : tw_Y} (C : tw_Cx p R s m args meth c y n0 b0 L0 xs adK adV dC dI cy) (hok : tw_OK) {Q : State → Prop} {k : Nat} {en : tw_E} (he : (tw_code y)[k]? = some en) (hcall : tw_call en = true) {st as rest : List Value} {σ : tw_S} (hpre : tw_pre en st σ.2.2.2.2.2 = some (as, rest)) {n : Nat} (hCon : tw_Con n) (hal : (tw_al as).length ≤ tw_ml en.2.2.2.1) {c2 : tw_C} (hrun : tw_run n en.2.2.2.1 (0, tw_args as (tw_ml en.2.2.2.1), [], σ) = some c2) {r : Option Value} {σ' : tw_S} (hout : tw_out en.2.2.2.1 c2 = some (r, σ')) {ad : Nat → Nat} {H : Heap} {locs : List Loc} {ls : Array Slot} {cells slots : Nat} (hr : tw_Rp s n0 b0 L0 xs adK dC dI cy ad σ H locs) (hls : ls.size = tw_ml y) (hcells : cells + (σ'.2.2.2.2.2 - σ.2.2.2.2.2) ≤ R.cells) (hslots : slots + (tw_sl σ'.2.2.2.2.2 - tw_sl σ.2.2.2.2.2) ≤ R.slots)
    (kk : tw_pc y (k + 1) = tw_pc y k + 3 → ∀ (H1 : Heap) (locs1 : List Loc) (ad1 : Nat → Nat), tw_agr σ.2.2.2.2.2 σ'.2.2.2.2.2 ad ad1 → tw_Rp s n0 b0 L0 xs adK dC dI cy ad1 σ' H1 locs1 → W p l e0 R s m args below meth c H1 locs1 (cells + (σ'.2.2.2.2.2 - σ.2.2.2.2.2)) (slots + (tw_sl σ'.2.2.2.2.2 - tw_sl σ.2.2.2.2.2)) Q (F0 m (tw_pc y k + 3) ls (r.toList.map (tw_cv ad1) ++ rest.map (tw_cv ad)))) :
    W p l e0 R s m args below meth c H locs cells slots Q (F0 m (tw_pc y k) ls (st.map (tw_cv ad))) := by
  obtain ⟨hx, hb, hml, hown, hts, hF, hK, hfr, hlo, hnm⟩ := id C
  obtain ⟨hP, hD, hS, hU⟩ := id hr
  have hE := hok.1 y k en he
  obtain ⟨pc, i, len, a, b, t, v, w⟩ := en
  have hpc : tw_pc y k = pc := by unfold tw_pc; rw [he]
  rw [hpc] at kk ⊢
  simp only [tw_okE, Bool.and_eq_true, decide_eq_true_eq] at hE
  obtain ⟨hdec, hI⟩ := hE
  dsimp only at hal hrun hout
  have hB : ∀ U : State, U.heap = H → s.WarmedH U.vm → tw_B n0 b0 L0 xs adK adV dC dI cy ad σ U := fun U hU1 hW => ⟨tw_F_next hF hW hU1 hS, va_K.moved hW.alike hK, by rw [hU1]; exact hP, hD⟩
  have hsum : ∀ (z : List Value), (z.map Value.category).sum ≤ 8 → ((z.map (tw_cv ad)).map fun v => v.category).sum ≤ 8 := fun z hz => by rw [List.map_map]; simpa [Function.comp_def, tw_cv_cat] using hz
  have okC : ∀ nn : Nat, tw_okC y a b nn = true → b = nn ∧ a < tw_NM ∧ (tw_rm a σ σ').frames + 1 ≤ R.frames ∧ 8 + (tw_ml a + 11) + (tw_rm a σ σ').locals ≤ R.locals ∧ (tw_nm a).cls ≠ "java/lang/invoke/MethodHandle" ∧ (tw_nm a).cls ≠ "java/lang/invoke/VarHandle" ∧ (parseMethodDescriptor (tw_nm a).desc).map (fun d => d.parameters.length) = some nn := by
    intro nn h
    obtain ⟨h1, h2, h3, h4, h5, h6, h7⟩ := of_decide_eq_true h
    exact ⟨h2, h1, Nat.le_trans h3 hfr, Nat.le_trans h4 hlo, h5, h6, h7⟩
  unfold tw_call at hcall
  dsimp only at hcall
  split at hcall
  · -- static
    rename_i x
    have ht : t = 0 := by simpa using hcall
    subst ht
    obtain ⟨e1, e2, e3⟩ := tw_pre0 hpre rfl
    have hI2 : (len = 3 ∧ tw_pc y (k + 1) = pc + 3) ∧ tw_okC y a b b = true := by simpa [tw_okI] using hI
    obtain ⟨⟨rfl, hn⟩, hC⟩ := hI2
    obtain ⟨-, o1, o2, o3, o4, o5, o6⟩ := okC b hC
    have hM := hCon l n0 b0 L0 xs adK adV dC dI cy a as σ c2 r σ' ad o1 hal hrun hout hU
    have hwd : ∀ w ∈ ([.methodLink (tw_nm y).cls x (tw_nm a), .static (tw_nm a), .initialized (tw_nm a).cls, tw_cw a] : List Cond), w ∈ tw_WALL := fun w hw => tw_in he hw
    have hG : GoodIn tw_WALL (va_wsS (tw_nm y).cls x (tw_nm a) (tw_ws a)) := tw_good hok (hwd _ (by simp)) [.methodLink (tw_nm y).cls x (tw_nm a), .static (tw_nm a), .initialized (tw_nm a).cls] (fun w hw => hwd w (by simp at hw ⊢; rcases hw with h | h | h <;> simp [h]))
    refine tw_after (rest := rest.map (tw_cv ad)) (va_runS (As := as.map (tw_cv ad)) (n := b) (nL := tw_ml y) ⟨hx, hb, hml, hown, hts⟩ hM (va_cwS b hts hG rfl rfl rfl ⟨o4, o5, o6⟩ ⟨o2, o3⟩) ⟨tw_blind _, fun U hU1 hW => ⟨rfl, hB U hU1 hW⟩⟩ rfl (by rw [List.length_map]; exact e2) hls (by rw [e1]; simp) (lv_room (hsum _ e3)) hdec ⟨hcells, hslots⟩) hS (kk hn)
  · -- virtual
    rename_i x
    have ht : t % 10 = 1 := by simpa using hcall
    obtain ⟨q, as1, e0', e1, e2, e3, e4, e5⟩ := tw_pre1 hpre (by omega)
    have hI2 : (len = 3 ∧ tw_pc y (k + 1) = pc + 3) ∧ tw_okC y a b b = true ∧ (tw_cg (t / 10)).1 = (tw_nm a).cls ∧ t / 10 < 10 := by simpa [tw_okI, ht] using hI
    obtain ⟨⟨rfl, hn⟩, hC, hcls, h10⟩ := hI2
    obtain ⟨-, o1, o2, o3, o4, o5, o6⟩ := okC b hC
    have hM := hCon l n0 b0 L0 xs adK adV dC dI cy a as σ c2 r σ' ad o1 hal hrun hout hU
    subst e0'
    have hwd : ∀ w ∈ ([.methodLink (tw_nm y).cls x (tw_nm a), .instanceMethod (tw_nm a), .selects (tw_nm a).cls (tw_nm a) (tw_nm a), .initialized (tw_nm a).cls, tw_cw a] : List Cond), w ∈ tw_WALL := fun w hw => tw_in he (by show w ∈ (if t % 10 = 1 then _ else _); rw [if_pos ht]; exact hw)
    have hG : GoodIn tw_WALL (wsV (tw_nm y).cls x (tw_nm a).cls (tw_nm a) (tw_ws a)) := tw_good hok (hwd _ (by simp)) [.methodLink (tw_nm y).cls x (tw_nm a), .instanceMethod (tw_nm a), .selects (tw_nm a).cls (tw_nm a) (tw_nm a), .initialized (tw_nm a).cls] (fun w hw => hwd w (by simp at hw ⊢; rcases hw with h | h | h | h <;> simp [h]))
    have hrecv : ∃ cell : Cell, H[ad q]? = some cell ∧ cell.vm.isStatics = false ∧ s.vm.findClass (tw_nm a).cls = some cell.cls := by
      have h := va_recv hK hP (ci := t / 10) (q0 := q) (tw_cl_at h10) (by rw [tw_w_get e4, tw_cell_obj (by omega), e5])
      rw [hcls] at h
      exact h
    refine tw_after (rest := rest.map (tw_cv ad)) (va_runV (b := ad q) (As := as1.map (tw_cv ad)) (n := b) (nL := tw_ml y) ⟨hx, hb, hml, hown, hts⟩ hM (cwV b hts hG rfl rfl rfl ⟨rfl, o4, o5, o6⟩ ⟨o2, o3⟩) ⟨tw_blind _, hrecv, fun U hU1 hW => ⟨rfl, hB U hU1 hW⟩⟩ rfl (by rw [List.length_map]; exact e2) hls (by rw [e1]; simp [tw_cv]) (lv_room (hsum _ e3)) hdec ⟨hcells, hslots⟩) hS (kk hn)
  · -- special
    rename_i x
    have ht : t % 10 = 2 ∨ t % 10 = 8 := by simpa using hcall
    obtain ⟨q, as1, e0', e1, e2, e3, e4, e5⟩ := tw_pre1 hpre (by omega)
    have ht3 : ¬ t = 3 := by omega
    have hI2 : (len = 3 ∧ tw_pc y (k + 1) = pc + 3) ∧ tw_okC y a b b = true ∧ (tw_nm a).name = "<init>" ∧ tw_rt a = none ∧ (t % 10 = 8 → (tw_nm y).cls = RX9 ∧ ((x = 15 ∧ tw_nm a = yX8_init) ∨ (x = 34 ∧ tw_nm a = yX0_init))) := by
      have h := hI
      unfold tw_okI at h
      dsimp only at h
      rw [if_neg ht3] at h
      simp only [Bool.or_eq_true, Bool.and_eq_true, decide_eq_true_eq] at h
      rcases h with h | h
      · rcases ht with h9 | h9
        · exact absurd h9 h.2.1
        · exact absurd h9 h.2.2
      · exact ⟨h.1, h.2.1, h.2.2⟩
    obtain ⟨⟨rfl, hn⟩, hC, hinit, hrt, hnest⟩ := hI2
    obtain ⟨-, o1, o2, o3, o4, o5, o6⟩ := okC b hC
    have hM := hCon l n0 b0 L0 xs adK adV dC dI cy a as σ c2 r σ' ad o1 hal hrun hout hU
    subst e0'
    have hcwa : tw_cw a = Cond.code (tw_nm a) (tw_by a) (tw_ml a) none := by unfold tw_cw; rw [hrt]
    have hws : tw_ws a = Cond.code (tw_nm a) (tw_by a) (tw_ml a) none :: tw_WALL := by unfold tw_ws; rw [hcwa]
    rcases ht with ht | ht
    · have hwd : ∀ w ∈ ([.methodLink (tw_nm y).cls x (tw_nm a), .instanceMethod (tw_nm a), .initialized (tw_nm a).cls, tw_cw a] : List Cond), w ∈ tw_WALL := fun w hw => tw_in he (by show w ∈ (if t = 3 then _ else if t % 10 = 2 then _ else _); rw [if_neg ht3, if_pos ht]; exact hw)
      have hG : GoodIn tw_WALL (tw_ws a) := tw_good hok (hwd _ (by simp)) [] (fun w hw => absurd hw List.not_mem_nil)
      exact tw_after (rest := rest.map (tw_cv ad)) (va_runI (b := ad q) (As := as1.map (tw_cv ad)) (n := b) (nL := tw_ml y) ⟨hx, hb, hml, hown, hts⟩ hM (cwI b hts hG hws rfl rfl (hts _ (hwd _ (by simp))) (hts _ (hwd _ (by simp))) (hts _ (hwd _ (by simp))) hinit ⟨o4, o5, o6⟩ ⟨o2, o3⟩) ⟨tw_blind _, fun U hU1 hW => ⟨rfl, hB U hU1 hW⟩⟩ rfl (by rw [List.length_map]; exact e2) hls (by rw [e1]; simp [tw_cv]) (lv_room (hsum _ e3)) hdec ⟨hcells, hslots⟩) hS (kk hn)
    · have hwd : ∀ w ∈ ([.instanceMethod (tw_nm a), .initialized (tw_nm a).cls, tw_cw a] : List Cond), w ∈ tw_WALL := fun w hw => tw_in he (by show w ∈ (if t = 3 then _ else if t % 10 = 2 then _ else if t % 10 = 8 then _ else _); rw [if_neg ht3, if_neg (by omega), if_pos ht]; exact hw)
      have hG : GoodIn tw_WALL (tw_ws a) := tw_good hok (hwd _ (by simp)) [] (fun w hw => absurd hw List.not_mem_nil)
      have hN : va_Nw (.methodLinkNest (tw_nm y).cls x (tw_nm a) RX9) s := by
        obtain ⟨n1, n2⟩ := hnest ht
        rw [n1]
        rcases n2 with ⟨rfl, n3⟩ | ⟨rfl, n3⟩
        · rw [n3]; exact hF.2.2.2.2.2.2.2.1
        · rw [n3]; exact hF.2.2.2.2.2.2.2.2
      exact tw_after (rest := rest.map (tw_cv ad)) (va_runIN (b := ad q) (As := as1.map (tw_cv ad)) (n := b) (nL := tw_ml y) ⟨hx, hb, hml, hown, hts⟩ hM ⟨va_cnB b hts hG hws rfl rfl hN (hts _ (hwd _ (by simp))) ⟨o4, o5, o6⟩ ⟨o2, o3⟩, hinit, hts _ (hwd _ (by simp))⟩ ⟨tw_blind _, fun U hU1 hW => ⟨rfl, hB U hU1 hW⟩⟩ rfl (by rw [List.length_map]; exact e2) hls (by rw [e1]; simp [tw_cv]) (lv_room (hsum _ e3)) hdec ⟨hcells, hslots⟩) hS (kk hn)
  · cases hcall
set_option maxHeartbeats 4000000 in
/-- A FRAME'S RUN, up to its end -/
theorem tw_frame (hok : tw_OK) (hJDK : tw_JDK) (N : Nat) (hCon : ∀ n, n < N → tw_Con n) {p : Program} {l : Launch} {e0 : Env} {R : Room} {s : State} {m : MethodId} {args : Array Value} {below : List Frame} {meth : Method} {c : Code} {y n0 b0 L0 : Nat} {xs : Nat → Int32} {adK adV : Nat → Nat} {dC : Nat → ClassId} {dI : Nat → Nat → Nat} {cy : tw_Y} (C : tw_Cx p R s m args meth c y n0 b0 L0 xs adK adV dC dI cy) {Q : State → Prop} {c' : tw_C} :
    ∀ (n : Nat), n ≤ N → ∀ (k : Nat) (lA : tw_Ls) (st : List Value) (σ : tw_S), tw_run n y (k, lA, st, σ) = some c' → lA.length = tw_ml y → ∀ (ad : Nat → Nat) (H : Heap) (locs : List Loc) (ls : Array Slot) (cells slots : Nat), tw_Rp s n0 b0 L0 xs adK dC dI cy ad σ H locs → lv_has ls (tw_ml y) (tw_lvF ad 0 lA) → cells + (c'.2.2.2.2.2.2.2.2 - σ.2.2.2.2.2) ≤ R.cells → slots + (tw_sl c'.2.2.2.2.2.2.2.2 - tw_sl σ.2.2.2.2.2) ≤ R.slots →
      (∀ (H1 : Heap) (locs1 : List Loc) (ls1 : Array Slot) (ad1 : Nat → Nat), tw_Rp s n0 b0 L0 xs adK dC dI cy ad1 c'.2.2.2 H1 locs1 → lv_has ls1 (tw_ml y) (tw_lvF ad1 0 c'.2.1) → tw_agr σ.2.2.2.2.2 c'.2.2.2.2.2.2.2.2 ad ad1 → (∃ e, (tw_code y)[c'.1]? = some e ∧ tw_end e = true) → W p l e0 R s m args below meth c H1 locs1 (cells + (c'.2.2.2.2.2.2.2.2 - σ.2.2.2.2.2)) (slots + (tw_sl c'.2.2.2.2.2.2.2.2 - tw_sl σ.2.2.2.2.2)) Q (F0 m (tw_pc y c'.1) ls1 (c'.2.2.1.map (tw_cv ad1)))) →
      W p l e0 R s m args below meth c H locs cells slots Q (F0 m (tw_pc y k) ls (st.map (tw_cv ad))) := by
  intro n
  induction n with
  | zero =>
    intro _ k lA st σ h
    cases h
  | succ n ih =>
    intro hnN k lA st σ h hlen ad H locs ls cells slots hr hl hcells hslots kk
    have hmono := tw_run_nc _ _ _ _ h
    unfold tw_run at h
    split at h
    · cases h
    · next e he =>
      split at h
      · next hend =>
        cases h
        have h9 := kk H locs ls ad hr hl ⟨fun _ _ => rfl, fun _ => rfl⟩ ⟨e, he, hend⟩
        dsimp only at h9
        rw [Nat.sub_self, Nat.sub_self, Nat.add_zero, Nat.add_zero] at h9
        exact h9
      · split at h
        · next hcall =>
          split at h
          · cases h
          · next as rest hpre =>
            split at h
            · next hal =>
              split at h
              · cases h
              · next c2 hrun =>
                split at h
                · cases h
                · next r σ1 hout =>
                  split at h
                  · next hv =>
                    have m1 := tw_run_nc _ _ _ _ hrun
                    have m2 := tw_run_nc _ _ _ _ h
                    rw [← tw_out_nc hout] at m1
                    dsimp only at m1 m2
                    have s1 := tw_sl_mono m1
                    have s2 := tw_sl_mono m2
                    refine tw_callW C hok he hcall hpre (hCon n (by omega)) hal hrun hout hr hl.1 (by omega) (by omega) (fun hn H1 locs1 ad1 hag hr1 => ?_)
                    rw [← hn]
                    have hlv : tw_lvF ad1 0 lA = tw_lvF ad 0 lA ∧ rest.map (tw_cv ad1) = rest.map (tw_cv ad) := by
                      rcases hv with hv | hv
                      · rw [hag.2 hv]; exact ⟨rfl, rfl⟩
                      · simp only [tw_vok, Bool.and_eq_true] at hv
                        exact ⟨tw_lv_agr _ _ hv.1 hag.1, tw_st_agr hv.2 hag.1⟩
                    rw [← hlv.2, ← List.map_append]
                    refine ih (by omega) (k + 1) lA _ σ1 h hlen ad1 H1 locs1 ls _ _ hr1 (by rw [hlv.1]; exact hl) (by omega) (by omega) (fun H2 locs2 ls2 ad2 hr2 hl2 hag2 hend2 => ?_)
                    have h9 := kk H2 locs2 ls2 ad2 hr2 hl2 (tw_agr_trans hag hag2 m1 m2) hend2
                    rw [show cells + (σ1.2.2.2.2.2 - σ.2.2.2.2.2) + (c'.2.2.2.2.2.2.2.2 - σ1.2.2.2.2.2) = cells + (c'.2.2.2.2.2.2.2.2 - σ.2.2.2.2.2) by omega, show slots + (tw_sl σ1.2.2.2.2.2 - tw_sl σ.2.2.2.2.2) + (tw_sl c'.2.2.2.2.2.2.2.2 - tw_sl σ1.2.2.2.2.2) = slots + (tw_sl c'.2.2.2.2.2.2.2.2 - tw_sl σ.2.2.2.2.2) by omega]
                    exact h9
                  · cases h
            · cases h
        · split at h
          · cases h
          · next c1 hs1 =>
            have m1 := tw_s1_nc hs1
            have m2 := tw_run_nc _ _ _ _ h
            have s1 := tw_sl_mono m1
            have s2 := tw_sl_mono m2
            refine tw_step C hok hJDK he hs1 hlen hr hl (by omega) (by omega) (fun H1 locs1 ls1 ad1 hr1 hl1 hag1 hag2 hlen1 => ?_)
            obtain ⟨k1, l1, st1, σ1⟩ := c1
            dsimp only at m1 m2 s1 s2 hr1 hl1 hag1 hag2 hlen1 ⊢
            refine ih (by omega) k1 l1 st1 σ1 h hlen1 ad1 H1 locs1 ls1 _ _ hr1 hl1 (by omega) (by omega) (fun H2 locs2 ls2 ad2 hr2 hl2 hag3 hend2 => ?_)
            have h9 := kk H2 locs2 ls2 ad2 hr2 hl2 (tw_agr_trans ⟨hag1, hag2⟩ hag3 m1 m2) hend2
            rw [show cells + (σ1.2.2.2.2.2 - σ.2.2.2.2.2) + (c'.2.2.2.2.2.2.2.2 - σ1.2.2.2.2.2) = cells + (c'.2.2.2.2.2.2.2.2 - σ.2.2.2.2.2) by omega, show slots + (tw_sl σ1.2.2.2.2.2 - tw_sl σ.2.2.2.2.2) + (tw_sl c'.2.2.2.2.2.2.2.2 - tw_sl σ1.2.2.2.2.2) = slots + (tw_sl c'.2.2.2.2.2.2.2.2 - tw_sl σ.2.2.2.2.2) by omega]
            exact h9
theorem tw_al_mem {ad : Nat → Nat} : ∀ (as : List Value) (i r : Nat) (q : Nat × Value), q ∈ tw_lvF ad i (tw_al as ++ List.replicate r none) → q ∈ lv_args i (as.map (tw_cv ad))
  | [], i, r, q, h => by
    exfalso
    obtain ⟨j, v, h1, -⟩ := (tw_lv_mem _ i q).mp h
    rw [show tw_al [] ++ List.replicate r none = List.replicate r none from rfl, List.getElem?_replicate] at h1
    split at h1 <;> cases h1
  | v :: as, i, r, q, h => by
    rw [List.map_cons, lv_args, tw_cv_cat]
    unfold tw_al at h
    split at h
    · next hc =>
      rw [if_pos hc]
      rw [List.cons_append, List.cons_append, tw_lvF, tw_lvF, List.mem_cons] at h
      rcases h with h | h
      · rw [h]; exact List.mem_cons_self
      · exact List.mem_cons_of_mem _ (tw_al_mem as (i + 2) r q h)
    · next hc =>
      rw [if_neg hc]
      rw [List.cons_append, tw_lvF, List.mem_cons] at h
      rcases h with h | h
      · rw [h]; exact List.mem_cons_self
      · exact List.mem_cons_of_mem _ (tw_al_mem as (i + 1) r q h)
theorem tw_al_len (ad : Nat → Nat) : ∀ (as : List Value), (lg_sl (as.map (tw_cv ad))).length = (tw_al as).length
  | [] => rfl
  | v :: as => by
    have ih := tw_al_len ad as
    rw [List.map_cons]
    unfold lg_sl at ih ⊢
    rw [List.flatMap_cons, List.length_append, ih, tw_cv_cat, tw_al]
    split
    · simp; omega
    · simp; omega
set_option maxHeartbeats 4000000 in
theorem tw_contract (hok : tw_OK) (hJDK : tw_JDK) : ∀ N, tw_Con N := by
  intro N
  induction N using Nat.strongRecOn with
  | ind N IH =>
    intro l n0 b0 L0 xs adK adV dC dI cy y as σ c' r σ' ad hy hal hrun hout hU
    refine Met.ofW (cc := tw_by y) (maxL := tw_ml y) (ret := tw_rt y) (hok.2.2 y hy).1 rfl ?_
    intro p e s m args below meth c s₁ B hml hv
    obtain ⟨rfl, hF, hK, hP, hD⟩ := hv
    have hx := B.exec
    have hb := B.bytes
    have hr := B.returns
    have hts0 := atoms_spec (ws := tw_ws y) B.pre
    have hts : ∀ w ∈ tw_WALL, w.before (as.map (tw_cv ad)).toArray s = true := fun w hw => hts0 w (List.mem_cons_of_mem _ hw)
    have hown : s.vm.findClass (tw_nm y).cls = some m.cls := findClass_of_methodNamed B.named
    have hlocks := B.notSynchronized
    have hnm : meth.name = (tw_nm y).name := (name_of_methodNamed B.named B.method).1
    have hl := lv_entry (as.map (tw_cv ad)) (n := tw_ml y) (by rw [tw_al_len]; exact hal)
    rw [lg_entry_eq]
    generalize (lg_sl (as.map (tw_cv ad)) ++ List.replicate (tw_ml y - (lg_sl (as.map (tw_cv ad))).length) Slot.unset).toArray = ls at hl ⊢
    have hl2 : lv_has ls (tw_ml y) (tw_lvF ad 0 (tw_args as (tw_ml y))) := tw_lv_sub hl (fun q hq => tw_al_mem as 0 _ q hq)
    have hlen : (tw_args as (tw_ml y)).length = tw_ml y := by unfold tw_args; rw [List.length_append, List.length_replicate]; omega
    have hS : va_S (tw_A n0) s.heap s.heap [] := va_S.rf
    have hc' := tw_out_nc hout
    have hmono := tw_run_nc _ _ _ _ hrun
    have h0 := (hok.2.2 y hy).2
    have key := tw_frame hok hJDK N (fun n hn => IH n hn) (p := p) (l := l) (e0 := e) (below := below) (Q := MQ below (tw_Qc n0 b0 L0 xs adK dC dI cy σ.2.2.2.2.2 ad σ' r) (as.map (tw_cv ad)).toArray s (σ'.2.2.2.2.2 - σ.2.2.2.2.2) (tw_sl σ'.2.2.2.2.2 - tw_sl σ.2.2.2.2.2) (tw_A n0)) (C := (⟨hx, hb, hml, hown, hts, hF, hK, Nat.le_refl _, Nat.le_refl _, hnm⟩ : tw_Cx p (headSpec (tw_ws y) (tw_rm y σ σ')).room s m (as.map (tw_cv ad)).toArray meth c y n0 b0 L0 xs adK adV dC dI cy)) (c' := c') N (Nat.le_refl N) 0 (tw_args as (tw_ml y)) [] σ hrun hlen ad s.heap [] ls 0 0 ⟨hP, hD, hS, hU⟩ hl2 (by rw [← hc', Nat.zero_add]; exact Nat.le_refl _) (by rw [← hc', Nat.zero_add]; exact Nat.le_refl _) ?_
    · rw [h0] at key
      exact key
    · intro H1 locs1 ls1 ad1 hr1 hl1 hag hend
      obtain ⟨hP1, hD1, hS1, hU1⟩ := hr1
      obtain ⟨k', l', st', σ2⟩ := c'
      dsimp only at hc' hP1 hD1 hU1 hag ⊢
      subst hc'
      rw [Nat.zero_add, Nat.zero_add]
      have hpost : ∀ t : State, t.heap = H1 → tw_Bo dC dI cy n0 σ' ad1 t := fun t ht => ⟨by rw [ht]; exact hP1, hD1⟩
      unfold tw_out at hout
      dsimp only at hout
      split at hout
      · next pc rst he =>
        obtain ⟨len, a, b, t, v, w⟩ := rst
        have hE := hok.1 y k' _ he
        have hpc : tw_pc y k' = pc := by unfold tw_pc; rw [he]
        simp only [tw_okE, tw_okI, Bool.and_eq_true, decide_eq_true_eq] at hE
        obtain ⟨hdec, rfl⟩ := hE
        rw [hpc]
        split at hout
        · next v0 hrt =>
          cases hout
          exact W.iret hx hb (hr.trans hrt) (fun t ht hW => ⟨⟨v0, ad1, rfl, ⟨rfl, hag, hU1⟩, hpost t ht⟩, hS1.F ht⟩) hS1.2.2 hdec hlocks
        · next v0 hrt =>
          split at hout
          · next hv =>
            cases hout
            refine W.zret (ty := .boolean) hx hb (hr.trans hrt) ?_ (fun t ht hW => ⟨⟨v0, ad1, rfl, ⟨rfl, hag, hU1⟩, hpost t ht⟩, hS1.F ht⟩) hS1.2.2 hdec hlocks
            rcases hv with rfl | rfl <;> rfl
          · cases hout
        · cases hout
      · next pc rst he =>
        obtain ⟨len, a, b, t, v, w⟩ := rst
        have hE := hok.1 y k' _ he
        have hpc : tw_pc y k' = pc := by unfold tw_pc; rw [he]
        simp only [tw_okE, tw_okI, Bool.and_eq_true, decide_eq_true_eq] at hE
        obtain ⟨hdec, rfl⟩ := hE
        rw [hpc]
        split at hout
        · next v0 hrt =>
          cases hout
          exact W.lret hx hb (hr.trans hrt) (fun t ht hW => ⟨⟨v0, ad1, rfl, ⟨rfl, hag, hU1⟩, hpost t ht⟩, hS1.F ht⟩) hS1.2.2 hdec hlocks
        · cases hout
      · next pc rst he =>
        obtain ⟨len, a, b, t, v, w⟩ := rst
        have hE := hok.1 y k' _ he
        have hpc : tw_pc y k' = pc := by unfold tw_pc; rw [he]
        simp only [tw_okE, tw_okI, Bool.and_eq_true, decide_eq_true_eq] at hE
        obtain ⟨hdec, rfl⟩ := hE
        rw [hpc]
        split at hout
        · next hrt =>
          cases hout
          exact W.vret hx hb (hr.trans hrt) (fun t ht hW => ⟨⟨ad1, rfl, ⟨hag, hU1⟩, hpost t ht⟩, hS1.F ht⟩) hS1.2.2 hdec hlocks
        · cases hout
      · cases hout
