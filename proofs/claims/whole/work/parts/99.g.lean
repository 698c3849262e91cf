/-! led: the helper's contract -/
def tw_wT : List Cond := wsV "ThirdWitnessLaw" 7 RX9 (tw_nm 170) tw_ws9
def tw_xH : Cond := .classLink "ThirdWitnessLaw" 13 tw_exN
def tw_wsH : List Cond := .codeWith yL_led cL_led 4 (some .int) [(0, 9, 12, 13)] :: tw_xH :: tw_wT
def tw_rmH : Room := { frames := 7, cells := 1, slots := 6, locals := 160 }
def tw_sH (r : Option Int32) (σ : tw_S) : tw_S := match r with
  | some q => (σ.1, σ.2.1, σ.2.2.1, σ.2.2.2.1, va_up σ.2.2.2.2.1 56 (vp_updL (σ.2.2.2.2.1 56) (0 : Int32).toNatClampNeg q.toInt64), σ.2.2.2.2.2)
  | none => σ
def tw_bH (r : Option Int32) : Int32 := match r with
  | some _ => 0
  | none => 1
theorem tw_sH_Pu {b L : Nat} {xs : Nat → Int32} {adK ad : Nat → Nat} {r : Option Int32} {σ : tw_S} (h : tw_Pu b L xs adK ad σ) : tw_Pu b L xs adK ad (tw_sH r σ) := by
  cases r with
  | none => exact h
  | some q => exact h
def tw_QH (n0 b L : Nat) (xs : Nat → Int32) (adK : Nat → Nat) (dC : Nat → ClassId) (dI : Nat → Nat → Nat) (cy : tw_Y) (ad : Nat → Nat) (r : Option Int32) (σ : tw_S) : Array Value → State → Outcome → State → Prop := va_Qi (fun (z : Int32) (_ : Unit) => z = tw_bH r ∧ tw_Pu b L xs adK ad (tw_sH r σ)) (fun _ t => tw_Bo dC dI cy n0 (tw_sH r σ) ad t) (tw_A n0)
def tw_XCH : String → State → State → Prop := vx_X (fun _ : Unit => False) (fun _ _ _ => True) (fun _ => False)
theorem tw_wT_good : GoodIn tw_wT tw_wT := by
  intro w hw
  refine ⟨hw, good_of_word ?_⟩
  unfold tw_wT wsV tw_ws9 at hw
  rcases List.mem_append.mp hw with h | h
  · exact List.all_eq_true.mp (show ([.methodLink "ThirdWitnessLaw" 7 (tw_nm 170), .instanceMethod (tw_nm 170), .selects RX9 (tw_nm 170) (tw_nm 170), .initialized RX9] : List Cond).all goodWord = true by decide +kernel) w h
  · rcases List.mem_cons.mp h with h | h
    · rw [h]; rfl
    · rcases List.mem_cons.mp h with h | h
      · rw [h]; rfl
      · rcases List.mem_cons.mp h with h | h
        · rw [h]; rfl
        · rcases List.mem_append.mp h with h | h
          · exact (List.mem_filter.mp h).2
          · exact tw_ok.2.1 w h
set_option maxHeartbeats 4000000 in
theorem tw_ledH {l : Launch} (hfl : l.stackTraces = false) {n0 b0 L0 sa : Nat} {xs : Nat → Int32} {adK adV : Nat → Nat} {dC : Nat → ClassId} {dI : Nat → Nat → Nat} {cy : tw_Y} {ad : Nat → Nat} {σ : tw_S} {I' : Nat → Int32} {L' : Nat → Int64} {P' : Nat → Nat → Nat} {A' : Nat → Nat → Int32} {J' : Nat → Nat → Int64} {a1 : Int32} {r : Option Int32} (hM : tw_MP 170 (0, [some (.ref 0), some (.int a1), none, none], [], σ) (tw_lend r (I', L', P', A', J', 57))) (h57 : σ.2.2.2.2.2 = 57) (hU : tw_Pu b0 L0 xs adK ad σ) :
    vx_Met l yL_led tw_wsH tw_rmH (va_Pc (([.ref 0, .int a1, .ref 56] : List Value).map (tw_cv ad)) (tw_B9 n0 b0 L0 xs adK adV dC dI cy ad σ sa)) (tw_QH n0 b0 L0 xs adK dC dI cy ad r (I', L', P', A', J', 57)) tw_XCH 1 6 (tw_A n0) := by
  refine vx_ofWH (cc := cL_led) (maxL := 4) (ret := some .int) (hh := [(0, 9, 12, 13)]) (by decide +kernel) rfl ?_
  intro p e s m args below meth c s₁ B hml hv
  obtain ⟨rfl, ⟨hF, hK, hP, hD⟩, hX⟩ := hv
  have hx := B.exec
  have hb := B.bytes
  have hr := B.returns
  have hts0 := atoms_spec (ws := tw_wsH) B.pre
  have hts : ∀ w ∈ tw_wT, w.before (([.ref 0, .int a1, .ref 56] : List Value).map (tw_cv ad)).toArray s = true := fun w hw => hts0 w (List.mem_cons_of_mem _ (List.mem_cons_of_mem _ hw))
  have hown : s.vm.findClass "ThirdWitnessLaw" = some m.cls := findClass_of_methodNamed B.named
  have hlocks := B.notSynchronized
  have htab : c.exceptionTable.toList = tableOf [(0, 9, 12, 13)] := vx_table (x := yL_led) B (hts0 _ List.mem_cons_self)
  have hl := lv_entry (([.ref 0, .int a1, .ref 56] : List Value).map (tw_cv ad)) (n := 4) (show (3 : Nat) ≤ 4 by decide)
  rw [lg_entry_eq]
  generalize (lg_sl (([.ref 0, .int a1, .ref 56] : List Value).map (tw_cv ad)) ++ List.replicate (4 - (lg_sl (([.ref 0, .int a1, .ref 56] : List Value).map (tw_cv ad))).length) Slot.unset).toArray = ls at hl ⊢
  have hl' : lv_has ls 4 [(0, Value.ref (ad 0)), (1, Value.int a1), (2, Value.ref (ad 56))] := hl
  have hS : va_S (tw_A n0) s.heap s.heap [] := va_S.rf
  have hrecv : ∃ cell : Cell, s.heap[ad 0]? = some cell ∧ cell.vm.isStatics = false ∧ s.vm.findClass RX9 = some cell.cls := va_recv hK hP (ci := 8) (q0 := 0) (tw_cl_at (by decide)) (by rw [tw_w_get (by rw [h57]; decide), tw_cell_obj (by decide)]; rfl)
  have hcast : (Cond.castable tw_exN tw_exN).before (([.ref 0, .int a1, .ref 56] : List Value).map (tw_cv ad)).toArray s = true := va_Nw.use rfl (hX.2.2.2 _ (List.contains_iff_mem.mp (by decide +kernel)))
  refine lv_aload_n hx hb (k := 2) (i := 2) (by decide +kernel) rfl (hl'.2.2 (2, Value.ref (ad 56)) (List.mem_cons_of_mem _ (List.mem_cons_of_mem _ List.mem_cons_self))) ?_
  refine lv_iconst hx hb (n := 0) (v := 0) (by decide +kernel) rfl ?_
  refine lv_aload_n hx hb (k := 0) (i := 0) (by decide +kernel) rfl (hl'.2.2 (0, Value.ref (ad 0)) List.mem_cons_self) ?_
  refine lv_iload_n hx hb (k := 1) (i := 1) (by decide +kernel) rfl (hl'.2.2 (1, Value.int a1) (List.mem_cons_of_mem _ List.mem_cons_self)) ?_
  refine vx_calli (A0 := tw_A n0) (A1 := tw_A n0) (AX := tw_A n0) (vx_runV (b := ad 0) (As := [.int a1]) (n := 1) (nL := 4) (rest := [.int 0, .ref (ad 56)]) (index := 7) (own := "ThirdWitnessLaw") (C := RX9) (Ts := tw_wT) ⟨hx, hb, hml, hown, hts⟩ (tw_led9 (adV := adV) (n0 := n0) (dC := dC) (dI := dI) (cy := cy) (sa := sa) hfl hM h57 rfl hU) (cwV 1 hts tw_wT_good rfl rfl rfl ⟨by decide +kernel, by decide +kernel, by decide +kernel, by decide +kernel⟩ ⟨by decide, by decide⟩) ⟨tw_blind9 _, hrecv, fun U hU1 hW => ⟨rfl, ⟨tw_F_next hF hW hU1 hS, va_K.moved hW.alike hK, by rw [hU1]; exact hP, hD⟩, tw_X9_next hX hW hU1 hS⟩⟩ rfl rfl hl'.1 rfl (show (2 * 0 + (1 + (1 + 0)) : Nat) ≤ 8 by decide) (show decode cL_led 4 = .ok (.invokevirtual 7, 3) by decide +kernel) ⟨by decide, by decide⟩) hS (fun _ _ h => h) (fun _ h => h) (fun _ _ h => h) ?_ ?_
  · intro E ce q9 u t H1 locs1 ht hA hpx hBX hsz hke hS1 hq hv hcl
    obtain ⟨rfl, hPu⟩ := hpx
    obtain ⟨rfl, hPt, hDt⟩ := hBX
    rw [ht] at hPt
    refine vx_catch (own := "ThirdWitnessLaw") (name := tw_exN) (E := tw_exN) (ce := ce) hown [] ⟨0, 9, 12, 13⟩ [] (by rw [htab]; rfl) (fun z hz => absurd hz List.not_mem_nil) (by decide) (by decide) (hts0 _ (List.mem_cons_of_mem _ List.mem_cons_self)) hcast hq hv hcl ?_
    refine lv_astore_n hx hb (k := 3) (i := 3) (nL := 4) (by decide +kernel) rfl hl' (by decide) rfl (fun ls2 hl2 => ?_)
    refine lv_iconst hx hb (n := 1) (v := 1) (by decide +kernel) rfl ?_
    exact vx_ret (W.iret hx hb hr (fun t2 ht2 hW => ⟨⟨1, (), rfl, ⟨rfl, hPu⟩, by rw [ht2]; exact hPt, hDt⟩, hS1.F ht2⟩) hS1.2.2 (by decide +kernel) hlocks)
  · intro z u t H1 locs1 ht hA hp hB hsz hke hS1
    obtain ⟨rfl, hPu⟩ := hp
    obtain ⟨hPt, hDt⟩ := hB
    rw [ht] at hPt
    refine lv_i2l hx hb (by decide +kernel) rfl ?_
    refine va_last (D := (dC, dI)) (q0 := 56) (t0 := 2) (n := 1) (f := J' 56) hx hb hK hPt hDt hS1 (by rw [tw_w_get (by decide : 56 < 57), tw_cell_12 (by decide)]; rfl) rfl (by unfold vp_in; decide) (by decide +kernel) (fun H2 locs2 hP2 hD2 hS2 => ?_)
    rw [tw_setJ (by decide : 56 < 57) (g := vp_updL (J' 56) (0 : Int32).toNatClampNeg z.toInt64) (by rw [tw_cell_12 (by decide)]; show Sum.inl (_, _, Sum.inr (Sum.inl (va_up J' 56 _ 56))) = _; unfold va_up; rw [if_pos rfl]; rfl)] at hP2 hD2
    refine lv_goto hx hb (off := 6) (tgt := 15) (by decide +kernel) (by decide) ?_
    refine lv_iconst hx hb (n := 0) (v := 0) (by decide +kernel) rfl ?_
    exact vx_ret (W.iret hx hb hr (fun t2 ht2 hW => ⟨⟨0, (), rfl, ⟨rfl, tw_sH_Pu (r := some z) hPu⟩, by rw [ht2]; exact hP2, hD2⟩, hS2.F ht2⟩) hS2.2.2 (by decide +kernel) hlocks)
