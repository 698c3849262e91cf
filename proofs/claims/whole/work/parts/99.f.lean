/-! led: the class's contract -/
def tw_exN : String := "java/util/NoSuchElementException"
def tw_exL : List Cond := (tw_exO RX9 358 tw_exN "java/lang/RuntimeException" 13 prog_28_method_4_code ["java/lang/Exception"]).filter vx_no
def tw_exG : List Cond := tw_exL.filter goodWord
def tw_exB : List Cond := tw_exL.filter (fun w => !goodWord w)
def tw_x1 : Cond := .classLink RX9 354 tw_exN
def tw_x2 : Cond := .initialized tw_exN
def tw_ws9 : List Cond := tw_cw 170 :: (tw_x1 :: tw_x2 :: (tw_exG ++ tw_WALL))
def tw_rm9 : Room := { frames := 6, cells := 1, slots := 6, locals := 137 }
def tw_isB (w : Cond) : Bool := match w with
  | .declares _ => true
  | .castable _ _ => true
  | _ => false
theorem tw_isB_all : ∀ w ∈ tw_exB, tw_isB w = true := List.all_eq_true.mp (by decide +kernel)
theorem tw_isB_on {w : Cond} (h : tw_isB w = true) : w.onTables = true := by
  unfold tw_isB at h
  split at h
  · rfl
  · rfl
  · cases h
theorem tw_isB_warm {w : Cond} (h : tw_isB w = true) {s U : State} (hW : s.WarmedH U.vm) (hZ : va_Nw w s) : va_Nw w U := by
  unfold tw_isB at h
  split at h
  · exact va_tabs rfl (rfl : (s.setVm U.vm).vm = U.vm) ((Cond.declares_setVm hW.alike _).trans hZ)
  · exact va_tabs rfl (rfl : (s.setVm U.vm).vm = U.vm) ((Cond.castable_setVm hW.alike _ _).trans hZ)
  · cases h
def tw_X9 (n0 sa : Nat) (U : State) : Prop := vk_R RX9 356 "so many quarrels aren't open" sa U ∧ vx_Zq Bundle.tN "UNASSIGNED_STACK" Bundle.steD (tw_A n0) U U.heap ∧ vx_Zq Bundle.tN "SUPPRESSED_SENTINEL" Bundle.listD (tw_A n0) U U.heap ∧ ∀ w ∈ tw_exB, va_Nw w U
theorem tw_X9_next {n0 sa : Nat} {s U : State} {H : Heap} {locs : List Loc} (hX : tw_X9 n0 sa s) (hW : s.WarmedH U.vm) (hH : U.heap = H) (hS : va_S (tw_A n0) s.heap H locs) : tw_X9 n0 sa U := by
  obtain ⟨h1, h2, h3, h4⟩ := hX
  subst hH
  have hk : ∀ a : Nat, a < s.heap.size → ¬ tw_A n0 a → U.heap[a]? = s.heap[a]? := fun a h1 h2 => hS.2.1 a h1 h2
  exact ⟨h1.warm hW, (h2.moved hW.alike).kept hk, (h3.moved hW.alike).kept hk, fun w hw => tw_isB_warm (tw_isB_all w hw) hW (h4 w hw)⟩
theorem tw_X9_call {n0 sa : Nat} {U : State} {g : JFrame} {mk : MethodId} {a : Array Value} (h : tw_X9 n0 sa U) : tw_X9 n0 sa (U.calling g mk a) := by
  obtain ⟨h1, h2, h3, h4⟩ := h
  exact ⟨vk_R.same rfl h1, h2.moved (U := U.calling g mk a) (Vm.Alike.refl U.vm), h3.moved (U := U.calling g mk a) (Vm.Alike.refl U.vm), fun w hw => va_Nw.same (u := U) (U := U.calling g mk a) (tw_isB_on (tw_isB_all w hw)) rfl (h4 w hw)⟩
def tw_B9 (n0 b L : Nat) (xs : Nat → Int32) (adK adV : Nat → Nat) (dC : Nat → ClassId) (dI : Nat → Nat → Nat) (cy : tw_Y) (ad : Nat → Nat) (σ : tw_S) (sa : Nat) (U : State) : Prop := tw_B n0 b L xs adK adV dC dI cy ad σ U ∧ tw_X9 n0 sa U
theorem tw_blind9 {n0 b L sa : Nat} {xs : Nat → Int32} {adK adV : Nat → Nat} {dC : Nat → ClassId} {dI : Nat → Nat → Nat} {cy : tw_Y} {ad : Nat → Nat} {σ : tw_S} (av : List Value) : FrameBlind (va_Pc av (tw_B9 n0 b L xs adK adV dC dI cy ad σ sa)) := by
  intro a U g mk h
  obtain ⟨h0, h1, h2⟩ := h
  exact ⟨h0, (tw_blind av a U g mk ⟨h0, h1⟩).2, tw_X9_call h2⟩
def tw_Q9 (n0 b L : Nat) (xs : Nat → Int32) (adK : Nat → Nat) (dC : Nat → ClassId) (dI : Nat → Nat → Nat) (cy : tw_Y) (ad : Nat → Nat) (r : Option Int32) (σ : tw_S) : Array Value → State → Outcome → State → Prop := va_Qi (fun (z : Int32) (_ : Unit) => r = some z ∧ tw_Pu b L xs adK ad σ) (fun _ t => tw_Bo dC dI cy n0 σ ad t) (tw_A n0)
def tw_XC9 (n0 b L : Nat) (xs : Nat → Int32) (adK : Nat → Nat) (dC : Nat → ClassId) (dI : Nat → Nat → Nat) (cy : tw_Y) (ad : Nat → Nat) (r : Option Int32) (σ : tw_S) : String → State → State → Prop := vx_X (fun _ : Unit => r = none ∧ tw_Pu b L xs adK ad σ) (fun E _ t => E = tw_exN ∧ tw_Bo dC dI cy n0 σ ad t) (tw_A n0)
theorem tw_ex_ot : ∀ w ∈ tw_x1 :: tw_x2 :: tw_exL, vx_ot w = true := List.all_eq_true.mp (by decide +kernel)
set_option maxHeartbeats 4000000 in
theorem tw_led9 {l : Launch} (hfl : l.stackTraces = false) {n0 b0 L0 sa : Nat} {xs : Nat → Int32} {adK adV : Nat → Nat} {dC : Nat → ClassId} {dI : Nat → Nat → Nat} {cy : tw_Y} {ad : Nat → Nat} {σ σ' : tw_S} {a1 : Int32} {r : Option Int32} (hM : tw_MP 170 (0, [some (.ref 0), some (.int a1), none, none], [], σ) (tw_lend r σ')) (h57 : σ.2.2.2.2.2 = 57) (h57' : σ'.2.2.2.2.2 = 57) (hU : tw_Pu b0 L0 xs adK ad σ) :
    vx_Met l (tw_nm 170) tw_ws9 tw_rm9 (va_Pc (([.ref 0, .int a1] : List Value).map (tw_cv ad)) (tw_B9 n0 b0 L0 xs adK adV dC dI cy ad σ sa)) (tw_Q9 n0 b0 L0 xs adK dC dI cy ad r σ') (tw_XC9 n0 b0 L0 xs adK dC dI cy ad r σ') 1 6 (tw_A n0) := by
  obtain ⟨n, c', hrun, hlend⟩ := hM
  have hc : c'.2.2.2 = σ' := by
    cases r with
    | none => exact hlend.2.2
    | some q => exact (tw_out_nc hlend).symm
  refine vx_ofW (cc := tw_by 170) (maxL := tw_ml 170) (ret := tw_rt 170) (tw_ok.2.2 170 (by decide)).1 rfl ?_
  intro p e s m args below meth c s₁ B hml htab hv
  obtain ⟨rfl, ⟨hF, hK, hP, hD⟩, hX⟩ := hv
  have hx := B.exec
  have hb := B.bytes
  have hr := B.returns
  have hts0 := atoms_spec (ws := tw_ws9) B.pre
  have hts : ∀ w ∈ tw_WALL, w.before (([.ref 0, .int a1] : List Value).map (tw_cv ad)).toArray s = true := fun w hw => hts0 w (List.mem_cons_of_mem _ (List.mem_cons_of_mem _ (List.mem_cons_of_mem _ (List.mem_append_right _ hw))))
  have hown : s.vm.findClass (tw_nm 170).cls = some m.cls := findClass_of_methodNamed B.named
  have hlocks := B.notSynchronized
  have hnm : meth.name = (tw_nm 170).name := (name_of_methodNamed B.named B.method).1
  have hl := lv_entry (([.ref 0, .int a1] : List Value).map (tw_cv ad)) (n := tw_ml 170) (show (2 : Nat) ≤ 4 by decide)
  rw [lg_entry_eq]
  generalize (lg_sl (([.ref 0, .int a1] : List Value).map (tw_cv ad)) ++ List.replicate (tw_ml 170 - (lg_sl (([.ref 0, .int a1] : List Value).map (tw_cv ad))).length) Slot.unset).toArray = ls at hl ⊢
  have hl2 : lv_has ls (tw_ml 170) (tw_lvF ad 0 [some (.ref 0), some (.int a1), none, none]) := tw_lv_sub hl (fun q hq => tw_al_mem [.ref 0, .int a1] 0 2 q hq)
  have hS : va_S (tw_A n0) s.heap s.heap [] := va_S.rf
  have h0 := (tw_ok.2.2 170 (by decide)).2
  have key := tw_frame tw_ok (tw_jdk tw_ok) n (fun k _ => tw_con k) (p := p) (l := l) (e0 := e) (below := below) (Q := vx_MQ below (tw_Q9 n0 b0 L0 xs adK dC dI cy ad r σ') (tw_XC9 n0 b0 L0 xs adK dC dI cy ad r σ') (([.ref 0, .int a1] : List Value).map (tw_cv ad)).toArray s 1 6 (tw_A n0)) (C := (⟨hx, hb, hml, hown, hts, hF, hK, by decide, by decide, hnm⟩ : tw_Cx p (headSpec tw_ws9 tw_rm9).room s m (([.ref 0, .int a1] : List Value).map (tw_cv ad)).toArray meth c 170 n0 b0 L0 xs adK adV dC dI cy)) (c' := c') n (Nat.le_refl n) 0 [some (.ref 0), some (.int a1), none, none] [] σ hrun rfl ad s.heap [] ls 0 0 ⟨hP, hD, hS, hU⟩ hl2 (by rw [hc, h57, h57']; exact Nat.zero_le _) (by rw [hc, h57, h57', Nat.sub_self]; exact Nat.zero_le _) ?_
  · rw [h0] at key
    exact key
  · intro H1 locs1 ls1 ad1 hr1 hl1 hag hend
    obtain ⟨k', l', st', σ2⟩ := c'
    dsimp only at hc hr1 hl1 hag hend ⊢
    subst hc
    obtain rfl := hag.2 (by rw [h57, h57'])
    obtain ⟨hP1, hD1, hS1, hU1⟩ := hr1
    rw [h57, h57', Nat.sub_self, Nat.sub_self]
    cases r with
    | some q =>
      have hout := hlend
      unfold tw_lend tw_out at hout
      dsimp only at hout
      split at hout
      · next pc rst he =>
        obtain ⟨len, a, b, t, v, w⟩ := rst
        have hE := tw_ok.1 170 k' _ he
        have hpc : tw_pc 170 k' = pc := by unfold tw_pc; rw [he]
        simp only [tw_okE, tw_okI, Bool.and_eq_true, decide_eq_true_eq] at hE
        obtain ⟨hdec, rfl⟩ := hE
        rw [hpc]
        split at hout
        · next v0 hrt =>
          cases hout
          exact vx_ret (W.widen (k := 1) (n := 6) (by decide) (by decide) (W.iret hx hb (hr.trans hrt) (fun t ht hW => ⟨⟨q, (), rfl, ⟨rfl, hU1⟩, by rw [ht]; exact hP1, hD1⟩, hS1.F ht⟩) hS1.2.2 hdec hlocks))
        · next v0 hrt => cases hrt
        · cases hout
      · split at hout <;> cases hout
      · split at hout <;> cases hout
      · cases hout
    | none =>
      obtain ⟨hk, hst, -⟩ := hlend
      dsimp only at hk hst
      subst hk
      subst hst
      have hat : ∀ w ∈ tw_exL, w.before (([.ref 0, .int a1] : List Value).map (tw_cv ad1)).toArray s = true := by
        intro w hw
        by_cases hg : goodWord w = true
        · exact hts0 w (List.mem_cons_of_mem _ (List.mem_cons_of_mem _ (List.mem_cons_of_mem _ (List.mem_append_left _ (List.mem_filter.mpr ⟨hw, hg⟩)))))
        · have hm : w ∈ tw_exB := List.mem_filter.mpr ⟨hw, by simpa using hg⟩
          exact va_Nw.use (tw_isB_on (tw_isB_all w hm)) (hX.2.2.2 w hm)
      refine tw_makeT (cc := tw_by 170) (pc := 56) (A := tw_A n0) (own := RX9) (cls := tw_exN) (Z9 := "java/lang/RuntimeException") (text := "so many quarrels aren't open") (names := ["java/lang/Exception"]) (ik := 354) (is := 356) (ic := 358) (sa := sa) (ix := 13) (nb := prog_28_method_4_code) hx hb hfl hown (by decide +kernel) (by decide +kernel) (by decide +kernel) (hts0 _ (List.mem_cons_of_mem _ List.mem_cons_self)) (hts0 _ (List.mem_cons_of_mem _ (List.mem_cons_of_mem _ List.mem_cons_self))) hX.1 hat tw_ex_ot hX.2.1 hX.2.2.1 hS1 (hl1.1.trans hml.symm) (by decide +kernel) (by decide +kernel) (by decide +kernel) (by decide +kernel) (by decide +kernel) (by decide +kernel) (by decide +kernel) (by decide +kernel) (by decide) (show (0 + (13 * 3 + 43) : Nat) ≤ 137 by decide) (by decide) (by decide) ?_
      intro q ce H2 hq hv hcl hz hsm
      refine vx_athrow hx hb (show decode (tw_by 170) (56 + 10) = .ok (.athrow, 1) by decide +kernel) (vx_out (E := tw_exN) (ce := ce) (fun x hx => (htab x hx).elim) hlocks hq hv hcl (fun t ht hA => ?_) hS1.2.2 (by decide) (by decide))
      refine ⟨(), ⟨rfl, hU1⟩, ⟨rfl, ?_, hD1⟩, ?_, ?_⟩
      · rw [ht]
        exact hP1.kept (fun k x hx => hsm x.1 (hP1 k x hx).lt)
      · rw [ht]
        exact Nat.le_trans hS1.1 hz
      · intro z hz1 hz2
        rw [ht]
        exact (hsm z (Nat.lt_of_lt_of_le hz1 hS1.1)).trans (hS1.2.1 z hz1 hz2)
