/-! the law's entry: what its words give -/
def tw_ridx : List Nat := [131, 232, 230, 101, 228, 205, 164, 147, 197, 201, 149, 195, 191, 226, 199, 193, 187, 203, 133]
def tw_tm (k : Nat) : Term := .string RX4 (tw_ridx.getD k 0)
def tw_FL : List Cond := flatC (Jvm.Cond.and given_1 narrow_1)
def tw_vt (k : Nat) : Term := .field (tw_tm k) "java/lang/String" "value" "[B"
def tw_gv1 (k : Nat) : List Cond := [.exactly (tw_tm k) "java/lang/String", .eq (.field (tw_tm k) "java/lang/String" "coder" "B") (.int 0), .arrayOf (tw_vt k) .byte, .eq (.length (tw_vt k)) (.int (Int32.ofNat ((tw_byt.map List.length).getD k 0)))] ++ (List.range ((tw_byt.map List.length).getD k 0)).map (fun j => .eq (.elem (tw_vt k) (.int (Int32.ofNat j))) (.int ((tw_byt.getD k []).getD j 0)))
theorem tw_gv_in : ∀ k, k < 19 → ∀ w ∈ tw_gv1 k, w ∈ tw_FL := by
  have h : (List.range 19).all (fun k => (tw_gv1 k).all (fun w => decide (w ∈ tw_FL))) = true := by decide +kernel
  intro k hk w hw
  exact of_decide_eq_true (List.all_eq_true.mp (List.all_eq_true.mp h k (List.mem_range.mpr hk)) w hw)
theorem tw_st_in : ∀ q ∈ tw_strs, Cond.stringRef q.1 q.2.1 (tw_txt.getD q.2.2 "") ∈ lw_tbl ∧ q.2.2 < 19 ∧ ((q.1 = RX4 ∧ tw_ridx.getD q.2.2 0 = q.2.1) ∨ Cond.eq (tw_tm q.2.2) (.string q.1 q.2.1) ∈ tw_FL) := by
  have h : tw_strs.all (fun q => decide (Cond.stringRef q.1 q.2.1 (tw_txt.getD q.2.2 "") ∈ lw_tbl ∧ q.2.2 < 19 ∧ ((q.1 = RX4 ∧ tw_ridx.getD q.2.2 0 = q.2.1) ∨ Cond.eq (tw_tm q.2.2) (.string q.1 q.2.1) ∈ tw_FL))) = true := by decide +kernel
  exact fun q hq => of_decide_eq_true (List.all_eq_true.mp h q hq)
def tw_lw1 : List Cond := [.methodLink "ThirdWitnessLaw" 244 yL_led, .static yL_led, .initialized "ThirdWitnessLaw", .stringRef RX9 356 "so many quarrels aren't open", .laysStatic Bundle.tN "UNASSIGNED_STACK" Bundle.steD, .laysStatic Bundle.tN "SUPPRESSED_SENTINEL" Bundle.listD, .initialized Bundle.tN, .laysStatic "java/lang/String" "COMPACT_STRINGS" "Z", .initialized "java/lang/String", .initialized "jdk/internal/util/Preconditions", .laysStatic "jdk/internal/util/Preconditions" "SIOOBE_FORMATTE\x52" "Ljava/util/function/BiFunction;", .arrayClass .byte, .arrayClass .int, .arrayClass .long, tw_nest1, tw_nest2, .codeWith yL_led cL_led 4 (some .int) [(0, 9, 12, 13)], tw_xH, .methodLink "ThirdWitnessLaw" 7 (tw_nm 170), .instanceMethod (tw_nm 170), .selects RX9 (tw_nm 170) (tw_nm 170), .initialized RX9, tw_cw 170, tw_x1, tw_x2] ++ (tw_exL ++ tw_cl.map (fun q => Cond.instantiable q.1 q.2.2))
theorem tw_lw1_in : ∀ w ∈ tw_lw1, w ∈ lw_tbl := by
  have h : tw_lw1.all (fun w => decide (w ∈ lw_tbl)) = true := by decide +kernel
  exact fun w hw => of_decide_eq_true (List.all_eq_true.mp h w hw)
def tw_fl1 : List Cond := [.isRef (.static Bundle.tN "UNASSIGNED_STACK" Bundle.steD), .isRef (.static Bundle.tN "SUPPRESSED_SENTINEL" Bundle.listD), .eq (.static "java/lang/String" "COMPACT_STRINGS" "Z") (.int 1), .isRef (.static "jdk/internal/util/Preconditions" "SIOOBE_FORMATTE\x52" "Ljava/util/function/BiFunction;"), .exactly (.string RX9 356) "java/lang/String"]
theorem tw_fl1_in : ∀ w ∈ tw_fl1, w ∈ tw_FL := by
  have h : tw_fl1.all (fun w => decide (w ∈ tw_FL)) = true := by decide +kernel
  exact fun w hw => of_decide_eq_true (List.all_eq_true.mp h w hw)
theorem tw_strD : (List.range 19).all (fun i => (List.range 19).all (fun j => decide (i = j) || decide (Int32.ofNat ((tw_byt.map List.length).getD i 0) ≠ Int32.ofNat ((tw_byt.map List.length).getD j 0)) || (List.range ((tw_byt.map List.length).getD i 0)).any (fun k => decide (k < (tw_byt.map List.length).getD j 0) && decide ((tw_byt.getD i []).getD k 0 ≠ (tw_byt.getD j []).getD k 0)))) = true := by decide +kernel
section
variable {args : Array Value} {s : State}
theorem tw_ev_field {t u : Term} {c n d : String} (h : t.eval args s none [] s = u.eval args s none [] s) : (Term.field t c n d).eval args s none [] s = (Term.field u c n d).eval args s none [] s := by
  simp only [Term.eval, h]
theorem tw_ev_length {t u : Term} (h : t.eval args s none [] s = u.eval args s none [] s) : (Term.length t).eval args s none [] s = (Term.length u).eval args s none [] s := by
  simp only [Term.eval, h]
theorem tw_ev_elem {t u : Term} {i : Term} (h : t.eval args s none [] s = u.eval args s none [] s) : (Term.elem t i).eval args s none [] s = (Term.elem u i).eval args s none [] s := by
  simp only [Term.eval, h]
theorem tw_neq {t u : Term} {a b : Nat} (ht : t.eval args s none [] s = some (.ref a)) (hu : u.eval args s none [] s = some (.ref b)) (hab : a ≠ b) : (Cond.not (Cond.eq t u)).before args s = true := by
  simp [Cond.before, Cond.holds, Cond.value, ht, hu, hab]
theorem tw_Sof (hG : ∀ w ∈ tw_FL, w.before args s = true) {A : Nat → Prop} (hA : ∀ a : Nat, a < s.heap.size → ¬ A a) : ∃ adK adV : Nat → Nat, vk_S 19 (tw_byt.map List.length) tw_byt adK adV A s s.heap ∧ ∀ i : Nat, i < 19 → (tw_tm i).eval args s none [] s = some (.ref (adK i)) := by
  have h1 : ∀ i : Nat, i < 19 → (Cond.exactly (tw_tm i) "java/lang/String").before args s = true := fun i hi => hG _ (tw_gv_in i hi _ (by simp [tw_gv1]))
  have h2 : ∀ i : Nat, i < 19 → (Cond.eq (.field (tw_tm i) "java/lang/String" "coder" "B") (.int 0)).before args s = true := fun i hi => hG _ (tw_gv_in i hi _ (by simp [tw_gv1]))
  have h3 : ∀ i : Nat, i < 19 → (Cond.arrayOf (tw_vt i) .byte).before args s = true := fun i hi => hG _ (tw_gv_in i hi _ (by simp [tw_gv1]))
  have h4 : ∀ i : Nat, i < 19 → (Cond.eq (.length (tw_vt i)) (.int (Int32.ofNat ((tw_byt.map List.length).getD i 0)))).before args s = true := fun i hi => hG _ (tw_gv_in i hi _ (List.mem_append_left _ (List.mem_cons_of_mem _ (List.mem_cons_of_mem _ (List.mem_cons_of_mem _ List.mem_cons_self)))))
  have h5 : ∀ i : Nat, i < 19 → ∀ j : Nat, j < (tw_byt.map List.length).getD i 0 → (Cond.eq (.elem (tw_vt i) (.int (Int32.ofNat j))) (.int ((tw_byt.getD i []).getD j 0))).before args s = true := fun i hi j hj => hG _ (tw_gv_in i hi _ (List.mem_append_right _ (List.mem_map.mpr ⟨j, List.mem_range.mpr hj, rfl⟩)))
  refine vk_Sof (tm := tw_tm) (len := tw_byt.map List.length) (byt := tw_byt) ?_ h1 h2 h3 h4 h5 ?_ hA
  · intro i hi
    exact of_decide_eq_true (List.all_eq_true.mp (show (List.range 19).all (fun i => decide ((tw_byt.map List.length).getD i 0 < 2 ^ 31)) = true by decide +kernel) i (List.mem_range.mpr hi))
  · intro i j hi hj hij
    obtain ⟨a, c, cA, kA, q1, -⟩ := Cond.exactly_spec (args := args) (first := s) (o := none) (s := s) (idx := []) (t := tw_tm i) (cls := "java/lang/String") (h1 i hi)
    obtain ⟨b, c2, cA2, kA2, p1, -⟩ := Cond.exactly_spec (args := args) (first := s) (o := none) (s := s) (idx := []) (t := tw_tm j) (cls := "java/lang/String") (h1 j hj)
    refine Or.inl (tw_neq q1 p1 (fun e => ?_))
    subst e
    have hv : (tw_vt i).eval args s none [] s = (tw_vt j).eval args s none [] s := tw_ev_field (q1.trans p1.symm)
    have hD := List.all_eq_true.mp (List.all_eq_true.mp tw_strD i (List.mem_range.mpr hi)) j (List.mem_range.mpr hj)
    simp only [Bool.or_eq_true, decide_eq_true_eq, List.any_eq_true, Bool.and_eq_true] at hD
    rcases hD with (hD | hD) | ⟨k, hk, hk2, hk3⟩
    · exact hij hD
    · have e1 := (va_eqt (h4 i hi)).symm.trans ((tw_ev_length hv).trans (va_eqt (h4 j hj)))
      injection e1 with e1
      injection e1 with e1
      exact hD e1
    · have e1 := (va_eqt (h5 i hi k (List.mem_range.mp hk))).symm.trans ((tw_ev_elem hv).trans (va_eqt (h5 j hj k hk2)))
      injection e1 with e1
      injection e1 with e1
      exact hk3 e1
theorem tw_Fof (hts : ∀ w ∈ lw_tbl, w.before args s = true) (hG : ∀ w ∈ tw_FL, w.before args s = true) {b L : Nat} {xs : Nat → Int32} (hX : va_X b L xs s s.heap) (hb : b < s.heap.size) : ∃ adK adV : Nat → Nat, tw_F s.heap.size b L xs adK adV s := by
  have hA : ∀ a : Nat, a < s.heap.size → ¬ tw_A s.heap.size a := fun a h1 h2 => absurd h1 (Nat.not_lt.mpr h2)
  have h1 : ∀ w ∈ tw_lw1, w.before args s = true := fun w hw => hts w (tw_lw1_in w hw)
  have h2 : ∀ w ∈ tw_fl1, w.before args s = true := fun w hw => hG w (tw_fl1_in w hw)
  obtain ⟨adK, adV, hS, hev⟩ := tw_Sof hG hA
  refine ⟨adK, adV, hS, fun q hq => ?_, ?_, ?_, hX, hb, Nat.le_refl _, ?_, ?_⟩
  · obtain ⟨e1, e2, e3⟩ := tw_st_in q hq
    refine vk_R.of (hts _ e1) ?_
    rcases e3 with ⟨e3, e4⟩ | e3
    · have h9 := hev q.2.2 e2
      unfold tw_tm at h9
      rw [e4] at h9
      rw [e3]
      exact h9
    · obtain ⟨y, y1, y2⟩ := Cond.eq_one (args := args) (first := s) (o := none) (s := s) (idx := []) (hG _ e3)
      rw [y2, ← y1]
      exact hev q.2.2 e2
  · exact va_Zof (h1 _ (by simp [tw_lw1])) (h1 _ (by simp [tw_lw1])) (va_eqt (h2 _ (by simp [tw_fl1]))) hA
  · exact va_Zqof (h1 _ (by simp [tw_lw1])) (h1 _ (by simp [tw_lw1])) (h2 _ (by simp [tw_fl1])) hA
  · exact va_Nw.of rfl (h1 _ (by simp [tw_lw1]))
  · exact va_Nw.of rfl (h1 _ (by simp [tw_lw1]))
theorem tw_Kof (hts : ∀ w ∈ lw_tbl, w.before args s = true) : ∃ (dC : Nat → ClassId) (dI : Nat → Nat → Nat) (cy : tw_Y), va_K (dC, dI) tw_cl (tw_ty3 cy) s := by
  have h1 : ∀ w ∈ tw_lw1, w.before args s = true := fun w hw => hts w (tw_lw1_in w hw)
  have hW : ∀ w ∈ tw_WALL, w.before args s = true := fun w hw => hts w (tw_WALL_in w hw).1
  have h0 : ∀ c : Nat, ∃ q : ClassId × (Nat → Nat), c < 10 → u_Kn s (tw_cg c).1 (tw_cg c).2.1 (tw_cg c).2.2 q.1 q.2 := by
    intro c
    by_cases hc : c < 10
    · obtain ⟨cC, iS, h⟩ := u_known (C := (tw_cg c).1) (T := (tw_cg c).2.1) (N := (tw_cg c).2.2) (n := (tw_cg c).2.2) hW (tw_in_cl hc) (h1 _ (List.mem_append_right _ (List.mem_append_right _ (List.mem_map.mpr ⟨tw_cg c, List.mem_of_getElem? (tw_cl_at hc), rfl⟩))))
      exact ⟨(cC, iS), fun _ => h⟩
    · exact ⟨((0 : Nat), fun _ => 0), fun h => absurd h hc⟩
  obtain ⟨f, hf⟩ := Classical.axiomOfChoice h0
  obtain ⟨cB, kB, compB, b1, b2, b3⟩ := Cond.arrayClass_spec (args := args) (first := s) (o := none) (s := s) (idx := []) (type := .byte) (h1 _ (by simp [tw_lw1]))
  obtain ⟨cI, kI, compI, i1, i2, i3⟩ := Cond.arrayClass_spec (args := args) (first := s) (o := none) (s := s) (idx := []) (type := .int) (h1 _ (by simp [tw_lw1]))
  obtain ⟨cJ, kJ, compJ, j1, j2, j3⟩ := Cond.arrayClass_spec (args := args) (first := s) (o := none) (s := s) (idx := []) (type := .long) (h1 _ (by simp [tw_lw1]))
  refine ⟨fun c => (f c).1, fun c => (f c).2, (cB, cI, cJ), fun c q hq => ?_, fun k q hq => ?_⟩
  · have hc : c < 10 := by
      have h9 := (List.getElem?_eq_some_iff.mp hq).1
      rwa [show tw_cl.length = 10 by decide +kernel] at h9
    rw [tw_cl_at hc] at hq
    cases hq
    exact hf c hc
  · match k, hq with
    | 0, hq => cases hq; exact ⟨fun n z => ⟨fun k h => (by cases h), kB, b2, compB, b3⟩, b1⟩
    | 1, hq => cases hq; exact ⟨fun n z => ⟨fun k h => (by cases h), kI, i2, compI, i3⟩, i1⟩
    | 2, hq => cases hq; exact ⟨fun n z => ⟨fun k h => (by cases h), kJ, j2, compJ, j3⟩, j1⟩
    | k + 3, hq => cases hq
end
