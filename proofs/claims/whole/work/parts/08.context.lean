/-! what a frame of a method stands on; what a world of the machine is in a heap -/
def tw_A (n0 : Nat) : Nat → Prop := fun q => n0 ≤ q
def tw_nest1 : Cond := .methodLinkNest RX9 15 yX8_init RX9
def tw_nest2 : Cond := .methodLinkNest RX9 34 yX0_init RX9
def tw_sl (k : Nat) : Nat := ((tw_shl.take k).map (fun q => q.2)).sum
/-- what stays as it was at the law's start: String constants, statics, the script -/
def tw_F (n0 b L : Nat) (xs : Nat → Int32) (adK adV : Nat → Nat) (U : State) : Prop :=
  vk_S 19 (tw_byt.map List.length) tw_byt adK adV (tw_A n0) U U.heap ∧ (∀ q ∈ tw_strs, vk_R q.1 q.2.1 (tw_txt.getD q.2.2 "") (adK q.2.2) U) ∧ va_Z "java/lang/String" "COMPACT_STRINGS" "Z" (.int 1) (tw_A n0) U U.heap ∧ va_Zq "jdk/internal/util/Preconditions" "SIOOBE_FORMATTE\x52" "Ljava/util/function/BiFunction;" (tw_A n0) U U.heap ∧ va_X b L xs U U.heap ∧ b < n0 ∧ n0 ≤ U.heap.size ∧ va_Nw tw_nest1 U ∧ va_Nw tw_nest2 U
theorem tw_F_next {n0 b L : Nat} {xs : Nat → Int32} {adK adV : Nat → Nat} {s U : State} {H : Heap} {locs : List Loc} (hF : tw_F n0 b L xs adK adV s) (hW : s.WarmedH U.vm) (hH : U.heap = H) (hS : va_S (tw_A n0) s.heap H locs) : tw_F n0 b L xs adK adV U := by
  obtain ⟨h1, h2, h3, h4, h5, h6, h7, h8, h9⟩ := hF
  subst hH
  have hk : ∀ a : Nat, a < s.heap.size → ¬ tw_A n0 a → U.heap[a]? = s.heap[a]? := fun a h1 h2 => hS.2.1 a h1 h2
  have hb : U.heap[b]? = s.heap[b]? := hk b (Nat.lt_of_lt_of_le h6 h7) (Nat.not_le.mpr h6)
  exact ⟨(h1.moved hW.alike).kept hk, fun q hq => (h2 q hq).warm hW, (h3.moved hW.alike).kept hk, (h4.moved hW.alike).kept hk, (h5.moved hW.alike).kept hb, h6, Nat.le_trans h7 hS.1, h8.warmM hW, h9.warmM hW⟩
def tw_Cx (p : Program) (R : Room) (s : State) (m : MethodId) (args : Array Value) (meth : Method) (c : Code) (y n0 b L : Nat) (xs : Nat → Int32) (adK adV : Nat → Nat) (dC : Nat → ClassId) (dI : Nat → Nat → Nat) (cy : tw_Y) : Prop :=
  p.tables.exec = Jvm.exec ∧ c.code = tw_by y ∧ c.maxLocals = tw_ml y ∧ s.vm.findClass (tw_nm y).cls = some m.cls ∧ (∀ w ∈ tw_WALL, w.before args s = true) ∧ tw_F n0 b L xs adK adV s ∧ va_K (dC, dI) tw_cl (tw_ty3 cy) s ∧ tw_fr y ≤ R.frames ∧ tw_lo y ≤ R.locals ∧ meth.name = (tw_nm y).name
def tw_Pu (b L : Nat) (xs : Nat → Int32) (adK : Nat → Nat) (ad : Nat → Nat) (σ : tw_S) : Prop :=
  ad 900 = b ∧ (∀ i, i < 19 → ad (1000 + i) = adK i) ∧ (∀ k, k < σ.2.2.2.2.2 → ∀ j, σ.2.2.1 k j ≤ σ.2.2.2.2.2) ∧ σ.1 90000 = nI L ∧ σ.2.2.2.1 900 = xs ∧ σ.2.2.2.2.2 ≤ 57 ∧ L < 2 ^ 31
def tw_Rp (s : State) (n0 b L : Nat) (xs : Nat → Int32) (adK : Nat → Nat) (dC : Nat → ClassId) (dI : Nat → Nat → Nat) (cy : tw_Y) (ad : Nat → Nat) (σ : tw_S) (H : Heap) (locs : List Loc) : Prop :=
  va_P (dC, dI) tw_cl (tw_w cy ad σ) H ∧ va_D (tw_A n0) (tw_w cy ad σ) ∧ va_S (tw_A n0) s.heap H locs ∧ tw_Pu b L xs adK ad σ
def tw_OK : Prop := (∀ y k e, (tw_code y)[k]? = some e → tw_okE y k e = true) ∧ (∀ w ∈ tw_WALL, goodWord w = true) ∧ ∀ y, y < tw_NM → plainName (tw_nm y).cls = true ∧ tw_pc y 0 = 0
theorem tw_code_no {y : Nat} (h : ¬ y < tw_NM) : tw_code y = [] := by
  have hl : tw_mtl.length = 324 := by decide +kernel
  unfold tw_code tw_mt
  rw [List.getD_eq_getElem?_getD, List.getElem?_eq_none (by unfold tw_NM at h; omega)]
  rfl
theorem tw_y_lt {y k : Nat} {e : tw_E} (h : (tw_code y)[k]? = some e) : y < tw_NM := by
  by_cases hy : y < tw_NM
  · exact hy
  · rw [tw_code_no hy] at h
    simp at h
theorem tw_in {y k : Nat} {e : tw_E} (h : (tw_code y)[k]? = some e) {w : Cond} (hw : w ∈ tw_ew (tw_nm y).cls e) : w ∈ tw_WALL := by
  unfold tw_WALL
  refine List.mem_append_right _ (List.mem_append_right _ (List.mem_flatMap.mpr ⟨y, List.mem_range.mpr (tw_y_lt h), ?_⟩))
  exact List.mem_flatMap.mpr ⟨e, List.mem_of_getElem? h, hw⟩
theorem tw_in_cl {a : Nat} (h : a < 10) : ∀ w ∈ u_ws (tw_cg a).1 (tw_cg a).2.1 (tw_cg a).2.2, w ∈ tw_WALL := by
  intro w hw
  unfold tw_WALL
  refine List.mem_append_right _ (List.mem_append_left _ (List.mem_flatMap.mpr ⟨tw_cg a, List.mem_of_getElem? (tw_cl_at h), hw⟩))
theorem tw_in_jdk {w : Cond} (h : w ∈ tw_jdkW) : w ∈ tw_WALL := List.mem_append_left _ h
