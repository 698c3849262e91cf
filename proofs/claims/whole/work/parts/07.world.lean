/-! the machine's worlds as cells of the heap -/
def tw_cv (ad : Nat → Nat) (v : Value) : Value := match v with
  | .ref k => .ref (ad k)
  | v => v
abbrev tw_Y : Type := ClassId × ClassId × ClassId
def tw_fl (ad : Nat → Nat) (σ : tw_S) (k : Nat) : List Value := (List.range (tw_sh k).2).map (fun j => tw_cv ad (tw_fv σ k j (tw_tc (tw_sh k).1 j)))
def tw_cell (cy : tw_Y) (ad : Nat → Nat) (σ : tw_S) (k : Nat) : va_E :=
  if (tw_sh k).1 = 10 then .inl (cy.1, (tw_sh k).2, .inl (σ.2.2.2.1 k))
  else if (tw_sh k).1 = 11 then .inl (cy.2.1, (tw_sh k).2, .inl (σ.2.2.2.1 k))
  else if (tw_sh k).1 = 12 then .inl (cy.2.2, (tw_sh k).2, .inr (.inl (σ.2.2.2.2.1 k)))
  else .inr ((tw_sh k).1, tw_fl ad σ k)
def tw_w (cy : tw_Y) (ad : Nat → Nat) (σ : tw_S) : va_W := (List.range σ.2.2.2.2.2).map (fun k => (ad k, tw_cell cy ad σ k))
def tw_ty3 (cy : tw_Y) : List (ClassId × FieldType) := [(cy.1, .byte), (cy.2.1, .int), (cy.2.2, .long)]
theorem tw_w_len (cy : tw_Y) (ad : Nat → Nat) (σ : tw_S) : (tw_w cy ad σ).length = σ.2.2.2.2.2 := by simp [tw_w]
theorem tw_w_get {cy : tw_Y} {ad : Nat → Nat} {σ : tw_S} {k : Nat} (h : k < σ.2.2.2.2.2) : (tw_w cy ad σ)[k]? = some (ad k, tw_cell cy ad σ k) := by
  unfold tw_w
  rw [List.getElem?_map, List.getElem?_range h]
  rfl
theorem tw_w_no {cy : tw_Y} {ad : Nat → Nat} {σ : tw_S} {k : Nat} (h : ¬ k < σ.2.2.2.2.2) : (tw_w cy ad σ)[k]? = none := by
  rw [List.getElem?_eq_none]
  rw [tw_w_len]
  omega
theorem tw_w_set {cy : tw_Y} {ad : Nat → Nat} {σ σ' : tw_S} {k : Nat} {e : va_E} (hk : k < σ.2.2.2.2.2) (hn : σ'.2.2.2.2.2 = σ.2.2.2.2.2) (ho : ∀ j, j ≠ k → tw_cell cy ad σ' j = tw_cell cy ad σ j) (he : tw_cell cy ad σ' k = e) : (tw_w cy ad σ).set k (ad k, e) = tw_w cy ad σ' := by
  apply List.ext_getElem?
  intro j
  by_cases hj : j < σ.2.2.2.2.2
  · by_cases hjk : j = k
    · subst hjk
      rw [List.getElem?_set_self (by rw [tw_w_len]; exact hj), tw_w_get (by rw [hn]; exact hj), he]
    · rw [List.getElem?_set_ne (Ne.symm hjk), tw_w_get hj, tw_w_get (by rw [hn]; exact hj), ho j hjk]
  · rw [List.getElem?_eq_none (by rw [List.length_set, tw_w_len]; omega), tw_w_no (by rw [hn]; exact hj)]
theorem tw_w_push {cy : tw_Y} {ad ad' : Nat → Nat} {σ σ' : tw_S} {q : Nat} {e : va_E} (hn : σ'.2.2.2.2.2 = σ.2.2.2.2.2 + 1) (ho : ∀ j, j < σ.2.2.2.2.2 → ad' j = ad j ∧ tw_cell cy ad' σ' j = tw_cell cy ad σ j) (hq : ad' σ.2.2.2.2.2 = q) (he : tw_cell cy ad' σ' σ.2.2.2.2.2 = e) : tw_w cy ad σ ++ [(q, e)] = tw_w cy ad' σ' := by
  unfold tw_w
  rw [hn, List.range_succ, List.map_append]
  congr 1
  · apply List.map_congr_left
    intro j hj
    have h := ho j (List.mem_range.mp hj)
    rw [h.1, h.2]
  · simp [hq, he]
theorem tw_shB : (List.range 57).all (fun k => decide ((tw_sh k).1 < 10 → (tw_cg (tw_sh k).1).2.2 = (tw_sh k).2 ∧ (tw_sh k).2 < 100)) = true := by decide +kernel
theorem tw_sh57 {k : Nat} (h : ¬ k < 57) : tw_sh k = (99, 0) := by
  unfold tw_sh
  have hl : tw_shl.length = 57 := by decide +kernel
  rw [List.getD_eq_getElem?_getD, List.getElem?_eq_none (by omega)]
  rfl
theorem tw_sh_ok {k : Nat} (h : (tw_sh k).1 < 10) : (tw_cg (tw_sh k).1).2.2 = (tw_sh k).2 ∧ (tw_sh k).2 < 100 ∧ k < 57 := by
  by_cases hk : k < 57
  · have h1 := List.all_eq_true.mp tw_shB k (List.mem_range.mpr hk)
    have h2 := of_decide_eq_true h1 h
    exact ⟨h2.1, h2.2, hk⟩
  · rw [tw_sh57 hk] at h
    exact absurd h (by decide)
theorem tw_sh_lt {k : Nat} (h : (tw_sh k).1 ≤ 12) : k < 57 := by
  by_cases hk : k < 57
  · exact hk
  · rw [tw_sh57 hk] at h
    exact absurd h (by decide)
theorem tw_cl_at {a : Nat} (h : a < 10) : tw_cl[a]? = some (tw_cg a) := by
  rcases (by omega : a = 0 ∨ a = 1 ∨ a = 2 ∨ a = 3 ∨ a = 4 ∨ a = 5 ∨ a = 6 ∨ a = 7 ∨ a = 8 ∨ a = 9) with h | h | h | h | h | h | h | h | h | h <;> subst h <;> rfl
theorem tw_cl_ty {a : Nat} (h : a < 10) : ∀ k, k < (tw_cg a).2.2 → parseFieldDescriptor ((tw_cg a).2.1 k).2.2.1 = some (tw_tyo a k) := by
  rcases (by omega : a = 0 ∨ a = 1 ∨ a = 2 ∨ a = 3 ∨ a = 4 ∨ a = 5 ∨ a = 6 ∨ a = 7 ∨ a = 8 ∨ a = 9) with h | h | h | h | h | h | h | h | h | h <;> subst h
  · exact tyX0_ok
  · exact tyX1_ok
  · exact tyX2_ok
  · exact tyX3_ok
  · exact tyX4_ok
  · exact tyX6_ok
  · exact tyX7_ok
  · exact tyX8_ok
  · exact tyX9_ok
  · exact tyX10_ok
theorem tw_cl_nm {a : Nat} (h : a < 10) : ∀ i, i < (tw_cg a).2.2 → ∀ j, j < (tw_cg a).2.2 → i ≠ j → ((tw_cg a).2.1 i).2.1 ≠ ((tw_cg a).2.1 j).2.1 := by
  rcases (by omega : a = 0 ∨ a = 1 ∨ a = 2 ∨ a = 3 ∨ a = 4 ∨ a = 5 ∨ a = 6 ∨ a = 7 ∨ a = 8 ∨ a = 9) with h | h | h | h | h | h | h | h | h | h <;> subst h
  · exact nmX0
  · exact nmX1
  · exact nmX2
  · exact nmX3
  · exact nmX4
  · exact nmX6
  · exact nmX7
  · exact nmX8
  · exact nmX9
  · exact nmX10
theorem tw_dfB : (List.range 10).all (fun a => (List.range (tw_cg a).2.2).all (fun j => decide (defaultValue (tw_tyo a j) = tw_fv (fun _ => 0, fun _ => 0, fun _ _ => 0, fun _ _ => 0, fun _ _ => 0, 0) 0 j (tw_tc a j)))) = true := by decide +kernel
theorem tw_fl_get {ad : Nat → Nat} {σ : tw_S} {k b : Nat} (hb : b < (tw_sh k).2) : (tw_fl ad σ k)[b]? = some (tw_cv ad (tw_fv σ k b (tw_tc (tw_sh k).1 b))) := by
  unfold tw_fl
  rw [List.getElem?_map, List.getElem?_range hb]
  rfl
theorem tw_fl_len {ad : Nat → Nat} {σ : tw_S} {k : Nat} : (tw_fl ad σ k).length = (tw_sh k).2 := by simp [tw_fl]
theorem tw_cell_obj {cy : tw_Y} {ad : Nat → Nat} {σ : tw_S} {k : Nat} (h : (tw_sh k).1 < 10) : tw_cell cy ad σ k = .inr ((tw_sh k).1, tw_fl ad σ k) := by
  unfold tw_cell
  rw [if_neg (by omega), if_neg (by omega), if_neg (by omega)]
theorem tw_cell_10 {cy : tw_Y} {ad : Nat → Nat} {σ : tw_S} {k : Nat} (h : (tw_sh k).1 = 10) : tw_cell cy ad σ k = .inl (cy.1, (tw_sh k).2, .inl (σ.2.2.2.1 k)) := by
  unfold tw_cell
  rw [if_pos h]
theorem tw_cell_11 {cy : tw_Y} {ad : Nat → Nat} {σ : tw_S} {k : Nat} (h : (tw_sh k).1 = 11) : tw_cell cy ad σ k = .inl (cy.2.1, (tw_sh k).2, .inl (σ.2.2.2.1 k)) := by
  unfold tw_cell
  rw [if_neg (by omega), if_pos h]
theorem tw_cell_12 {cy : tw_Y} {ad : Nat → Nat} {σ : tw_S} {k : Nat} (h : (tw_sh k).1 = 12) : tw_cell cy ad σ k = .inl (cy.2.2, (tw_sh k).2, .inr (.inl (σ.2.2.2.2.1 k))) := by
  unfold tw_cell
  rw [if_neg (by omega), if_neg (by omega), if_pos h]
/-- a cell is the same where what it reads is -/
theorem tw_cell_same {cy : tw_Y} {ad ad' : Nat → Nat} {σ σ' : tw_S} {j : Nat} (h1 : (tw_sh j).1 < 10 → tw_fl ad' σ' j = tw_fl ad σ j) (h2 : (tw_sh j).1 = 10 ∨ (tw_sh j).1 = 11 → σ'.2.2.2.1 j = σ.2.2.2.1 j) (h3 : (tw_sh j).1 = 12 → σ'.2.2.2.2.1 j = σ.2.2.2.2.1 j) (h4 : j < 57) : tw_cell cy ad' σ' j = tw_cell cy ad σ j := by
  have hb : (List.range 57).all (fun k => decide ((tw_sh k).1 ≤ 12)) = true := by decide +kernel
  have hle : (tw_sh j).1 ≤ 12 := of_decide_eq_true (List.all_eq_true.mp hb j (List.mem_range.mpr h4))
  by_cases a : (tw_sh j).1 < 10
  · rw [tw_cell_obj a, tw_cell_obj a, h1 a]
  · by_cases b : (tw_sh j).1 = 10
    · rw [tw_cell_10 b, tw_cell_10 b, h2 (Or.inl b)]
    · by_cases c : (tw_sh j).1 = 11
      · rw [tw_cell_11 c, tw_cell_11 c, h2 (Or.inr c)]
      · have d : (tw_sh j).1 = 12 := by omega
        rw [tw_cell_12 d, tw_cell_12 d, h3 d]
theorem tw_fl_same {ad ad' : Nat → Nat} {σ σ' : tw_S} {j : Nat} (h : ∀ b, b < (tw_sh j).2 → tw_cv ad' (tw_fv σ' j b (tw_tc (tw_sh j).1 b)) = tw_cv ad (tw_fv σ j b (tw_tc (tw_sh j).1 b))) : tw_fl ad' σ' j = tw_fl ad σ j := by
  unfold tw_fl
  apply List.map_congr_left
  intro b hb
  exact h b (List.mem_range.mp hb)
/-- the locals as a list of places and values -/
def tw_lvF (ad : Nat → Nat) : Nat → tw_Ls → List (Nat × Value)
  | _, [] => []
  | i, none :: r => tw_lvF ad (i + 1) r
  | i, some v :: r => (i, tw_cv ad v) :: tw_lvF ad (i + 1) r
theorem tw_lv_mem {ad : Nat → Nat} : ∀ (l : tw_Ls) (i : Nat) (q : Nat × Value), q ∈ tw_lvF ad i l ↔ ∃ j v, l[j]? = some (some v) ∧ q = (i + j, tw_cv ad v)
  | [], i, q => by simp [tw_lvF]
  | none :: r, i, q => by
    rw [tw_lvF, tw_lv_mem r (i + 1) q]
    constructor
    · rintro ⟨j, v, h1, h2⟩
      exact ⟨j + 1, v, by simpa using h1, by rw [h2]; congr 1; omega⟩
    · rintro ⟨j, v, h1, h2⟩
      cases j with
      | zero => simp at h1
      | succ j => exact ⟨j, v, by simpa using h1, by rw [h2]; congr 1; omega⟩
  | some w :: r, i, q => by
    rw [tw_lvF, List.mem_cons, tw_lv_mem r (i + 1) q]
    constructor
    · rintro (h | ⟨j, v, h1, h2⟩)
      · exact ⟨0, w, by simp, by rw [h]; rfl⟩
      · exact ⟨j + 1, v, by simpa using h1, by rw [h2]; congr 1; omega⟩
    · rintro ⟨j, v, h1, h2⟩
      cases j with
      | zero =>
        simp at h1
        subst h1
        exact Or.inl (by rw [h2]; rfl)
      | succ j => exact Or.inr ⟨j, v, by simpa using h1, by rw [h2]; congr 1; omega⟩
theorem tw_lv_sub {ls : Array Slot} {n : Nat} {l l' : List (Nat × Value)} (h : lv_has ls n l) (hs : ∀ q ∈ l', q ∈ l) : lv_has ls n l' := ⟨h.1, h.2.1, fun q hq => h.2.2 q (hs q hq)⟩
theorem tw_cv_cat (ad : Nat → Nat) (v : Value) : (tw_cv ad v).category = v.category := by cases v <;> rfl
theorem tw_get_some {l : tw_Ls} {i : Nat} {v : Value} (h : tw_get l i = some v) : l[i]? = some (some v) := by
  unfold tw_get at h
  split at h
  · next w hw => rw [hw]; exact congrArg some h
  · cases h
theorem tw_lv_at {ls : Array Slot} {n i : Nat} {ad : Nat → Nat} {l : tw_Ls} {v : Value} (h : lv_has ls n (tw_lvF ad 0 l)) (hv : tw_get l i = some v) : ls[i]? = some (.val (tw_cv ad v)) :=
  h.2.2 (i, tw_cv ad v) ((tw_lv_mem l 0 _).mpr ⟨i, v, tw_get_some hv, by simp⟩)
theorem tw_clr_get {l : tw_Ls} {i j : Nat} {v : Value} (h : (tw_clr l i)[j]? = some (some v)) : l[j]? = some (some v) ∧ ¬ (j + 1 = i ∧ v.category = 2) := by
  unfold tw_clr at h
  cases i with
  | zero => exact ⟨h, by omega⟩
  | succ i =>
    dsimp only at h
    split at h
    · next w hw =>
      split at h
      · next hc =>
        by_cases hj : j = i
        · subst hj
          rw [List.getElem?_set_self (List.getElem?_eq_some_iff.mp hw).1] at h
          cases h
        · rw [List.getElem?_set_ne (Ne.symm hj)] at h
          exact ⟨h, by omega⟩
      · next hc =>
        refine ⟨h, ?_⟩
        rintro ⟨e, c⟩
        have : j = i := by omega
        subst this
        rw [hw] at h
        cases h
        exact hc c
    · next hw =>
      refine ⟨h, ?_⟩
      rintro ⟨e, c⟩
      have : j = i := by omega
      subst this
      exact hw v h
theorem tw_clr_len (l : tw_Ls) (i : Nat) : (tw_clr l i).length = l.length := by
  unfold tw_clr
  cases i with
  | zero => rfl
  | succ i =>
    dsimp only
    split
    · split
      · simp
      · rfl
    · rfl
theorem tw_set1_some {l l' : tw_Ls} {i : Nat} {v : Value} (h : tw_set1 l i v = some l') : i < l.length ∧ l' = (tw_clr l i).set i (some v) := by
  unfold tw_set1 at h
  split at h
  · next hi => exact ⟨hi, (Option.some.inj h).symm⟩
  · cases h
theorem tw_set2_some {l l' : tw_Ls} {i : Nat} {v : Value} (h : tw_set2 l i v = some l') : i + 1 < l.length ∧ l' = ((tw_clr l i).set i (some v)).set (i + 1) none := by
  unfold tw_set2 at h
  split at h
  · next hi => exact ⟨hi, (Option.some.inj h).symm⟩
  · cases h
theorem tw_set1_len {l l' : tw_Ls} {i : Nat} {v : Value} (h : tw_set1 l i v = some l') : l'.length = l.length := by
  rw [(tw_set1_some h).2, List.length_set, tw_clr_len]
theorem tw_set2_len {l l' : tw_Ls} {i : Nat} {v : Value} (h : tw_set2 l i v = some l') : l'.length = l.length := by
  rw [(tw_set2_some h).2, List.length_set, List.length_set, tw_clr_len]
theorem tw_lv_set1 {ls : Array Slot} {n i : Nat} {ad : Nat → Nat} {l l' : tw_Ls} {v : Value} (h : lv_has ls n ((i, tw_cv ad v) :: (tw_lvF ad 0 l).filter (fun q => !(q.1 == i) && !(q.1 + 1 == i && q.2.category == 2)))) (hs : tw_set1 l i v = some l') : lv_has ls n (tw_lvF ad 0 l') := by
  obtain ⟨hi, rfl⟩ := tw_set1_some hs
  refine tw_lv_sub h fun q hq => ?_
  obtain ⟨j, w, h1, h2⟩ := (tw_lv_mem _ 0 q).mp hq
  by_cases hj : j = i
  · subst hj
    rw [List.getElem?_set_self (by rw [tw_clr_len]; exact hi)] at h1
    cases h1
    rw [h2]
    simp
  · rw [List.getElem?_set_ne (Ne.symm hj)] at h1
    obtain ⟨g1, g2⟩ := tw_clr_get h1
    refine List.mem_cons_of_mem _ (List.mem_filter.mpr ⟨(tw_lv_mem l 0 q).mpr ⟨j, w, g1, h2⟩, ?_⟩)
    rw [h2]
    simp only [Nat.zero_add, tw_cv_cat]
    simp only [Bool.and_eq_true, Bool.not_eq_true', beq_eq_false_iff_ne, ne_eq, Bool.and_eq_false_iff]
    refine ⟨hj, ?_⟩
    by_cases he : j + 1 = i
    · exact Or.inr (fun c => g2 ⟨he, c⟩)
    · exact Or.inl he
theorem tw_lv_set2 {ls : Array Slot} {n i : Nat} {ad : Nat → Nat} {l l' : tw_Ls} {v : Value} (h : lv_has ls n ((i, tw_cv ad v) :: (tw_lvF ad 0 l).filter (fun q => !(q.1 == i) && (!(q.1 == i + 1) && !(q.1 + 1 == i && q.2.category == 2))))) (hs : tw_set2 l i v = some l') : lv_has ls n (tw_lvF ad 0 l') := by
  obtain ⟨hi, rfl⟩ := tw_set2_some hs
  refine tw_lv_sub h fun q hq => ?_
  obtain ⟨j, w, h1, h2⟩ := (tw_lv_mem _ 0 q).mp hq
  by_cases hj1 : j = i + 1
  · subst hj1
    rw [List.getElem?_set_self (by rw [List.length_set, tw_clr_len]; exact hi)] at h1
    cases h1
  · rw [List.getElem?_set_ne (Ne.symm hj1)] at h1
    by_cases hj : j = i
    · subst hj
      rw [List.getElem?_set_self (by rw [tw_clr_len]; omega)] at h1
      cases h1
      rw [h2]
      simp
    · rw [List.getElem?_set_ne (Ne.symm hj)] at h1
      obtain ⟨g1, g2⟩ := tw_clr_get h1
      refine List.mem_cons_of_mem _ (List.mem_filter.mpr ⟨(tw_lv_mem l 0 q).mpr ⟨j, w, g1, h2⟩, ?_⟩)
      rw [h2]
      simp only [Nat.zero_add, tw_cv_cat]
      simp only [Bool.and_eq_true, Bool.not_eq_true', beq_eq_false_iff_ne, ne_eq, Bool.and_eq_false_iff]
      refine ⟨hj, hj1, ?_⟩
      by_cases he : j + 1 = i
      · exact Or.inr (fun c => g2 ⟨he, c⟩)
      · exact Or.inl he
