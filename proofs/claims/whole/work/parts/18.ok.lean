theorem tw_cpo : ∀ y, y < 323 → tw_cw y ∈ lw_tbl := by
  intro y hy
  have key : ∀ a n, (List.range' a n).all (fun y => decide (lw_tbl[tw_cps.getD y 0]? = some (tw_cw y))) = true → a ≤ y → y < a + n → tw_cw y ∈ lw_tbl := fun a n h h1 h2 => List.mem_of_getElem? (of_decide_eq_true (List.all_eq_true.mp h y (List.mem_range'_1.mpr ⟨h1, h2⟩)))
  by_cases h0 : y < 25
  · exact key 0 25 tw_cpo_0 (by omega) h0
  by_cases h25 : y < 50
  · exact key 25 25 tw_cpo_25 (by omega) h25
  by_cases h50 : y < 75
  · exact key 50 25 tw_cpo_50 (by omega) h50
  by_cases h75 : y < 100
  · exact key 75 25 tw_cpo_75 (by omega) h75
  by_cases h100 : y < 125
  · exact key 100 25 tw_cpo_100 (by omega) h100
  by_cases h125 : y < 150
  · exact key 125 25 tw_cpo_125 (by omega) h125
  by_cases h150 : y < 175
  · exact key 150 25 tw_cpo_150 (by omega) h150
  by_cases h175 : y < 200
  · exact key 175 25 tw_cpo_175 (by omega) h175
  by_cases h200 : y < 225
  · exact key 200 25 tw_cpo_200 (by omega) h200
  by_cases h225 : y < 250
  · exact key 225 25 tw_cpo_225 (by omega) h225
  by_cases h250 : y < 275
  · exact key 250 25 tw_cpo_250 (by omega) h250
  by_cases h275 : y < 300
  · exact key 275 25 tw_cpo_275 (by omega) h275
  by_cases h300 : y < 323
  · exact key 300 23 tw_cpo_300 (by omega) h300
  exact absurd hy (by omega)
theorem tw_mo : ∀ y, y < 324 → tw_mok y = true := by
  intro y hy
  have key : ∀ a n, (List.range' a n).all tw_mok = true → a ≤ y → y < a + n → tw_mok y = true := fun a n h h1 h2 => List.all_eq_true.mp h y (List.mem_range'_1.mpr ⟨h1, h2⟩)
  by_cases h0 : y < 25
  · exact key 0 25 tw_mo_0 (by omega) h0
  by_cases h25 : y < 50
  · exact key 25 25 tw_mo_25 (by omega) h25
  by_cases h50 : y < 75
  · exact key 50 25 tw_mo_50 (by omega) h50
  by_cases h75 : y < 100
  · exact key 75 25 tw_mo_75 (by omega) h75
  by_cases h100 : y < 125
  · exact key 100 25 tw_mo_100 (by omega) h100
  by_cases h125 : y < 150
  · exact key 125 25 tw_mo_125 (by omega) h125
  by_cases h150 : y < 175
  · exact key 150 25 tw_mo_150 (by omega) h150
  by_cases h175 : y < 200
  · exact key 175 25 tw_mo_175 (by omega) h175
  by_cases h200 : y < 225
  · exact key 200 25 tw_mo_200 (by omega) h200
  by_cases h225 : y < 250
  · exact key 225 25 tw_mo_225 (by omega) h225
  by_cases h250 : y < 275
  · exact key 250 25 tw_mo_250 (by omega) h250
  by_cases h275 : y < 300
  · exact key 275 25 tw_mo_275 (by omega) h275
  by_cases h300 : y < 324
  · exact key 300 24 tw_mo_300 (by omega) h300
  exact absurd hy (by omega)
set_option maxRecDepth 100000 in
theorem tw_jdk_in : GoodIn lw_tbl tw_jdkW := goodIn_p _ [554, 558, 564, 568, 571, 574, 579] (by decide +kernel) (by decide +kernel)
set_option maxRecDepth 100000 in
theorem tw_cl_in : tw_clW.all tw_wok = true := by decide +kernel
set_option maxRecDepth 100000 in
theorem tw_obj_in : lw_tbl[149]? = some (Cond.code objectInit ⟨#[0xb1]⟩ 1 none) := by decide +kernel
set_option maxRecDepth 100000 in
theorem tw_abs_in : lw_tbl[948]? = some (Cond.code Lib.Math.abs.name Lib.Math.abs.code 1 (some .int)) := by decide +kernel
set_option maxRecDepth 100000 in
theorem tw_max_in : lw_tbl[1177]? = some (Cond.code Lib.Math.max.name Lib.Math.max.code 2 (some .int)) := by decide +kernel
theorem tw_ew_code {own : String} {e : tw_E} {w : Cond} (hw : w ∈ tw_ew own e) (hc : k2_isCode w = true) : (tw_call e = true ∧ w = tw_cw e.2.2.2.1) ∨ w = Cond.code objectInit ⟨#[0xb1]⟩ 1 none ∨ w = Cond.code Lib.Math.abs.name Lib.Math.abs.code 1 (some .int) ∨ w = Cond.code Lib.Math.max.name Lib.Math.max.code 2 (some .int) := by
  obtain ⟨pc, i, len, a, b, t, v, z⟩ := e
  unfold tw_ew at hw
  dsimp only at hw
  unfold tw_call
  dsimp only
  split at hw
  · simp at hw; subst hw; cases hc
  · simp at hw; subst hw; cases hc
  · split at hw
    · simp at hw
    · simp at hw; subst hw; cases hc
  · split at hw
    · simp at hw; subst hw; cases hc
    · simp at hw
  · simp at hw; subst hw; cases hc
  · split at hw
    · simp at hw
    · simp at hw; rcases hw with h | h | h <;> subst h <;> cases hc
  · simp at hw; subst hw; cases hc
  · split at hw
    · next ht =>
      simp at hw
      rcases hw with h | h | h | h
      · subst h; cases hc
      · subst h; cases hc
      · subst h; cases hc
      · exact Or.inl ⟨by simp [ht], h⟩
    · split at hw
      · simp at hw
        rcases hw with h | h | h | h
        · subst h; cases hc
        · subst h; cases hc
        · subst h; cases hc
        · exact Or.inr (Or.inr (Or.inl h))
      · split at hw
        · simp at hw
          rcases hw with h | h | h | h
          · subst h; cases hc
          · subst h; cases hc
          · subst h; cases hc
          · exact Or.inr (Or.inr (Or.inr h))
        · split at hw
          · simp at hw; rcases hw with h | h | h | h <;> subst h <;> cases hc
          · simp at hw
  · split at hw
    · next ht =>
      simp at hw
      rcases hw with h | h | h | h | h
      · subst h; cases hc
      · subst h; cases hc
      · subst h; cases hc
      · subst h; cases hc
      · exact Or.inl ⟨by simp [ht], h⟩
    · split at hw
      · simp at hw; subst hw; cases hc
      · split at hw
        · simp at hw; subst hw; cases hc
        · simp at hw
  · split at hw
    · simp at hw
      rcases hw with h | h | h
      · subst h; cases hc
      · subst h; cases hc
      · exact Or.inr (Or.inl h)
    · split at hw
      · next ht =>
        simp at hw
        rcases hw with h | h | h | h
        · subst h; cases hc
        · subst h; cases hc
        · subst h; cases hc
        · exact Or.inl ⟨by simp [ht], h⟩
      · split at hw
        · next ht =>
          simp at hw
          rcases hw with h | h | h
          · subst h; cases hc
          · subst h; cases hc
          · exact Or.inl ⟨by simp [ht], h⟩
        · simp at hw
  · simp at hw
theorem tw_goodcode (y : Nat) : goodWord (tw_cw y) = true := rfl
theorem tw_WALL_in : ∀ w ∈ tw_WALL, w ∈ lw_tbl ∧ goodWord w = true := by
  have hgw : ∀ w, (w ∈ lw_tbl ∧ ((w.onTables && w.keeps) = true ∨ ∃ ty, w = .arrayClass ty)) → w ∈ lw_tbl ∧ goodWord w = true := by
    rintro w ⟨h1, h2⟩
    refine ⟨h1, ?_⟩
    rcases h2 with h | ⟨ty, rfl⟩
    · cases w <;> first | rfl | exact h
    · rfl
  intro w hw
  unfold tw_WALL at hw
  rcases List.mem_append.mp hw with h | h
  · exact hgw w (tw_jdk_in w h)
  · rcases List.mem_append.mp h with h | h
    · have h1 := List.all_eq_true.mp tw_cl_in w h
      unfold tw_wok at h1
      rw [Bool.or_eq_true, Bool.and_eq_true, decide_eq_true_eq] at h1
      rcases h1 with h1 | h1
      · exfalso
        obtain ⟨q, hq, hw2⟩ := List.mem_flatMap.mp h
        obtain ⟨k, hk, rfl⟩ := List.mem_map.mp hw2
        unfold u_lay at h1
        split at h1 <;> cases h1
      · exact h1
    · obtain ⟨y, hy, h2⟩ := List.mem_flatMap.mp h
      obtain ⟨e, he, h3⟩ := List.mem_flatMap.mp h2
      have hm := List.all_eq_true.mp (tw_mo y (List.mem_range.mp hy)) e he
      rw [Bool.and_eq_true] at hm
      have h1 := List.all_eq_true.mp hm.1 w h3
      unfold tw_wok at h1
      rw [Bool.or_eq_true, Bool.and_eq_true, decide_eq_true_eq] at h1
      rcases h1 with h1 | h1
      · rcases tw_ew_code h3 h1 with ⟨hc, rfl⟩ | rfl | rfl | rfl
        · have hlt : e.2.2.2.1 < 323 := by
            have h4 := hm.2
            rw [hc] at h4
            simpa using h4
          exact ⟨tw_cpo _ hlt, tw_goodcode _⟩
        · exact ⟨List.mem_of_getElem? tw_obj_in, rfl⟩
        · exact ⟨List.mem_of_getElem? tw_abs_in, rfl⟩
        · exact ⟨List.mem_of_getElem? tw_max_in, rfl⟩
      · exact h1
theorem tw_ok : tw_OK := ⟨tw_allE, fun w hw => (tw_WALL_in w hw).2, tw_allP⟩
theorem tw_con : ∀ N, tw_Con N := tw_contract tw_ok (tw_jdk tw_ok)
