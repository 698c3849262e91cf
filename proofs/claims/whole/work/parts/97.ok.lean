/-! the classes' words; every word stands in the tables -/
def tw_clp : List Nat := [1194, 1196, 1198, 1200, 1202, 1204, 1206, 2024, 2026, 2028, 2030, 2032, 2034, 2036, 2038, 2040, 2042, 2070, 2072, 2074, 2076, 2053, 2055, 1151, 1153, 1155, 1157, 1159, 1161, 1163, 1165, 1167, 1169, 1171, 1173, 1226, 1228, 1230, 1232, 1234, 1121, 1123, 1125, 1127, 1129, 1131, 1133, 1073, 1075, 1077, 1079, 1081, 1083, 1085, 1087, 1089, 1091, 1093, 2092, 2094, 2096, 2098, 2100, 2102, 2104, 2106, 2108, 2110, 2112, 2114, 2116, 6128, 6130, 6132, 6134, 6136, 6138, 6140, 6142, 6144, 6146, 6148, 6150, 6152, 6154, 6156, 6158, 6160, 6162, 6164, 6166, 6168, 6170, 6172, 6174, 6176, 6178, 6180, 6182, 6184, 6186, 6188, 6190, 6192, 6194, 6196, 6198, 6200]
set_option maxRecDepth 100000 in
theorem tw_jdk_in : GoodIn lw_tbl tw_jdkW := goodIn_p _ [554, 558, 564, 568, 571, 574, 579] (by decide +kernel) (by decide +kernel)
set_option maxRecDepth 100000 in
theorem tw_cl_in : tw_wk tw_clW tw_clp = true := by decide +kernel
set_option maxRecDepth 100000 in
theorem tw_obj_in : Cond.code objectInit ⟨#[0xb1]⟩ 1 none ∈ lw_tbl := tw_inT1 (List.mem_of_getElem? (i := 31) rfl)
set_option maxRecDepth 100000 in
theorem tw_abs_in : Cond.code Lib.Math.abs.name Lib.Math.abs.code 1 (some .int) ∈ lw_tbl := tw_inT4 (List.mem_of_getElem? (i := 110) rfl)
set_option maxRecDepth 100000 in
theorem tw_max_in : Cond.code Lib.Math.max.name Lib.Math.max.code 2 (some .int) ∈ lw_tbl := tw_inT5 (List.mem_of_getElem? (i := 99) rfl)
theorem tw_ew_code {own : String} {e : tw_E} {w : Cond} (hw : w ∈ tw_ew own e) (hc : k2_isCode w = true) : (tw_call e = true ∧ w = tw_cw e.2.2.2.1) ∨ w = Cond.code objectInit ⟨#[0xb1]⟩ 1 none ∨ w = Cond.code Lib.Math.abs.name Lib.Math.abs.code 1 (some .int) ∨ w = Cond.code Lib.Math.max.name Lib.Math.max.code 2 (some .int) := by
  obtain ⟨pc, i, len, a, b, t, v, z⟩ := e
  unfold tw_ew at hw
  dsimp only at hw
  unfold tw_call
  dsimp only
  split at hw
  · simp at hw; subst hw; cases hc
  · simp at hw; subst hw; cases hc
  · split at hw
    · simp at hw
    · simp at hw; subst hw; cases hc
  · split at hw
    · simp at hw; subst hw; cases hc
    · simp at hw
  · simp at hw; subst hw; cases hc
  · split at hw
    · simp at hw
    · simp at hw; rcases hw with h | h | h <;> subst h <;> cases hc
  · simp at hw; subst hw; cases hc
  · split at hw
    · next ht =>
      simp at hw
      rcases hw with h | h | h | h
      · subst h; cases hc
      · subst h; cases hc
      · subst h; cases hc
      · exact Or.inl ⟨by simp [ht], h⟩
    · split at hw
      · simp at hw
        rcases hw with h | h | h | h
        · subst h; cases hc
        · subst h; cases hc
        · subst h; cases hc
        · exact Or.inr (Or.inr (Or.inl h))
      · split at hw
        · simp at hw
          rcases hw with h | h | h | h
          · subst h; cases hc
          · subst h; cases hc
          · subst h; cases hc
          · exact Or.inr (Or.inr (Or.inr h))
        · split at hw
          · simp at hw; rcases hw with h | h | h | h <;> subst h <;> cases hc
          · simp at hw
  · split at hw
    · next ht =>
      simp at hw
      rcases hw with h | h | h | h | h
      · subst h; cases hc
      · subst h; cases hc
      · subst h; cases hc
      · subst h; cases hc
      · exact Or.inl ⟨by simp [ht], h⟩
    · split at hw
      · simp at hw; subst hw; cases hc
      · split at hw
        · simp at hw; subst hw; cases hc
        · simp at hw
  · split at hw
    · simp at hw
      rcases hw with h | h | h
      · subst h; cases hc
      · subst h; cases hc
      · exact Or.inr (Or.inl h)
    · split at hw
      · next ht =>
        simp at hw
        rcases hw with h | h | h | h
        · subst h; cases hc
        · subst h; cases hc
        · subst h; cases hc
        · exact Or.inl ⟨by simp [ht], h⟩
      · split at hw
        · next ht =>
          simp at hw
          rcases hw with h | h | h
          · subst h; cases hc
          · subst h; cases hc
          · exact Or.inl ⟨by simp [ht], h⟩
        · simp at hw
  · simp at hw
theorem tw_goodcode (y : Nat) : goodWord (tw_cw y) = true := rfl
theorem tw_WALL_in : ∀ w ∈ tw_WALL, w ∈ lw_tbl ∧ goodWord w = true := by
  have hgw : ∀ w, (w ∈ lw_tbl ∧ ((w.onTables && w.keeps) = true ∨ ∃ ty, w = .arrayClass ty)) → w ∈ lw_tbl ∧ goodWord w = true := by
    rintro w ⟨h1, h2⟩
    refine ⟨h1, ?_⟩
    rcases h2 with h | ⟨ty, rfl⟩
    · cases w <;> first | rfl | exact h
    · rfl
  intro w hw
  unfold tw_WALL at hw
  rcases List.mem_append.mp hw with h | h
  · exact hgw w (tw_jdk_in w h)
  · rcases List.mem_append.mp h with h | h
    · have h1 := tw_wk_ok _ _ tw_cl_in w h
      rcases h1 with h1 | h1
      · exfalso
        obtain ⟨q, hq, hw2⟩ := List.mem_flatMap.mp h
        obtain ⟨k, hk, rfl⟩ := List.mem_map.mp hw2
        unfold u_lay at h1
        split at h1 <;> cases h1
      · exact h1
    · obtain ⟨y, hy, h2⟩ := List.mem_flatMap.mp h
      obtain ⟨e, he, h3⟩ := List.mem_flatMap.mp h2
      obtain ⟨ps, hm⟩ := tw_mo y (List.mem_range.mp hy)
      unfold tw_mok at hm
      rw [Bool.and_eq_true] at hm
      have h1 := tw_wk_ok _ _ hm.1 w h2
      rcases h1 with h1 | h1
      · rcases tw_ew_code h3 h1 with ⟨hc, rfl⟩ | rfl | rfl | rfl
        · have hlt : e.2.2.2.1 < 323 := by
            have h4 := List.all_eq_true.mp hm.2 e he
            rw [hc] at h4
            simpa using h4
          exact ⟨tw_cpo _ hlt, tw_goodcode _⟩
        · exact ⟨tw_obj_in, rfl⟩
        · exact ⟨tw_abs_in, rfl⟩
        · exact ⟨tw_max_in, rfl⟩
      · exact h1
theorem tw_ok : tw_OK := ⟨tw_allE, fun w hw => (tw_WALL_in w hw).2, tw_allP⟩
theorem tw_con : ∀ N, tw_Con N := tw_contract tw_ok (tw_jdk tw_ok)
