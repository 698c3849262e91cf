theorem tw_chkA : ∀ y, y < 323 → tw_chk y = true := by
  intro y hy
  have key : ∀ a n, (List.range' a n).all tw_chk = true → a ≤ y → y < a + n → tw_chk y = true := fun a n h h1 h2 => List.all_eq_true.mp h y (List.mem_range'_1.mpr ⟨h1, h2⟩)
  by_cases h0 : y < 13
  · exact key 0 13 tw_chk_0 (by omega) h0
  by_cases h13 : y < 26
  · exact key 13 13 tw_chk_13 (by omega) h13
  by_cases h26 : y < 39
  · exact key 26 13 tw_chk_26 (by omega) h26
  by_cases h39 : y < 52
  · exact key 39 13 tw_chk_39 (by omega) h39
  by_cases h52 : y < 65
  · exact key 52 13 tw_chk_52 (by omega) h52
  by_cases h65 : y < 78
  · exact key 65 13 tw_chk_65 (by omega) h65
  by_cases h78 : y < 91
  · exact key 78 13 tw_chk_78 (by omega) h78
  by_cases h91 : y < 104
  · exact key 91 13 tw_chk_91 (by omega) h91
  by_cases h104 : y < 117
  · exact key 104 13 tw_chk_104 (by omega) h104
  by_cases h117 : y < 130
  · exact key 117 13 tw_chk_117 (by omega) h117
  by_cases h130 : y < 143
  · exact key 130 13 tw_chk_130 (by omega) h130
  by_cases h143 : y < 156
  · exact key 143 13 tw_chk_143 (by omega) h143
  by_cases h156 : y < 169
  · exact key 156 13 tw_chk_156 (by omega) h156
  by_cases h169 : y < 182
  · exact key 169 13 tw_chk_169 (by omega) h169
  by_cases h182 : y < 195
  · exact key 182 13 tw_chk_182 (by omega) h182
  by_cases h195 : y < 208
  · exact key 195 13 tw_chk_195 (by omega) h195
  by_cases h208 : y < 221
  · exact key 208 13 tw_chk_208 (by omega) h208
  by_cases h221 : y < 234
  · exact key 221 13 tw_chk_221 (by omega) h221
  by_cases h234 : y < 247
  · exact key 234 13 tw_chk_234 (by omega) h234
  by_cases h247 : y < 260
  · exact key 247 13 tw_chk_247 (by omega) h247
  by_cases h260 : y < 273
  · exact key 260 13 tw_chk_260 (by omega) h260
  by_cases h273 : y < 286
  · exact key 273 13 tw_chk_273 (by omega) h273
  by_cases h286 : y < 299
  · exact key 286 13 tw_chk_286 (by omega) h286
  by_cases h299 : y < 312
  · exact key 299 13 tw_chk_299 (by omega) h299
  by_cases h312 : y < 323
  · exact key 312 11 tw_chk_312 (by omega) h312
  exact absurd hy (by omega)
set_option maxRecDepth 100000 in
theorem tw_chkP : (List.range 324).all (fun y => plainName (tw_nm y).cls && decide (tw_pc y 0 = 0)) = true := by decide +kernel
theorem tw_lenL : (tw_code 323).length = 1168 := by decide +kernel
theorem tw_chkAL : ∀ k e, (tw_code 323)[k]? = some e → tw_okE 323 k e = true := by
  intro k e he
  have hk : k < 1168 := by rw [← tw_lenL]; exact (List.getElem?_eq_some_iff.mp he).1
  have key : ∀ a n, tw_chkR 323 a n = true → a ≤ k → k < a + n → tw_okE 323 k e = true := by
    intro a n h h1 h2
    have h3 := List.all_eq_true.mp h k (List.mem_range'_1.mpr ⟨h1, h2⟩)
    rw [he] at h3
    exact h3
  by_cases h0 : k < 40
  · exact key 0 40 tw_chkL_0 (by omega) h0
  by_cases h40 : k < 80
  · exact key 40 40 tw_chkL_40 (by omega) h40
  by_cases h80 : k < 120
  · exact key 80 40 tw_chkL_80 (by omega) h80
  by_cases h120 : k < 160
  · exact key 120 40 tw_chkL_120 (by omega) h120
  by_cases h160 : k < 200
  · exact key 160 40 tw_chkL_160 (by omega) h160
  by_cases h200 : k < 240
  · exact key 200 40 tw_chkL_200 (by omega) h200
  by_cases h240 : k < 280
  · exact key 240 40 tw_chkL_240 (by omega) h240
  by_cases h280 : k < 320
  · exact key 280 40 tw_chkL_280 (by omega) h280
  by_cases h320 : k < 360
  · exact key 320 40 tw_chkL_320 (by omega) h320
  by_cases h360 : k < 400
  · exact key 360 40 tw_chkL_360 (by omega) h360
  by_cases h400 : k < 440
  · exact key 400 40 tw_chkL_400 (by omega) h400
  by_cases h440 : k < 480
  · exact key 440 40 tw_chkL_440 (by omega) h440
  by_cases h480 : k < 520
  · exact key 480 40 tw_chkL_480 (by omega) h480
  by_cases h520 : k < 560
  · exact key 520 40 tw_chkL_520 (by omega) h520
  by_cases h560 : k < 600
  · exact key 560 40 tw_chkL_560 (by omega) h560
  by_cases h600 : k < 640
  · exact key 600 40 tw_chkL_600 (by omega) h600
  by_cases h640 : k < 680
  · exact key 640 40 tw_chkL_640 (by omega) h640
  by_cases h680 : k < 720
  · exact key 680 40 tw_chkL_680 (by omega) h680
  by_cases h720 : k < 760
  · exact key 720 40 tw_chkL_720 (by omega) h720
  by_cases h760 : k < 800
  · exact key 760 40 tw_chkL_760 (by omega) h760
  by_cases h800 : k < 840
  · exact key 800 40 tw_chkL_800 (by omega) h800
  by_cases h840 : k < 880
  · exact key 840 40 tw_chkL_840 (by omega) h840
  by_cases h880 : k < 920
  · exact key 880 40 tw_chkL_880 (by omega) h880
  by_cases h920 : k < 960
  · exact key 920 40 tw_chkL_920 (by omega) h920
  by_cases h960 : k < 1000
  · exact key 960 40 tw_chkL_960 (by omega) h960
  by_cases h1000 : k < 1040
  · exact key 1000 40 tw_chkL_1000 (by omega) h1000
  by_cases h1040 : k < 1080
  · exact key 1040 40 tw_chkL_1040 (by omega) h1040
  by_cases h1080 : k < 1120
  · exact key 1080 40 tw_chkL_1080 (by omega) h1080
  by_cases h1120 : k < 1160
  · exact key 1120 40 tw_chkL_1120 (by omega) h1120
  by_cases h1160 : k < 1168
  · exact key 1160 8 tw_chkL_1160 (by omega) h1160
  exact absurd hk (by omega)
theorem tw_allE : ∀ y k e, (tw_code y)[k]? = some e → tw_okE y k e = true := by
  intro y k e he
  have hy := tw_y_lt he
  unfold tw_NM at hy
  by_cases h : y < 323
  · have h1 := List.all_eq_true.mp (tw_chkA y h) k (List.mem_range.mpr (List.getElem?_eq_some_iff.mp he).1)
    rw [he] at h1
    exact h1
  · have : y = 323 := by omega
    subst this
    exact tw_chkAL k e he
theorem tw_allP : ∀ y, y < tw_NM → plainName (tw_nm y).cls = true ∧ tw_pc y 0 = 0 := by
  intro y hy
  have h := List.all_eq_true.mp tw_chkP y (List.mem_range.mpr hy)
  rw [Bool.and_eq_true] at h
  exact ⟨h.1, of_decide_eq_true h.2⟩
