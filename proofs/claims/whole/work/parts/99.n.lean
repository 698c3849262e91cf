/-! the whole -/
set_option maxRecDepth 16000
theorem tw_wsH_in : ∀ w ∈ tw_wsH, w ∈ lw_tbl := by
  intro w hw
  have h1 := tw_lw1_in
  unfold tw_wsH at hw
  rcases List.mem_cons.mp hw with h | h
  · rw [h]; exact h1 _ (by simp [tw_lw1])
  · rcases List.mem_cons.mp h with h | h
    · rw [h]; exact h1 _ (by simp [tw_lw1])
    · unfold tw_wT wsV tw_ws9 at h
      rcases List.mem_append.mp h with h | h
      · simp only [List.mem_cons, List.not_mem_nil, or_false] at h
        rcases h with h | h | h | h
        · rw [h]; exact h1 _ (by simp [tw_lw1])
        · rw [h]; exact h1 _ (by simp [tw_lw1])
        · rw [h]; exact h1 _ (by simp [tw_lw1])
        · rw [h]; exact h1 _ (by simp [tw_lw1])
      · rcases List.mem_cons.mp h with h | h
        · rw [h]; exact h1 _ (by simp [tw_lw1])
        · rcases List.mem_cons.mp h with h | h
          · rw [h]; exact h1 _ (by simp [tw_lw1])
          · rcases List.mem_cons.mp h with h | h
            · rw [h]; exact h1 _ (by simp [tw_lw1])
            · rcases List.mem_append.mp h with h | h
              · exact h1 _ (List.mem_append_right _ (List.mem_append_left _ (List.mem_filter.mp h).1))
              · exact (tw_WALL_in w h).1
set_option maxHeartbeats 4000000 in
theorem whole_start {p : Program} {e : Env} {s : State} {m : MethodId} {below : List Frame} {meth : Method} {c : Code} (l : Launch) (hflags : l.flags = flags0) {b L : Nat} {xs : Nat → Int32} (hL : L ≤ 3072) (hnm : meth.name = yL_law.name) (C0 : lw_At p s m meth c b L xs) : W p l e room_1 s m #[Value.ref b] below meth c s.heap [] 0 0 (lw_Z below #[Value.ref b] s) (entryFrame m ([Value.ref b] : List Value).toArray 7) := by
  obtain ⟨hx, hb, hr, hml, hown, hts, hX, hbl, hlocks, hgv⟩ := C0
  have hG : ∀ w ∈ tw_FL, w.before #[Value.ref b] s = true := flat_of_before _ hgv
  have hfl : l.stackTraces = false := by
    unfold Launch.stackTraces
    rw [hflags]
    decide +kernel
  have h1 : ∀ w ∈ tw_lw1, w.before #[Value.ref b] s = true := fun w hw => hts w (tw_lw1_in w hw)
  have h2 : ∀ w ∈ tw_fl1, w.before #[Value.ref b] s = true := fun w hw => hG w (tw_fl1_in w hw)
  have hA : ∀ a : Nat, a < s.heap.size → ¬ tw_A s.heap.size a := fun a h1 h2 => absurd h1 (Nat.not_lt.mpr h2)
  obtain ⟨adK, adV, hF⟩ := tw_Fof hts hG hX hbl
  obtain ⟨dC, dI, cy, hK⟩ := tw_Kof hts
  obtain ⟨sa, ca, cA, kA, q1, -⟩ := Cond.exactly_spec (args := #[Value.ref b]) (first := s) (o := none) (s := s) (idx := []) (t := .string RX9 356) (cls := "java/lang/String") (h2 _ (by simp [tw_fl1]))
  have hX9 : tw_X9 s.heap.size sa s := ⟨vk_R.of (h1 _ (by simp [tw_lw1])) q1, vx_Zqof (h1 _ (by simp [tw_lw1])) (h1 _ (by simp [tw_lw1])) (h2 _ (by simp [tw_fl1])) hA, vx_Zqof (h1 _ (by simp [tw_lw1])) (h1 _ (by simp [tw_lw1])) (h2 _ (by simp [tw_fl1])) hA, fun w hw => va_Nw.of (tw_isB_on (tw_isB_all w hw)) (h1 w (List.mem_append_right _ (List.mem_append_left _ (List.mem_filter.mp hw).1)))⟩
  have hX54 : tw_X54 l s.heap.size sa #[Value.ref b] s := ⟨hfl, hX9, fun w hw => hts w (tw_wsH_in w hw), h1 _ (by simp [tw_lw1]), h1 _ (by simp [tw_lw1]), h1 _ (by simp [tw_lw1])⟩
  have C : tw_Cx p room_1 s m #[Value.ref b] meth c 323 s.heap.size b L xs adK adV dC dI cy := ⟨hx, hb, hml, hown, fun w hw => hts w (tw_WALL_in w hw).1, hF, hK, by decide, by decide, hnm⟩
  have hst := tw_start (l := l) (e0 := e) (below := below) C hX54 rfl hr hlocks hL
  have hl := lv_entry (([.ref 900] : List Value).map (tw_cv (fun k => if k = 900 then b else if 1000 ≤ k then adK (k - 1000) else 0))) (n := 7) (show (1 : Nat) ≤ 7 by decide)
  rw [show ([Value.ref b] : List Value) = ([.ref 900] : List Value).map (tw_cv (fun k => if k = 900 then b else if 1000 ≤ k then adK (k - 1000) else 0)) from rfl, lg_entry_eq]
  generalize (lg_sl (([.ref 900] : List Value).map (tw_cv (fun k => if k = 900 then b else if 1000 ≤ k then adK (k - 1000) else 0))) ++ List.replicate (7 - (lg_sl (([.ref 900] : List Value).map (tw_cv (fun k => if k = 900 then b else if 1000 ≤ k then adK (k - 1000) else 0)))).length) Slot.unset).toArray = ls at hl ⊢
  have hl2 : lv_has ls 7 (tw_lvF (fun k => if k = 900 then b else if 1000 ≤ k then adK (k - 1000) else 0) 0 [some (.ref 900), none, none, none, none, none, none]) := tw_lv_sub hl (fun q hq => tw_al_mem [.ref 900] 0 6 q hq)
  refine hst rfl (fun k => if k = 900 then b else if 1000 ≤ k then adK (k - 1000) else 0) s.heap [] ls ⟨fun k q hq => ?_, ⟨fun i j p q hp => ?_, fun k q hq => ?_⟩, va_S.rf, rfl, fun i hi => ?_, fun k hk => absurd hk (Nat.not_lt_zero _), ?_, ?_, Nat.zero_le _, Nat.lt_of_le_of_lt hL (by decide)⟩ hl2
  · rw [tw_w_no (Nat.not_lt_zero _)] at hq; cases hq
  · rw [tw_w_no (Nat.not_lt_zero _)] at hp; cases hp
  · rw [tw_w_no (Nat.not_lt_zero _)] at hq; cases hq
  · show (if 1000 + i = 900 then b else if 1000 ≤ 1000 + i then adK (1000 + i - 1000) else 0) = adK i
    rw [if_neg (by omega), if_pos (by omega), Nat.add_sub_cancel_left]
  · show tw_I0 L 90000 = nI L
    unfold tw_I0
    rw [if_pos rfl]
  · show tw_A0 xs 900 = xs
    unfold tw_A0
    rw [if_pos rfl]
