/-! MATHEMATICS, 44: a line as a whole, in both (by wip/gen/mkt10.py) -/
theorem tp_b_i {α β : Type} {o : (Nat × Nat) ⊕ α} {f : α → (Nat × Nat) ⊕ β} {y : β} (h : tp_b o f = .inr y) : ∃ a, o = .inr a ∧ f a = .inr y := by
  cases o with
  | inl x => cases h
  | inr a => exact ⟨a, rfl, h⟩
theorem tp_st_e (c : Nat → Nat) (n e : Nat) : e ≤ tp_st c n e := Nat.le_trans (tp_at_ge c n e) (tp_st_ge c n e)
theorem tp_to_in {c : Nat → Nat} {n e : Nat} {F : Nat → Nat} {b m v : Nat} (h : tp_to c n e F b m = .inr v) (hb : b + m ≤ 15) : v < m ∧ 0 < F (106 + (b + v)) := by
  unfold tp_to at h
  split at h
  · split at h
    · next g =>
      cases h
      refine ⟨by omega, ?_⟩
      rw [show b + (tp_fd c n e F - b) = tp_fd c n e F by omega]
      exact (tp_fd_mt (by omega)).1
    · cases h
  · cases h
theorem tp_ki_in {c : Nat → Nat} {n e k : Nat} (h : tp_ki c n e = .inr k) : k ≤ 3 := by
  unfold tp_ki at h
  repeat' split at h
  all_goals first | (cases h; decide) | (cases h; done)
section
variable {c : Nat → Nat} {n e e2 : Nat} {F G : Nat → Nat}
def tp_mono (n e e2 : Nat) : Prop := e ≤ e2 ∧ (e ≤ n → e2 ≤ n)
theorem tp_m1 : tp_mono n e (tp_st c n e) := ⟨tp_st_e c n e, tp_st_le⟩
theorem tp_mtr {a b d : Nat} (h : tp_mono n a b) (g : tp_mono n b d) : tp_mono n a d := ⟨Nat.le_trans h.1 g.1, fun q => g.2 (h.2 q)⟩
theorem tp_k0 (hW : tp_WF F 0 0 0) (h9 : F 9 = 0) (h : tp_L0 c n e F = .inr (e2, G)) : tp_mono n e e2 ∧ tp_WF G 0 0 0 := by
  unfold tp_L0 at h
  obtain ⟨u, -, h⟩ := tp_b_i h
  obtain ⟨v, hv, h⟩ := tp_b_i h
  cases h
  exact ⟨tp_mtr tp_m1 tp_m1, tp_WF0 hW h9 (tp_wh_kd hv).2.2⟩
theorem tp_k1 (hW : tp_WF F 0 0 0) (h9 : F 9 ≠ 0) (hr : F 1 < 6) (h : tp_L1 c n e F = .inr (e2, G)) : tp_mono n e e2 ∧ tp_WF G 0 0 0 := by
  unfold tp_L1 at h
  obtain ⟨u, hu, h⟩ := tp_b_i h
  cases h
  have q := tp_na_q hu
  have W1 := tp_WF_nf (c := c) (n := n) (e := e) (s := F 1) (d1 := 1) (d3 := 0) (d5 := 0) hW (by omega) q.1 q.2 (by omega)
  have l1 : tp_nf c n e F (F 1) 1 = F 1 := tp_nf_lo (by decide)
  have l9 : tp_nf c n e F (F 1) 9 = F 9 := tp_nf_lo (by decide)
  exact ⟨tp_m1, tp_WF1 W1 (by omega) (by omega)⟩
theorem tp_k2 (hW : tp_WF F 0 0 0) (h9 : F 9 ≠ 0) (hr : F 2 < 8) (h : tp_L2 c n e F = .inr (e2, G)) : tp_mono n e e2 ∧ tp_WF G 0 0 0 := by
  unfold tp_L2 at h
  obtain ⟨p, hp, h⟩ := tp_b_i h
  obtain ⟨q, hq, h⟩ := tp_b_i h
  split at h
  · cases h
  · cases h
    obtain ⟨p1, p2⟩ := tp_to_in hp (by decide)
    obtain ⟨q1, q2⟩ := tp_to_in hq (by decide)
    have p3 := (hW.2.2.2.2.2.2.2.2.2 (0 + p) (by omega) p2).1 (by omega)
    have q3 := (hW.2.2.2.2.2.2.2.2.2 (0 + q) (by omega) q2).1 (by omega)
    exact ⟨tp_mtr tp_m1 tp_m1, tp_WF2 hW h9 hr (by omega) (by omega)⟩
theorem tp_k3 (hW : tp_WF F 0 0 0) (h9 : F 9 ≠ 0) (hr : F 3 < 6) (h : tp_L3 c n e F = .inr (e2, G)) : tp_mono n e e2 ∧ tp_WF G 0 0 0 := by
  unfold tp_L3 at h
  obtain ⟨u, hu, h⟩ := tp_b_i h
  have q := tp_na_q hu
  have W1 := tp_WF_nf (c := c) (n := n) (e := e) (s := 6 + F 3) (d1 := 0) (d3 := 1) (d5 := 0) hW (by omega) q.1 q.2 (by omega)
  have l3 : tp_nf c n e F (6 + F 3) 3 = F 3 := tp_nf_lo (by decide)
  have l9 : tp_nf c n e F (6 + F 3) 9 = F 9 := tp_nf_lo (by decide)
  generalize tp_nf c n e F (6 + F 3) = H at W1 l3 l9 h
  unfold tp_L3b at h
  obtain ⟨k, hk, h⟩ := tp_b_i h
  obtain ⟨_, -, h⟩ := tp_b_i h
  obtain ⟨p, hp, h⟩ := tp_b_i h
  obtain ⟨_, -, h⟩ := tp_b_i h
  obtain ⟨w, hw, h⟩ := tp_b_i h
  cases h
  obtain ⟨p1, p2⟩ := tp_to_in hp (by decide)
  have p3 := (W1.2.2.2.2.2.2.2.2.2 (0 + p) (by omega) p2).1 (by omega)
  exact ⟨tp_mtr tp_m1 (tp_mtr tp_m1 (tp_mtr tp_m1 (tp_mtr tp_m1 (tp_mtr tp_m1 tp_m1)))), tp_WF3 W1 (by omega) (by omega) (tp_ki_in hk) (by omega) (tp_wh_kd hw).2.2⟩
theorem tp_k4 (hW : tp_WF F 0 0 0) (h9 : F 9 ≠ 0) (hr : F 4 < 10) (h : tp_L4 c n e F = .inr (e2, G)) : tp_mono n e e2 ∧ tp_WF G 0 0 0 := by
  unfold tp_L4 at h
  obtain ⟨m, hm, h⟩ := tp_b_i h
  obtain ⟨p, hp, h⟩ := tp_b_i h
  obtain ⟨_, -, h⟩ := tp_b_i h
  obtain ⟨t, ht, h⟩ := tp_b_i h
  split at h
  · cases h
    obtain ⟨m1, m2⟩ := tp_to_in hm (by decide)
    obtain ⟨p1, p2⟩ := tp_to_in hp (by decide)
    have m3 := (hW.2.2.2.2.2.2.2.2.2 (6 + m) (by omega) m2).2.1 (by omega) (by omega)
    have p3 := (hW.2.2.2.2.2.2.2.2.2 (0 + p) (by omega) p2).1 (by omega)
    exact ⟨tp_mtr tp_m1 (tp_mtr tp_m1 (tp_mtr tp_m1 tp_m1)), tp_WF4 hW h9 hr (by omega) (by omega) (tp_wh_kd ht).2.2⟩
  · cases h
theorem tp_k5 (hW : tp_WF F 0 0 0) (h9 : F 9 ≠ 0) (hr : F 5 < 3) (h : tp_L5 c n e F = .inr (e2, G)) : tp_mono n e e2 ∧ tp_WF G 0 0 0 := by
  unfold tp_L5 at h
  obtain ⟨u, hu, h⟩ := tp_b_i h
  have q := tp_na_q hu
  have W1 := tp_WF_nf (c := c) (n := n) (e := e) (s := 12 + F 5) (d1 := 0) (d3 := 0) (d5 := 1) hW (by omega) q.1 q.2 (by omega)
  have l5 : tp_nf c n e F (12 + F 5) 5 = F 5 := tp_nf_lo (by decide)
  have l9 : tp_nf c n e F (12 + F 5) 9 = F 9 := tp_nf_lo (by decide)
  generalize tp_nf c n e F (12 + F 5) = H at W1 l5 l9 h
  unfold tp_L5b at h
  obtain ⟨a, ha, h⟩ := tp_b_i h
  obtain ⟨b, hb, h⟩ := tp_b_i h
  split at h
  · cases h
  · unfold tp_L5c at h
    obtain ⟨_, -, h⟩ := tp_b_i h
    obtain ⟨p, hp, h⟩ := tp_b_i h
    obtain ⟨_, -, h⟩ := tp_b_i h
    obtain ⟨f, hf, h⟩ := tp_b_i h
    obtain ⟨_, -, h⟩ := tp_b_i h
    obtain ⟨w, hw, h⟩ := tp_b_i h
    cases h
    obtain ⟨a1, a2⟩ := tp_to_in ha (by decide)
    obtain ⟨b1, b2⟩ := tp_to_in hb (by decide)
    obtain ⟨p1, p2⟩ := tp_to_in hp (by decide)
    have a3 := (W1.2.2.2.2.2.2.2.2.2 (6 + a) (by omega) a2).2.1 (by omega) (by omega)
    have b3 := (W1.2.2.2.2.2.2.2.2.2 (6 + b) (by omega) b2).2.1 (by omega) (by omega)
    have p3 := (W1.2.2.2.2.2.2.2.2.2 (0 + p) (by omega) p2).1 (by omega)
    exact ⟨tp_mtr tp_m1 (tp_mtr tp_m1 (tp_mtr tp_m1 (tp_mtr tp_m1 (tp_mtr tp_m1 (tp_mtr tp_m1 (tp_mtr tp_m1 (tp_mtr tp_m1 tp_m1))))))), tp_WF5 W1 (by omega) (by omega) (by omega) (by omega) (by omega) (tp_wh_kd hf).2.2 (tp_wh_kd hw).2.1 (tp_wh_kd hw).2.2⟩
theorem tp_k6 (hW : tp_WF F 0 0 0) (h9 : F 9 ≠ 0) (h : tp_L6 c n e F = .inr (e2, G)) : tp_mono n e e2 ∧ tp_WF G 0 0 0 := by
  unfold tp_L6 at h
  obtain ⟨m, hm, h⟩ := tp_b_i h
  split at h
  · next g =>
    obtain ⟨_, -, h⟩ := tp_b_i h
    obtain ⟨s, hs, h⟩ := tp_b_i h
    cases h
    obtain ⟨m1, m2⟩ := tp_to_in hm (by decide)
    have m3 := (hW.2.2.2.2.2.2.2.2.2 (6 + m) (by omega) m2).2.1 (by omega) (by omega)
    exact ⟨tp_mtr tp_m1 (tp_mtr tp_m1 tp_m1), tp_WF6 hW h9 (by omega) g (tp_wh_kd hs).2.2⟩
  · cases h
theorem tp_k7 (hW : tp_WF F 0 0 0) (h9 : F 9 ≠ 0) (hr : F 7 < 4) (h : tp_L7 c n e F = .inr (e2, G)) : tp_mono n e e2 ∧ tp_WF G 0 0 0 := by
  unfold tp_L7 at h
  obtain ⟨m, hm, h⟩ := tp_b_i h
  split at h
  · cases h
  · next g =>
    obtain ⟨s, hs, h⟩ := tp_b_i h
    cases h
    obtain ⟨m1, m2⟩ := tp_to_in hm (by decide)
    have m3 := (hW.2.2.2.2.2.2.2.2.2 (6 + m) (by omega) m2).2.1 (by omega) (by omega)
    exact ⟨tp_mtr tp_m1 tp_m1, tp_WF7 hW h9 hr (by omega) g (tp_wh_kd hs).2.2⟩
theorem tp_k8 (hW : tp_WF F 0 0 0) (h9 : F 9 ≠ 0) (h : tp_L8 c n e F = .inr (e2, G)) : tp_mono n e e2 ∧ tp_WF G 0 0 0 := by
  unfold tp_L8 at h
  obtain ⟨m, hm, h⟩ := tp_b_i h
  split at h
  · next g =>
    obtain ⟨_, -, h⟩ := tp_b_i h
    obtain ⟨s, hs, h⟩ := tp_b_i h
    cases h
    obtain ⟨m1, m2⟩ := tp_to_in hm (by decide)
    exact ⟨tp_mtr tp_m1 (tp_mtr tp_m1 tp_m1), tp_WF8 hW h9 m1 g (tp_wh_kd hs).2.2⟩
  · cases h
theorem tp_room1 : ∀ k, k ≤ 9 → 0 < tp_room k ∧ tp_room k ≤ 900 := by decide +kernel
theorem tp_ls8 {k : Nat} (h : k ≤ 9) (h9 : k ≠ 9) (h0 : k ≠ 0) : k = 1 ∨ k = 2 ∨ k = 3 ∨ k = 4 ∨ k = 5 ∨ k = 6 ∨ k = 7 ∨ k = 8 := by omega
/-- a line leaves a town that may be -/
theorem tp_line_ok (hW : tp_WF F 0 0 0) (h : tp_line c n e F = .inr (e2, G)) : e < e2 ∧ (e ≤ n → e2 ≤ n) ∧ tp_WF G 0 0 0 := by
  have h9 := tp_ls9 c n e
  unfold tp_line at h
  split at h
  · cases h
  · next g9 =>
    have hk := tp_ls_kd g9
    have hg := tp_st_gt (c := c) (n := n) (e := e) (by omega)
    have ha := tp_at_ge c n e
    have key : ∀ {e2 : Nat} {G : Nat → Nat}, tp_mono n (tp_st c n e) e2 ∧ tp_WF G 0 0 0 → e < e2 ∧ (e ≤ n → e2 ≤ n) ∧ tp_WF G 0 0 0 := fun q => ⟨by have := q.1.1; omega, fun w => q.1.2 (tp_st_le w), q.2⟩
    split at h
    · split at h
      · next q => exact key (tp_k0 hW q h)
      · cases h
    · next g0 =>
      split at h
      · cases h
      · next q9 =>
        split at h
        · cases h
        · next qr =>
          unfold tp_Lk at h
          rcases tp_ls8 h9 g9 g0 with e1 | e1 | e1 | e1 | e1 | e1 | e1 | e1
          · rw [e1] at h qr
            rw [if_pos rfl] at h
            exact key (tp_k1 hW q9 (by simpa [tp_room] using qr) h)
          · rw [e1] at h qr
            rw [if_neg (by decide), if_pos rfl] at h
            exact key (tp_k2 hW q9 (by simpa [tp_room] using qr) h)
          · rw [e1] at h qr
            rw [if_neg (by decide), if_neg (by decide), if_pos rfl] at h
            exact key (tp_k3 hW q9 (by simpa [tp_room] using qr) h)
          · rw [e1] at h qr
            rw [if_neg (by decide), if_neg (by decide), if_neg (by decide), if_pos rfl] at h
            exact key (tp_k4 hW q9 (by simpa [tp_room] using qr) h)
          · rw [e1] at h qr
            rw [if_neg (by decide), if_neg (by decide), if_neg (by decide), if_neg (by decide), if_pos rfl] at h
            exact key (tp_k5 hW q9 (by simpa [tp_room] using qr) h)
          · rw [e1] at h qr
            rw [if_neg (by decide), if_neg (by decide), if_neg (by decide), if_neg (by decide), if_neg (by decide), if_pos rfl] at h
            exact key (tp_k6 hW q9 h)
          · rw [e1] at h qr
            rw [if_neg (by decide), if_neg (by decide), if_neg (by decide), if_neg (by decide), if_neg (by decide), if_neg (by decide), if_pos rfl] at h
            exact key (tp_k7 hW q9 (by simpa [tp_room] using qr) h)
          · rw [e1] at h qr
            rw [if_neg (by decide), if_neg (by decide), if_neg (by decide), if_neg (by decide), if_neg (by decide), if_neg (by decide), if_neg (by decide)] at h
            exact key (tp_k8 hW q9 h)
end
/-- the class -/
theorem tp_roomI : ∀ k, k ≤ 8 → g_X4_roomFor (nI k) = nI (tp_room k) := by decide +kernel
theorem tp_wl9 {I : Nat → Int32} {A : Nat → Nat → Int32} {F : Nat → Nat} {k : Nat} (hk : k ≤ 9) (h2 : I 2602 = nI (F 9)) (hC : tp_C A F) (hW : tp_WF F 0 0 0) : g_X4_wrongOfLine I A (tp_lsI k) = nI (if k = 9 then 1 else if k = 0 then (if F 9 = 0 then 0 else 3) else if F 9 = 0 then 6 else if tp_room k ≤ F k then 5 else 0) := by
  have h91 := hW.1.1
  unfold g_X4_wrongOfLine
  by_cases g9 : k = 9
  · rw [if_pos ((tp_lsI9 hk).mpr g9), if_pos g9]
    rfl
  · rw [if_neg (fun q => g9 ((tp_lsI9 hk).mp q)), if_neg g9]
    have e : tp_lsI k = nI k := if_neg g9
    rw [e, h2]
    by_cases g0 : k = 0
    · rw [if_pos (by rw [g0]; rfl), if_pos g0]
      by_cases g : F 9 = 0
      · rw [if_pos (by rw [g]; rfl), if_pos g]
        rfl
      · rw [if_neg (nI_ne0 (by omega) (by omega)), if_neg g]
        rfl
    · rw [if_neg (nI_ne0 (by omega) (by omega)), if_neg g0]
      by_cases g : F 9 = 0
      · rw [if_pos (by rw [g]; rfl), if_pos g]
        rfl
      · rw [if_neg (nI_ne0 (by omega) (by omega)), if_neg g]
        have hb : F k ≤ 10 := by
          obtain ⟨a1, a2, a3, a4, a5, a6, a7, a8, a9⟩ := hW.1
          have := tp_G6_6 hW.2.2.2.2.2.1
          have := tp_G8_3 hW.2.2.2.2.2.2.2.1
          rcases tp_ls8 hk g9 g0 with q | q | q | q | q | q | q | q <;> subst q <;> omega
        have hr := (tp_room1 k hk).2
        have ec : g_X8_count_14 A (nI k) = nI (F k) := by
          unfold g_X8_count_14
          rw [tm_get (by omega) (by decide), hC.1 k (by omega)]
        rw [ec, tp_roomI k (by omega)]
        by_cases gr : tp_room k ≤ F k
        · rw [if_neg (nI_nlt gr (by omega)), if_pos gr]
          rfl
        · rw [if_pos (nI_lt (by omega) (by omega)), if_neg gr]
          rfl
theorem tp_line9 {c : Nat → Nat} {n : Nat} {I0 : Nat → Int32} {A0 : Nat → Nat → Int32} {I : Nat → Int32} {L : Nat → Int64} {A : Nat → Nat → Int32} {J : Nat → Nat → Int64} {F : Nat → Nat} {e : Nat} (hT : tp_T9 c n I L A e) (hQ : tp_Q9 I0 A0 I A J F (F 1 + F 3 + F 5)) (hW : tp_WF F 0 0 0) : ∃ b I1 L1 A1 J1, g_X4_readLine I L A J = some (b, I1, L1, A1, J1) ∧ tp_O9 c n I0 A0 (tp_line c n e F) b I1 L1 A1 J1 := by
  have h9 := tp_ls9 c n e
  rw [tp_rl9, tp_lsort9 hT, Option.bind_some, tp_wl9 h9 hQ.2.1 hQ.2.2.2.1 hW]
  have bad : ∀ f, f ≠ 0 → f < 10 → tp_line c n e F = .inl (f, tp_at c n e) → ∃ b I1 L1 A1 J1, (if nI f = 0 then ((g_X7_next (upd I 2609 (0 : Int32)) L A).bind fun (I4, L5) => if tp_lsI (tp_ls c n e) = 0 then tp_br0 I4 L5 A J else if tp_lsI (tp_ls c n e) = 1 then tp_br1 I4 L5 A J else if tp_lsI (tp_ls c n e) = 2 then tp_br2 I4 L5 A J else if tp_lsI (tp_ls c n e) = 3 then tp_br3 I4 L5 A J else if tp_lsI (tp_ls c n e) = 4 then tp_br4 I4 L5 A J else if tp_lsI (tp_ls c n e) = 5 then tp_br5 I4 L5 A J else if tp_lsI (tp_ls c n e) = 6 then tp_br6 I4 L5 A J else if tp_lsI (tp_ls c n e) = 7 then tp_br7 I4 L5 A J else tp_br8 I4 L5 A J) else (tw_let (g_X4_fail I (nI f)) fun (c273, I274) => some (c273, I274, L, A, J))) = some (b, I1, L1, A1, J1) ∧ tp_O9 c n I0 A0 (tp_line c n e F) b I1 L1 A1 J1 := by
    intro f f0 f10 hl
    rw [if_neg (nI_ne0 (by omega) (by omega))]
    obtain ⟨I1, a1, a2, a3⟩ := tp_fail9 hT f
    dsimp only [tw_let]
    rw [a1, hl]
    exact ⟨_, _, _, _, _, rfl, tp_O9_l a2 (tp_Z9_g hQ.1 (fun k _ _ k2 k3 => a3 k k2 k3) (fun _ _ => rfl))⟩
  by_cases g9 : tp_ls c n e = 9
  · rw [if_pos g9]
    exact bad 1 (by decide) (by decide) (by unfold tp_line; rw [if_pos g9])
  · rw [if_neg g9]
    have hk := tp_ls_kd g9
    have goes : ∃ I4 L5, g_X7_next (upd I 2609 (0 : Int32)) L A = some (I4, L5) ∧ tp_T9 c n I4 L5 A (tp_st c n e) ∧ tp_Q9 I0 A0 I4 A J F (F 1 + F 3 + F 5) ∧ I4 2609 = nI 0 := by
      obtain ⟨I4, L5, b1, b2, b3, b4⟩ := tp_nxt9 (I := upd I 2609 (0 : Int32)) (tp_T9_I hT (fun k k1 k2 => tm_un _ (by omega))) (by omega)
      refine ⟨I4, L5, b1, b2, tp_Q9_g hQ hW.1 (fun k k1 k2 _ _ => by rw [b4 k k1, tm_un _ k2]) (by rw [b4 2610 (by decide), tm_un _ (by decide)]) (fun _ _ => rfl), ?_⟩
      rw [b4 2609 (by decide), tm_us]
      rfl
    have eI : tp_lsI (tp_ls c n e) = nI (tp_ls c n e) := if_neg g9
    by_cases g0 : tp_ls c n e = 0
    · rw [if_pos g0]
      by_cases q : F 9 = 0
      · rw [if_pos q, if_pos (by decide)]
        obtain ⟨I4, L5, c1, c2, c3, c4⟩ := goes
        rw [c1, Option.bind_some]
        dsimp only
        rw [eI, g0, if_pos (by decide)]
        have hl : tp_line c n e F = tp_L0 c n (tp_st c n e) F := by unfold tp_line; rw [if_neg g9, if_pos g0, if_pos q]
        rw [hl]
        exact tp_b9_0 c2 c3 c4 hW
      · rw [if_neg q]
        exact bad 3 (by decide) (by decide) (by unfold tp_line; rw [if_neg g9, if_pos g0, if_neg q])
    · rw [if_neg g0]
      by_cases q : F 9 = 0
      · rw [if_pos q]
        exact bad 6 (by decide) (by decide) (by unfold tp_line; rw [if_neg g9, if_neg g0, if_pos q])
      · rw [if_neg q]
        by_cases qr : tp_room (tp_ls c n e) ≤ F (tp_ls c n e)
        · rw [if_pos qr]
          exact bad 5 (by decide) (by decide) (by unfold tp_line; rw [if_neg g9, if_neg g0, if_neg q, if_pos qr])
        · rw [if_neg qr, if_pos (by decide)]
          obtain ⟨I4, L5, c1, c2, c3, c4⟩ := goes
          rw [c1, Option.bind_some]
          dsimp only
          have hl : tp_line c n e F = tp_Lk c n (tp_st c n e) F (tp_ls c n e) := by unfold tp_line; rw [if_neg g9, if_neg g0, if_neg q, if_neg qr]
          rw [hl, eI]
          unfold tp_Lk
          rcases tp_ls8 h9 g9 g0 with e1 | e1 | e1 | e1 | e1 | e1 | e1 | e1
          · rw [e1] at qr ⊢
            rw [if_neg (by decide), if_pos (by decide)]
            rw [if_pos rfl]
            exact tp_b9_1 c2 c3 c4 hW q (by simpa [tp_room] using qr)
          · rw [e1] at qr ⊢
            rw [if_neg (by decide), if_neg (by decide), if_pos (by decide)]
            rw [if_neg (show ¬ 2 = 1 by decide), if_pos rfl]
            exact tp_b9_2 c2 c3 c4 hW q (by simpa [tp_room] using qr)
          · rw [e1] at qr ⊢
            rw [if_neg (by decide), if_neg (by decide), if_neg (by decide), if_pos (by decide)]
            rw [if_neg (show ¬ 3 = 1 by decide), if_neg (show ¬ 3 = 2 by decide), if_pos rfl]
            exact tp_b9_3 c2 c3 c4 hW q (by simpa [tp_room] using qr)
          · rw [e1] at qr ⊢
            rw [if_neg (by decide), if_neg (by decide), if_neg (by decide), if_neg (by decide), if_pos (by decide)]
            rw [if_neg (show ¬ 4 = 1 by decide), if_neg (show ¬ 4 = 2 by decide), if_neg (show ¬ 4 = 3 by decide), if_pos rfl]
            exact tp_b9_4 c2 c3 c4 hW q (by simpa [tp_room] using qr)
          · rw [e1] at qr ⊢
            rw [if_neg (by decide), if_neg (by decide), if_neg (by decide), if_neg (by decide), if_neg (by decide), if_pos (by decide)]
            rw [if_neg (show ¬ 5 = 1 by decide), if_neg (show ¬ 5 = 2 by decide), if_neg (show ¬ 5 = 3 by decide), if_neg (show ¬ 5 = 4 by decide), if_pos rfl]
            exact tp_b9_5 c2 c3 c4 hW q (by simpa [tp_room] using qr)
          · rw [e1] at qr ⊢
            rw [if_neg (by decide), if_neg (by decide), if_neg (by decide), if_neg (by decide), if_neg (by decide), if_neg (by decide), if_pos (by decide)]
            rw [if_neg (show ¬ 6 = 1 by decide), if_neg (show ¬ 6 = 2 by decide), if_neg (show ¬ 6 = 3 by decide), if_neg (show ¬ 6 = 4 by decide), if_neg (show ¬ 6 = 5 by decide), if_pos rfl]
            exact tp_b9_6 c2 c3 c4 hW q
          · rw [e1] at qr ⊢
            rw [if_neg (by decide), if_neg (by decide), if_neg (by decide), if_neg (by decide), if_neg (by decide), if_neg (by decide), if_neg (by decide), if_pos (by decide)]
            rw [if_neg (show ¬ 7 = 1 by decide), if_neg (show ¬ 7 = 2 by decide), if_neg (show ¬ 7 = 3 by decide), if_neg (show ¬ 7 = 4 by decide), if_neg (show ¬ 7 = 5 by decide), if_neg (show ¬ 7 = 6 by decide), if_pos rfl]
            exact tp_b9_7 c2 c3 c4 hW q (by simpa [tp_room] using qr)
          · rw [e1] at qr ⊢
            rw [if_neg (by decide), if_neg (by decide), if_neg (by decide), if_neg (by decide), if_neg (by decide), if_neg (by decide), if_neg (by decide), if_neg (by decide)]
            rw [if_neg (show ¬ 8 = 1 by decide), if_neg (show ¬ 8 = 2 by decide), if_neg (show ¬ 8 = 3 by decide), if_neg (show ¬ 8 = 4 by decide), if_neg (show ¬ 8 = 5 by decide), if_neg (show ¬ 8 = 6 by decide), if_neg (show ¬ 8 = 7 by decide)]
            exact tp_b9_8 c2 c3 c4 hW q
/-- the reference -/
theorem tp_bg10 {c : Nat → Nat} {n : Nat} {I0 : Nat → Int32} {A0 : Nat → Nat → Int32} {I : Nat → Int32} {A : Nat → Nat → Int32} {F : Nat → Nat} {e i q : Nat} (hT : tp_T10 c n I A e) (hQ : tp_Q10 I0 A0 I A F) (hi : i < 19) (hq : q = 1000 + i) (h91 : F 9 ≤ 1) (cn : Prop) [Decidable cn] (hc : F 9 = 0 → cn) : (tp_is c n e i = false → g_X10_begins I A q (if cn then 1 else 0) = some (false, I, A)) ∧ (tp_is c n e i = true → F 9 = 0 → g_X10_begins I A q (if cn then 1 else 0) = some (true, tp_w10 I 6 (tp_at c n e), A)) ∧ (tp_is c n e i = true → F 9 ≠ 0 → ¬ cn → g_X10_begins I A q (if cn then 1 else 0) = some (true, tp_w10 I 5 (tp_at c n e), A)) ∧ (tp_is c n e i = true → F 9 ≠ 0 → cn → ∃ I1 A1, g_X10_begins I A q (if cn then 1 else 0) = some (true, I1, A1) ∧ tp_T10 c n I1 A1 (tp_st c n e) ∧ tp_Q10 I0 A0 I1 A1 F) := by
  subst hq
  have hw : ∀ f, g_X10_wrong I (nI f) (I 4404) = tp_w10 I f (tp_at c n e) := fun f => by rw [hT.2.2.2.1]; exact tp_wr10 hQ.2.1 f _
  unfold g_X10_begins
  rw [tp_isW10 hT hQ.2.1 hi, Option.bind_some]
  dsimp only [tw_let]
  refine ⟨fun g => ?_, fun g h9 => ?_, fun g h9 h => ?_, fun g h9 h => ?_⟩
  · rw [g, if_neg (by decide)]
  · rw [g, if_pos rfl, if_pos (hc h9), if_neg (by decide), Option.bind_some, tm_l_c9, Option.bind_some, hQ.2.2.2 9 (by decide), if_pos (by rw [h9]; rfl), show g_X10_wrong I (6 : Int32) (I 4404) = _ from hw 6, Option.bind_some, tp_n_pass (tp_F10_N (tp_wr10F _ _)), Option.bind_some]
  · rw [g, if_pos rfl, if_neg h, if_pos rfl, show g_X10_wrong I (5 : Int32) (I 4404) = _ from hw 5, Option.bind_some, tm_l_c9, Option.bind_some, hQ.2.2.2 9 (by decide), if_neg (nI_ne0 (by omega) (by omega)), Option.bind_some, tp_n_pass (tp_F10_N (tp_wr10F _ _)), Option.bind_some]
  · have gk := (of_decide_eq_true g).1
    obtain ⟨I1, A1, a1, a2, a3, a4⟩ := tp_pass10 hT hQ.2.1 (by omega)
    refine ⟨I1, A1, ?_, a2, tp_Q10_of hQ a3 a4⟩
    rw [g, if_pos rfl, if_pos h, if_neg (by decide), Option.bind_some, tm_l_c9, Option.bind_some, hQ.2.2.2 9 (by decide), if_neg (nI_ne0 (by omega) (by omega)), Option.bind_some, a1, Option.bind_some]
theorem tp_can {m r : Nat} (hr : r < 100) (hm : m < 100) : (if nI r ≤ nI m then some (0 : Int32) else some 1) = some (if m < r then 1 else 0) := by
  by_cases g : m < r
  · rw [if_neg (nI_ge g (by omega)), if_pos g]
  · rw [if_pos (nI_le (by omega) (by omega)), if_neg g]
theorem tp_line10 {c : Nat → Nat} {n : Nat} {I0 : Nat → Int32} {A0 : Nat → Nat → Int32} {I : Nat → Int32} {A : Nat → Nat → Int32} {F : Nat → Nat} {e : Nat} (hT : tp_T10 c n I A e) (hQ : tp_Q10 I0 A0 I A F) (hW : tp_WF F 0 0 0) : ∃ I1 A1, g_X10_readLine I A = some (I1, A1) ∧ tp_O10 c n I0 A0 (tp_line c n e F) I1 A1 := by
  have h91 := hW.1.1
  have hz0 := hW.1.2.1
  obtain ⟨a1, a2, a3, a4, a5, a6, a7, a8, a9⟩ := hW.1
  unfold g_X10_readLine
  rw [tp_w10_16 hT hQ.2.1, Option.bind_some]
  by_cases w16 : tp_is c n e 16 = true
  · have hls : tp_ls c n e = 0 := by unfold tp_ls; rw [if_pos w16]
    rw [if_pos w16]
    have gk := (of_decide_eq_true w16).1
    obtain ⟨I1, A1, e1, e2⟩ := tp_r10_0 hT hQ hW (by omega)
    rw [e1, Option.bind_some]
    refine ⟨I1, A1, rfl, ?_⟩
    unfold tp_line
    rw [hls, if_neg (by decide), if_pos rfl]
    exact e2
  · rw [if_neg w16]
    rw [tm_l_c1, Option.bind_some, hQ.2.2.2 1 (by decide), show (if (6 : Int32) ≤ nI (F 1) then some (0 : Int32) else some 1) = some (if F 1 < 6 then 1 else 0) from tp_can (r := 6) (by decide) (by omega), Option.bind_some]
    obtain ⟨p1_0, p1_1, p1_2, p1_3⟩ := tp_bg10 (i := 12) (q := 1012) hT hQ (by decide) rfl h91 (F 1 < 6) (fun q => by have := hz0 q 1 (by decide) (by decide); omega)
    by_cases w12 : tp_is c n e 12 = true
    · have hls : tp_ls c n e = 1 := by unfold tp_ls; rw [if_neg w16, if_pos w12]
      have hl : tp_line c n e F = if F 9 = 0 then .inl (6, tp_at c n e) else if tp_room 1 ≤ F 1 then .inl (5, tp_at c n e) else tp_L1 c n (tp_st c n e) F := by
        unfold tp_line tp_Lk
        rw [hls]
        rfl
      rw [hl]
      by_cases q9 : F 9 = 0
      · rw [if_pos q9, p1_1 w12 q9, Option.bind_some]
        dsimp only
        have N : ¬ (tp_w10 I 6 (tp_at c n e)) 4413 = 0 := tp_F10_N (tp_wr10F 6 _)
        rw [if_pos rfl]
        unfold g_X10_placeLine
        simp only [Option.bind_some, tw_let, tp_n_pass N, tp_n_must N, tp_n_aft N, tp_n_pp N, tp_n_pla N, tp_n_per N, tp_n_nam N, tp_n_num N, tp_n_nh N, tp_n_is N, tp_n_wr N, if_neg N]
        exact ⟨_, _, rfl, tp_O10_l (tp_wr10F _ _) (tp_Z10_w hQ.1 _ _)⟩
      · rw [if_neg q9]
        by_cases qr : tp_room 1 ≤ F 1
        · rw [if_pos qr, p1_2 w12 q9 (by simpa [tp_room] using qr), Option.bind_some]
          dsimp only
          have N : ¬ (tp_w10 I 5 (tp_at c n e)) 4413 = 0 := tp_F10_N (tp_wr10F 5 _)
          rw [if_pos rfl]
          unfold g_X10_placeLine
          simp only [Option.bind_some, tw_let, tp_n_pass N, tp_n_must N, tp_n_aft N, tp_n_pp N, tp_n_pla N, tp_n_per N, tp_n_nam N, tp_n_num N, tp_n_nh N, tp_n_is N, tp_n_wr N, if_neg N]
          exact ⟨_, _, rfl, tp_O10_l (tp_wr10F _ _) (tp_Z10_w hQ.1 _ _)⟩
        · have qr2 : F 1 < 6 := by simpa [tp_room] using qr
          obtain ⟨I1, A1, b1, b2, b3⟩ := p1_3 w12 q9 qr2
          rw [if_neg qr, b1, Option.bind_some]
          dsimp only
          obtain ⟨I2, A2, d1, d2⟩ := tp_r10_1 b2 b3 hW q9 qr2
          rw [if_pos rfl, d1, Option.bind_some]
          exact ⟨I2, A2, rfl, d2⟩
    · rw [p1_0 (by cases z : tp_is c n e 12 with | true => exact absurd z w12 | false => rfl), Option.bind_some]
      dsimp only
      rw [if_neg (by decide)]
      rw [tm_l_c2, Option.bind_some, hQ.2.2.2 2 (by decide), show (if (8 : Int32) ≤ nI (F 2) then some (0 : Int32) else some 1) = some (if F 2 < 8 then 1 else 0) from tp_can (r := 8) (by decide) (by omega), Option.bind_some]
      obtain ⟨p2_0, p2_1, p2_2, p2_3⟩ := tp_bg10 (i := 15) (q := 1015) hT hQ (by decide) rfl h91 (F 2 < 8) (fun q => by have := hz0 q 2 (by decide) (by decide); omega)
      by_cases w15 : tp_is c n e 15 = true
      · have hls : tp_ls c n e = 2 := by unfold tp_ls; rw [if_neg w16, if_neg w12, if_pos w15]
        have hl : tp_line c n e F = if F 9 = 0 then .inl (6, tp_at c n e) else if tp_room 2 ≤ F 2 then .inl (5, tp_at c n e) else tp_L2 c n (tp_st c n e) F := by
          unfold tp_line tp_Lk
          rw [hls]
          rfl
        rw [hl]
        by_cases q9 : F 9 = 0
        · rw [if_pos q9, p2_1 w15 q9, Option.bind_some]
          dsimp only
          have N : ¬ (tp_w10 I 6 (tp_at c n e)) 4413 = 0 := tp_F10_N (tp_wr10F 6 _)
          rw [if_pos rfl]
          unfold g_X10_seesLine
          simp only [Option.bind_some, tw_let, tp_n_pass N, tp_n_must N, tp_n_aft N, tp_n_pp N, tp_n_pla N, tp_n_per N, tp_n_nam N, tp_n_num N, tp_n_nh N, tp_n_is N, tp_n_wr N, if_neg N]
          exact ⟨_, _, rfl, tp_O10_l (tp_wr10F _ _) (tp_Z10_w hQ.1 _ _)⟩
        · rw [if_neg q9]
          by_cases qr : tp_room 2 ≤ F 2
          · rw [if_pos qr, p2_2 w15 q9 (by simpa [tp_room] using qr), Option.bind_some]
            dsimp only
            have N : ¬ (tp_w10 I 5 (tp_at c n e)) 4413 = 0 := tp_F10_N (tp_wr10F 5 _)
            rw [if_pos rfl]
            unfold g_X10_seesLine
            simp only [Option.bind_some, tw_let, tp_n_pass N, tp_n_must N, tp_n_aft N, tp_n_pp N, tp_n_pla N, tp_n_per N, tp_n_nam N, tp_n_num N, tp_n_nh N, tp_n_is N, tp_n_wr N, if_neg N]
            exact ⟨_, _, rfl, tp_O10_l (tp_wr10F _ _) (tp_Z10_w hQ.1 _ _)⟩
          · have qr2 : F 2 < 8 := by simpa [tp_room] using qr
            obtain ⟨I1, A1, b1, b2, b3⟩ := p2_3 w15 q9 qr2
            rw [if_neg qr, b1, Option.bind_some]
            dsimp only
            obtain ⟨I2, A2, d1, d2⟩ := tp_r10_2 b2 b3 hW q9 qr2
            rw [if_pos rfl, d1, Option.bind_some]
            exact ⟨I2, A2, rfl, d2⟩
      · rw [p2_0 (by cases z : tp_is c n e 15 with | true => exact absurd z w15 | false => rfl), Option.bind_some]
        dsimp only
        rw [if_neg (by decide)]
        rw [tm_l_c3, Option.bind_some, hQ.2.2.2 3 (by decide), show (if (6 : Int32) ≤ nI (F 3) then some (0 : Int32) else some 1) = some (if F 3 < 6 then 1 else 0) from tp_can (r := 6) (by decide) (by omega), Option.bind_some]
        obtain ⟨p3_0, p3_1, p3_2, p3_3⟩ := tp_bg10 (i := 11) (q := 1011) hT hQ (by decide) rfl h91 (F 3 < 6) (fun q => by have := hz0 q 3 (by decide) (by decide); omega)
        by_cases w11 : tp_is c n e 11 = true
        · have hls : tp_ls c n e = 3 := by unfold tp_ls; rw [if_neg w16, if_neg w12, if_neg w15, if_pos w11]
          have hl : tp_line c n e F = if F 9 = 0 then .inl (6, tp_at c n e) else if tp_room 3 ≤ F 3 then .inl (5, tp_at c n e) else tp_L3 c n (tp_st c n e) F := by
            unfold tp_line tp_Lk
            rw [hls]
            rfl
          rw [hl]
          by_cases q9 : F 9 = 0
          · rw [if_pos q9, p3_1 w11 q9, Option.bind_some]
            dsimp only
            have N : ¬ (tp_w10 I 6 (tp_at c n e)) 4413 = 0 := tp_F10_N (tp_wr10F 6 _)
            rw [if_pos rfl]
            unfold g_X10_personLine
            simp only [Option.bind_some, tw_let, tp_n_pass N, tp_n_must N, tp_n_aft N, tp_n_pp N, tp_n_pla N, tp_n_per N, tp_n_nam N, tp_n_num N, tp_n_nh N, tp_n_is N, tp_n_wr N, if_neg N]
            exact ⟨_, _, rfl, tp_O10_l (tp_wr10F _ _) (tp_Z10_w hQ.1 _ _)⟩
          · rw [if_neg q9]
            by_cases qr : tp_room 3 ≤ F 3
            · rw [if_pos qr, p3_2 w11 q9 (by simpa [tp_room] using qr), Option.bind_some]
              dsimp only
              have N : ¬ (tp_w10 I 5 (tp_at c n e)) 4413 = 0 := tp_F10_N (tp_wr10F 5 _)
              rw [if_pos rfl]
              unfold g_X10_personLine
              simp only [Option.bind_some, tw_let, tp_n_pass N, tp_n_must N, tp_n_aft N, tp_n_pp N, tp_n_pla N, tp_n_per N, tp_n_nam N, tp_n_num N, tp_n_nh N, tp_n_is N, tp_n_wr N, if_neg N]
              exact ⟨_, _, rfl, tp_O10_l (tp_wr10F _ _) (tp_Z10_w hQ.1 _ _)⟩
            · have qr2 : F 3 < 6 := by simpa [tp_room] using qr
              obtain ⟨I1, A1, b1, b2, b3⟩ := p3_3 w11 q9 qr2
              rw [if_neg qr, b1, Option.bind_some]
              dsimp only
              obtain ⟨I2, A2, d1, d2⟩ := tp_r10_3 b2 b3 hW q9 qr2
              rw [if_pos rfl, d1, Option.bind_some]
              exact ⟨I2, A2, rfl, d2⟩
        · rw [p3_0 (by cases z : tp_is c n e 11 with | true => exact absurd z w11 | false => rfl), Option.bind_some]
          dsimp only
          rw [if_neg (by decide)]
          rw [tm_l_c4, Option.bind_some, hQ.2.2.2 4 (by decide), show (if (10 : Int32) ≤ nI (F 4) then some (0 : Int32) else some 1) = some (if F 4 < 10 then 1 else 0) from tp_can (r := 10) (by decide) (by omega), Option.bind_some]
          obtain ⟨p4_0, p4_1, p4_2, p4_3⟩ := tp_bg10 (i := 8) (q := 1008) hT hQ (by decide) rfl h91 (F 4 < 10) (fun q => by have := hz0 q 4 (by decide) (by decide); omega)
          by_cases w8 : tp_is c n e 8 = true
          · have hls : tp_ls c n e = 4 := by unfold tp_ls; rw [if_neg w16, if_neg w12, if_neg w15, if_neg w11, if_pos w8]
            have hl : tp_line c n e F = if F 9 = 0 then .inl (6, tp_at c n e) else if tp_room 4 ≤ F 4 then .inl (5, tp_at c n e) else tp_L4 c n (tp_st c n e) F := by
              unfold tp_line tp_Lk
              rw [hls]
              rfl
            rw [hl]
            by_cases q9 : F 9 = 0
            · rw [if_pos q9, p4_1 w8 q9, Option.bind_some]
              dsimp only
              have N : ¬ (tp_w10 I 6 (tp_at c n e)) 4413 = 0 := tp_F10_N (tp_wr10F 6 _)
              rw [if_pos rfl]
              unfold g_X10_goesLine
              simp only [Option.bind_some, tw_let, tp_n_pass N, tp_n_must N, tp_n_aft N, tp_n_pp N, tp_n_pla N, tp_n_per N, tp_n_nam N, tp_n_num N, tp_n_nh N, tp_n_is N, tp_n_wr N, if_neg N]
              exact ⟨_, _, rfl, tp_O10_l (tp_wr10F _ _) (tp_Z10_w hQ.1 _ _)⟩
            · rw [if_neg q9]
              by_cases qr : tp_room 4 ≤ F 4
              · rw [if_pos qr, p4_2 w8 q9 (by simpa [tp_room] using qr), Option.bind_some]
                dsimp only
                have N : ¬ (tp_w10 I 5 (tp_at c n e)) 4413 = 0 := tp_F10_N (tp_wr10F 5 _)
                rw [if_pos rfl]
                unfold g_X10_goesLine
                simp only [Option.bind_some, tw_let, tp_n_pass N, tp_n_must N, tp_n_aft N, tp_n_pp N, tp_n_pla N, tp_n_per N, tp_n_nam N, tp_n_num N, tp_n_nh N, tp_n_is N, tp_n_wr N, if_neg N]
                exact ⟨_, _, rfl, tp_O10_l (tp_wr10F _ _) (tp_Z10_w hQ.1 _ _)⟩
              · have qr2 : F 4 < 10 := by simpa [tp_room] using qr
                obtain ⟨I1, A1, b1, b2, b3⟩ := p4_3 w8 q9 qr2
                rw [if_neg qr, b1, Option.bind_some]
                dsimp only
                obtain ⟨I2, A2, d1, d2⟩ := tp_r10_4 b2 b3 hW q9 qr2
                rw [if_pos rfl, d1, Option.bind_some]
                exact ⟨I2, A2, rfl, d2⟩
          · rw [p4_0 (by cases z : tp_is c n e 8 with | true => exact absurd z w8 | false => rfl), Option.bind_some]
            dsimp only
            rw [if_neg (by decide)]
            rw [tm_l_c5, Option.bind_some, hQ.2.2.2 5 (by decide), show (if (3 : Int32) ≤ nI (F 5) then some (0 : Int32) else some 1) = some (if F 5 < 3 then 1 else 0) from tp_can (r := 3) (by decide) (by omega), Option.bind_some]
            obtain ⟨p5_0, p5_1, p5_2, p5_3⟩ := tp_bg10 (i := 14) (q := 1014) hT hQ (by decide) rfl h91 (F 5 < 3) (fun q => by have := hz0 q 5 (by decide) (by decide); omega)
            by_cases w14 : tp_is c n e 14 = true
            · have hls : tp_ls c n e = 5 := by unfold tp_ls; rw [if_neg w16, if_neg w12, if_neg w15, if_neg w11, if_neg w8, if_pos w14]
              have hl : tp_line c n e F = if F 9 = 0 then .inl (6, tp_at c n e) else if tp_room 5 ≤ F 5 then .inl (5, tp_at c n e) else tp_L5 c n (tp_st c n e) F := by
                unfold tp_line tp_Lk
                rw [hls]
                rfl
              rw [hl]
              by_cases q9 : F 9 = 0
              · rw [if_pos q9, p5_1 w14 q9, Option.bind_some]
                dsimp only
                have N : ¬ (tp_w10 I 6 (tp_at c n e)) 4413 = 0 := tp_F10_N (tp_wr10F 6 _)
                rw [if_pos rfl]
                unfold g_X10_quarrelLine
                simp only [Option.bind_some, tw_let, tp_n_pass N, tp_n_must N, tp_n_aft N, tp_n_pp N, tp_n_pla N, tp_n_per N, tp_n_nam N, tp_n_num N, tp_n_nh N, tp_n_is N, tp_n_wr N, if_neg N]
                exact ⟨_, _, rfl, tp_O10_l (tp_wr10F _ _) (tp_Z10_w hQ.1 _ _)⟩
              · rw [if_neg q9]
                by_cases qr : tp_room 5 ≤ F 5
                · rw [if_pos qr, p5_2 w14 q9 (by simpa [tp_room] using qr), Option.bind_some]
                  dsimp only
                  have N : ¬ (tp_w10 I 5 (tp_at c n e)) 4413 = 0 := tp_F10_N (tp_wr10F 5 _)
                  rw [if_pos rfl]
                  unfold g_X10_quarrelLine
                  simp only [Option.bind_some, tw_let, tp_n_pass N, tp_n_must N, tp_n_aft N, tp_n_pp N, tp_n_pla N, tp_n_per N, tp_n_nam N, tp_n_num N, tp_n_nh N, tp_n_is N, tp_n_wr N, if_neg N]
                  exact ⟨_, _, rfl, tp_O10_l (tp_wr10F _ _) (tp_Z10_w hQ.1 _ _)⟩
                · have qr2 : F 5 < 3 := by simpa [tp_room] using qr
                  obtain ⟨I1, A1, b1, b2, b3⟩ := p5_3 w14 q9 qr2
                  rw [if_neg qr, b1, Option.bind_some]
                  dsimp only
                  obtain ⟨I2, A2, d1, d2⟩ := tp_r10_5 b2 b3 hW q9 qr2
                  rw [if_pos rfl, d1, Option.bind_some]
                  exact ⟨I2, A2, rfl, d2⟩
            · rw [p5_0 (by cases z : tp_is c n e 14 with | true => exact absurd z w14 | false => rfl), Option.bind_some]
              dsimp only
              rw [if_neg (by decide)]
              obtain ⟨p6_0, p6_1, p6_2, p6_3⟩ := tp_bg10 (i := 9) (q := 1009) hT hQ (by decide) rfl h91 True (fun _ => trivial)
              have tt : (if True then (1 : Int32) else 0) = 1 := if_pos trivial
              rw [tt] at p6_0 p6_1 p6_3
              by_cases w9 : tp_is c n e 9 = true
              · have hls : tp_ls c n e = 6 := by unfold tp_ls; rw [if_neg w16, if_neg w12, if_neg w15, if_neg w11, if_neg w8, if_neg w14, if_pos w9]
                have hl : tp_line c n e F = if F 9 = 0 then .inl (6, tp_at c n e) else if tp_room 6 ≤ F 6 then .inl (5, tp_at c n e) else tp_L6 c n (tp_st c n e) F := by
                  unfold tp_line tp_Lk
                  rw [hls]
                  rfl
                rw [hl]
                by_cases q9 : F 9 = 0
                · rw [if_pos q9, p6_1 w9 q9, Option.bind_some]
                  dsimp only
                  have N : ¬ (tp_w10 I 6 (tp_at c n e)) 4413 = 0 := tp_F10_N (tp_wr10F 6 _)
                  rw [if_pos rfl]
                  unfold g_X10_hireLine
                  simp only [Option.bind_some, tw_let, tp_n_pass N, tp_n_must N, tp_n_aft N, tp_n_pp N, tp_n_pla N, tp_n_per N, tp_n_nam N, tp_n_num N, tp_n_nh N, tp_n_is N, tp_n_wr N, if_neg N]
                  exact ⟨_, _, rfl, tp_O10_l (tp_wr10F _ _) (tp_Z10_w hQ.1 _ _)⟩
                · rw [if_neg q9]
                  have := tp_G6_6 hW.2.2.2.2.2.1
                  have := tp_G8_3 hW.2.2.2.2.2.2.2.1
                  have qr : ¬ tp_room 6 ≤ F 6 := by
                    show ¬ 900 ≤ F 6
                    omega
                  obtain ⟨I1, A1, b1, b2, b3⟩ := p6_3 w9 q9 trivial
                  rw [if_neg qr, b1, Option.bind_some]
                  dsimp only
                  obtain ⟨I2, A2, d1, d2⟩ := tp_r10_6 b2 b3 hW q9
                  rw [if_pos rfl, d1, Option.bind_some]
                  exact ⟨I2, A2, rfl, d2⟩
              · rw [p6_0 (by cases z : tp_is c n e 9 with | true => exact absurd z w9 | false => rfl), Option.bind_some]
                dsimp only
                rw [if_neg (by decide)]
                rw [tm_l_c7, Option.bind_some, hQ.2.2.2 7 (by decide), show (if (4 : Int32) ≤ nI (F 7) then some (0 : Int32) else some 1) = some (if F 7 < 4 then 1 else 0) from tp_can (r := 4) (by decide) (by omega), Option.bind_some]
                obtain ⟨p7_0, p7_1, p7_2, p7_3⟩ := tp_bg10 (i := 17) (q := 1017) hT hQ (by decide) rfl h91 (F 7 < 4) (fun q => by have := hz0 q 7 (by decide) (by decide); omega)
                by_cases w17 : tp_is c n e 17 = true
                · have hls : tp_ls c n e = 7 := by unfold tp_ls; rw [if_neg w16, if_neg w12, if_neg w15, if_neg w11, if_neg w8, if_neg w14, if_neg w9, if_pos w17]
                  have hl : tp_line c n e F = if F 9 = 0 then .inl (6, tp_at c n e) else if tp_room 7 ≤ F 7 then .inl (5, tp_at c n e) else tp_L7 c n (tp_st c n e) F := by
                    unfold tp_line tp_Lk
                    rw [hls]
                    rfl
                  rw [hl]
                  by_cases q9 : F 9 = 0
                  · rw [if_pos q9, p7_1 w17 q9, Option.bind_some]
                    dsimp only
                    have N : ¬ (tp_w10 I 6 (tp_at c n e)) 4413 = 0 := tp_F10_N (tp_wr10F 6 _)
                    rw [if_pos rfl]
                    unfold g_X10_unsureLine
                    simp only [Option.bind_some, tw_let, tp_n_pass N, tp_n_must N, tp_n_aft N, tp_n_pp N, tp_n_pla N, tp_n_per N, tp_n_nam N, tp_n_num N, tp_n_nh N, tp_n_is N, tp_n_wr N, if_neg N]
                    exact ⟨_, _, rfl, tp_O10_l (tp_wr10F _ _) (tp_Z10_w hQ.1 _ _)⟩
                  · rw [if_neg q9]
                    by_cases qr : tp_room 7 ≤ F 7
                    · rw [if_pos qr, p7_2 w17 q9 (by simpa [tp_room] using qr), Option.bind_some]
                      dsimp only
                      have N : ¬ (tp_w10 I 5 (tp_at c n e)) 4413 = 0 := tp_F10_N (tp_wr10F 5 _)
                      rw [if_pos rfl]
                      unfold g_X10_unsureLine
                      simp only [Option.bind_some, tw_let, tp_n_pass N, tp_n_must N, tp_n_aft N, tp_n_pp N, tp_n_pla N, tp_n_per N, tp_n_nam N, tp_n_num N, tp_n_nh N, tp_n_is N, tp_n_wr N, if_neg N]
                      exact ⟨_, _, rfl, tp_O10_l (tp_wr10F _ _) (tp_Z10_w hQ.1 _ _)⟩
                    · have qr2 : F 7 < 4 := by simpa [tp_room] using qr
                      obtain ⟨I1, A1, b1, b2, b3⟩ := p7_3 w17 q9 qr2
                      rw [if_neg qr, b1, Option.bind_some]
                      dsimp only
                      obtain ⟨I2, A2, d1, d2⟩ := tp_r10_7 b2 b3 hW q9 qr2
                      rw [if_pos rfl, d1, Option.bind_some]
                      exact ⟨I2, A2, rfl, d2⟩
                · rw [p7_0 (by cases z : tp_is c n e 17 with | true => exact absurd z w17 | false => rfl), Option.bind_some]
                  dsimp only
                  rw [if_neg (by decide)]
                  obtain ⟨p8_0, p8_1, p8_2, p8_3⟩ := tp_bg10 (i := 5) (q := 1005) hT hQ (by decide) rfl h91 True (fun _ => trivial)
                  have tt : (if True then (1 : Int32) else 0) = 1 := if_pos trivial
                  rw [tt] at p8_0 p8_1 p8_3
                  by_cases w5 : tp_is c n e 5 = true
                  · have hls : tp_ls c n e = 8 := by unfold tp_ls; rw [if_neg w16, if_neg w12, if_neg w15, if_neg w11, if_neg w8, if_neg w14, if_neg w9, if_neg w17, if_pos w5]
                    have hl : tp_line c n e F = if F 9 = 0 then .inl (6, tp_at c n e) else if tp_room 8 ≤ F 8 then .inl (5, tp_at c n e) else tp_L8 c n (tp_st c n e) F := by
                      unfold tp_line tp_Lk
                      rw [hls]
                      rfl
                    rw [hl]
                    by_cases q9 : F 9 = 0
                    · rw [if_pos q9, p8_1 w5 q9, Option.bind_some]
                      dsimp only
                      have N : ¬ (tp_w10 I 6 (tp_at c n e)) 4413 = 0 := tp_F10_N (tp_wr10F 6 _)
                      rw [if_pos rfl]
                      unfold g_X10_endedLine
                      simp only [Option.bind_some, tw_let, tp_n_pass N, tp_n_must N, tp_n_aft N, tp_n_pp N, tp_n_pla N, tp_n_per N, tp_n_nam N, tp_n_num N, tp_n_nh N, tp_n_is N, tp_n_wr N, if_neg N]
                      exact ⟨_, _, rfl, tp_O10_l (tp_wr10F _ _) (tp_Z10_w hQ.1 _ _)⟩
                    · rw [if_neg q9]
                      have := tp_G6_6 hW.2.2.2.2.2.1
                      have := tp_G8_3 hW.2.2.2.2.2.2.2.1
                      have qr : ¬ tp_room 8 ≤ F 8 := by
                        show ¬ 900 ≤ F 8
                        omega
                      obtain ⟨I1, A1, b1, b2, b3⟩ := p8_3 w5 q9 trivial
                      rw [if_neg qr, b1, Option.bind_some]
                      dsimp only
                      obtain ⟨I2, A2, d1, d2⟩ := tp_r10_8 b2 b3 hW q9
                      rw [if_pos rfl, d1, Option.bind_some]
                      exact ⟨I2, A2, rfl, d2⟩
                  · rw [p8_0 (by cases z : tp_is c n e 5 with | true => exact absurd z w5 | false => rfl), Option.bind_some]
                    dsimp only
                    rw [if_neg (by decide)]
                    have hls : tp_ls c n e = 9 := by unfold tp_ls; rw [if_neg w16, if_neg w12, if_neg w15, if_neg w11, if_neg w8, if_neg w14, if_neg w9, if_neg w17, if_neg w5]
                    have hw : g_X10_wrong I (1 : Int32) (I 4404) = tp_w10 I 1 (tp_at c n e) := by rw [hT.2.2.2.1]; exact tp_wr10 hQ.2.1 1 _
                    dsimp only [tw_let]
                    rw [hw]
                    refine ⟨_, _, rfl, ?_⟩
                    unfold tp_line
                    rw [hls, if_pos rfl]
                    exact tp_O10_l (tp_wr10F _ _) (tp_Z10_w hQ.1 _ _)
