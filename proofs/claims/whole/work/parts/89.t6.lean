/-! MATHEMATICS, 40: what a line says; what holds of a town that is being told -/
def tp_lt (F : Nat → Nat) (p : Nat) : Nat → Nat
  | 0 => 0
  | k + 1 => if F (50 + 3 * k) = p ∧ tp_lt F p k < F (52 + 3 * k) then F (52 + 3 * k) else tp_lt F p k
def tp_hs (F : Nat → Nat) (p q : Nat) : Nat → Bool
  | 0 => false
  | k + 1 => tp_hs F p q k || decide (F (10 + 2 * k) = p ∧ F (11 + 2 * k) = q)
def tp_hu (F : Nat → Nat) (p : Nat) : Nat → Bool
  | 0 => false
  | k + 1 => tp_hu F p k || decide (F (95 + 2 * k) = p)
def tp_A0 (F : Nat → Nat) (v : Nat) : Nat → Nat := va_up (va_up F 0 v) 9 1
def tp_A1 (F : Nat → Nat) : Nat → Nat := va_up F 1 (F 1 + 1)
def tp_A2 (F : Nat → Nat) (p q : Nat) : Nat → Nat := va_up (va_up (va_up F (10 + 2 * F 2) p) (11 + 2 * F 2) q) 2 (F 2 + 1)
def tp_A3 (F : Nat → Nat) (k p w : Nat) : Nat → Nat := va_up (va_up (va_up (va_up F (26 + 4 * F 3) k) (27 + 4 * F 3) p) (28 + 4 * F 3) w) 3 (F 3 + 1)
def tp_A4 (F : Nat → Nat) (m p t : Nat) : Nat → Nat := va_up (va_up (va_up (va_up F (50 + 3 * F 4) m) (51 + 3 * F 4) p) (52 + 3 * F 4) t) 4 (F 4 + 1)
def tp_A5 (F : Nat → Nat) (a b p f w : Nat) : Nat → Nat := va_up (va_up (va_up (va_up (va_up (va_up F (80 + 5 * F 5) a) (81 + 5 * F 5) b) (82 + 5 * F 5) p) (83 + 5 * F 5) f) (84 + 5 * F 5) w) 5 (F 5 + 1)
def tp_A6 (F : Nat → Nat) (m s : Nat) : Nat → Nat := va_up (va_up F (29 + 4 * m) (s + 1)) 6 (F 6 + 1)
def tp_A7 (F : Nat → Nat) (m w : Nat) : Nat → Nat := va_up (va_up (va_up F (95 + 2 * F 7) m) (96 + 2 * F 7) w) 7 (F 7 + 1)
def tp_A8 (F : Nat → Nat) (q t : Nat) : Nat → Nat := va_up (va_up F (103 + q) (t + 1)) 8 (F 8 + 1)
abbrev tp_S : Type := (Nat × Nat) ⊕ (Nat × (Nat → Nat))
def tp_L0 (c : Nat → Nat) (n e : Nat) (F : Nat → Nat) : tp_S := tp_b (tp_wo c n e 3) fun _ => tp_b (tp_wh c n (tp_st c n e) 0 100) fun v => .inr (tp_st c n (tp_st c n e), tp_A0 F v)
def tp_L1 (c : Nat → Nat) (n e : Nat) (F : Nat → Nat) : tp_S := tp_b (tp_na c n e F) fun _ => .inr (tp_st c n e, tp_A1 (tp_nf c n e F (F 1)))
def tp_L2 (c : Nat → Nat) (n e : Nat) (F : Nat → Nat) : tp_S := tp_b (tp_to c n e F 0 6) fun p => tp_b (tp_to c n (tp_st c n e) F 0 6) fun q => if p = q ∨ tp_hs F p q (F 2) = true then .inl (3, tp_at c n (tp_st c n e)) else .inr (tp_st c n (tp_st c n e), tp_A2 F p q)
def tp_L3b (c : Nat → Nat) (n e : Nat) (F : Nat → Nat) : tp_S := tp_b (tp_ki c n e) fun k => tp_b (tp_wo c n (tp_st c n e) 0) fun _ => tp_b (tp_to c n (tp_st c n (tp_st c n e)) F 0 6) fun p => tp_b (tp_wo c n (tp_st c n (tp_st c n (tp_st c n e))) 18) fun _ => tp_b (tp_wh c n (tp_st c n (tp_st c n (tp_st c n (tp_st c n e)))) 0 9) fun w => .inr (tp_st c n (tp_st c n (tp_st c n (tp_st c n (tp_st c n e)))), tp_A3 F k p w)
def tp_L3 (c : Nat → Nat) (n e : Nat) (F : Nat → Nat) : tp_S := tp_b (tp_na c n e F) fun _ => tp_L3b c n (tp_st c n e) (tp_nf c n e F (6 + F 3))
def tp_L4 (c : Nat → Nat) (n e : Nat) (F : Nat → Nat) : tp_S := tp_b (tp_to c n e F 6 6) fun m => tp_b (tp_to c n (tp_st c n e) F 0 6) fun p => tp_b (tp_wo c n (tp_st c n (tp_st c n e)) 0) fun _ => tp_b (tp_wh c n (tp_st c n (tp_st c n (tp_st c n e))) 1 59) fun t => if tp_lt F m (F 4) < t then .inr (tp_st c n (tp_st c n (tp_st c n (tp_st c n e))), tp_A4 F m p t) else .inl (7, tp_at c n (tp_st c n (tp_st c n (tp_st c n e))))
def tp_L5c (c : Nat → Nat) (n e : Nat) (F : Nat → Nat) (a b : Nat) : tp_S := tp_b (tp_wo c n e 0) fun _ => tp_b (tp_to c n (tp_st c n e) F 0 6) fun p => tp_b (tp_wo c n (tp_st c n (tp_st c n e)) 7) fun _ => tp_b (tp_wh c n (tp_st c n (tp_st c n (tp_st c n e))) 0 59) fun f => tp_b (tp_wo c n (tp_st c n (tp_st c n (tp_st c n (tp_st c n e)))) 10) fun _ => tp_b (tp_wh c n (tp_st c n (tp_st c n (tp_st c n (tp_st c n (tp_st c n e))))) 1 99) fun w => .inr (tp_st c n (tp_st c n (tp_st c n (tp_st c n (tp_st c n (tp_st c n e))))), tp_A5 F a b p f w)
def tp_L5b (c : Nat → Nat) (n e : Nat) (F : Nat → Nat) : tp_S := tp_b (tp_to c n e F 6 6) fun a => tp_b (tp_to c n (tp_st c n e) F 6 6) fun b => if a = b then .inl (3, tp_at c n (tp_st c n e)) else tp_L5c c n (tp_st c n (tp_st c n e)) F a b
def tp_L5 (c : Nat → Nat) (n e : Nat) (F : Nat → Nat) : tp_S := tp_b (tp_na c n e F) fun _ => tp_L5b c n (tp_st c n e) (tp_nf c n e F (12 + F 5))
def tp_L6 (c : Nat → Nat) (n e : Nat) (F : Nat → Nat) : tp_S := tp_b (tp_to c n e F 6 6) fun m => if F (29 + 4 * m) = 0 then tp_b (tp_wo c n (tp_st c n e) 6) fun _ => tp_b (tp_wh c n (tp_st c n (tp_st c n e)) 0 20) fun s => .inr (tp_st c n (tp_st c n (tp_st c n e)), tp_A6 F m s) else .inl (3, tp_at c n e)
def tp_L7 (c : Nat → Nat) (n e : Nat) (F : Nat → Nat) : tp_S := tp_b (tp_to c n e F 6 6) fun m => if tp_hu F m (F 7) = true then .inl (3, tp_at c n e) else tp_b (tp_wh c n (tp_st c n e) 0 9) fun w => .inr (tp_st c n (tp_st c n e), tp_A7 F m w)
def tp_L8 (c : Nat → Nat) (n e : Nat) (F : Nat → Nat) : tp_S := tp_b (tp_to c n e F 12 3) fun q => if F (103 + q) = 0 then tp_b (tp_wo c n (tp_st c n e) 0) fun _ => tp_b (tp_wh c n (tp_st c n (tp_st c n e)) 0 59) fun t => .inr (tp_st c n (tp_st c n (tp_st c n e)), tp_A8 F q t) else .inl (3, tp_at c n e)
def tp_room (k : Nat) : Nat := if k = 1 then 6 else if k = 2 then 8 else if k = 3 then 6 else if k = 4 then 10 else if k = 5 then 3 else if k = 6 then 900 else if k = 7 then 4 else 900
def tp_Lk (c : Nat → Nat) (n e : Nat) (F : Nat → Nat) (k : Nat) : tp_S := if k = 1 then tp_L1 c n e F else if k = 2 then tp_L2 c n e F else if k = 3 then tp_L3 c n e F else if k = 4 then tp_L4 c n e F else if k = 5 then tp_L5 c n e F else if k = 6 then tp_L6 c n e F else if k = 7 then tp_L7 c n e F else tp_L8 c n e F
def tp_line (c : Nat → Nat) (n e : Nat) (F : Nat → Nat) : tp_S := if tp_ls c n e = 9 then .inl (1, tp_at c n e) else if tp_ls c n e = 0 then (if F 9 = 0 then tp_L0 c n (tp_st c n e) F else .inl (3, tp_at c n e)) else if F 9 = 0 then .inl (6, tp_at c n e) else if tp_room (tp_ls c n e) ≤ F (tp_ls c n e) then .inl (5, tp_at c n e) else tp_Lk c n (tp_st c n e) F (tp_ls c n e)
/-- what holds -/
def tp_h (v : Nat) : Nat := if v = 0 then 0 else 1
def tp_G1 (F : Nat → Nat) : Prop := F 9 ≤ 1 ∧ (F 9 = 0 → ∀ j, 1 ≤ j → j < 9 → F j = 0) ∧ F 0 ≤ 100 ∧ F 1 ≤ 6 ∧ F 2 ≤ 8 ∧ F 3 ≤ 6 ∧ F 4 ≤ 10 ∧ F 5 ≤ 3 ∧ F 7 ≤ 4
def tp_G2 (F : Nat → Nat) : Prop := ∀ k, k < F 2 → F (10 + 2 * k) < F 1 ∧ F (11 + 2 * k) < F 1
def tp_G3 (F : Nat → Nat) : Prop := ∀ p, p < F 3 → F (26 + 4 * p) ≤ 3 ∧ F (27 + 4 * p) < F 1 ∧ F (28 + 4 * p) ≤ 9
def tp_G4 (F : Nat → Nat) : Prop := ∀ k, k < F 4 → F (50 + 3 * k) < F 3 ∧ F (51 + 3 * k) < F 1 ∧ F (52 + 3 * k) ≤ 59
def tp_G5 (F : Nat → Nat) : Prop := ∀ q, q < F 5 → F (80 + 5 * q) < F 3 ∧ F (81 + 5 * q) < F 3 ∧ F (82 + 5 * q) < F 1 ∧ F (83 + 5 * q) ≤ 59 ∧ 1 ≤ F (84 + 5 * q) ∧ F (84 + 5 * q) ≤ 99
def tp_G6 (F : Nat → Nat) : Prop := (∀ p, p < 6 → F (29 + 4 * p) ≤ 21) ∧ (∀ p, F 3 ≤ p → p < 6 → F (29 + 4 * p) = 0) ∧ F 6 = tm_sm (fun p => tp_h (F (29 + 4 * p))) 6
def tp_G7 (F : Nat → Nat) : Prop := ∀ k, k < F 7 → F (95 + 2 * k) < F 3 ∧ F (96 + 2 * k) ≤ 9 ∧ ∀ j, j < k → F (95 + 2 * j) ≠ F (95 + 2 * k)
def tp_G8 (F : Nat → Nat) : Prop := (∀ q, q < 3 → F (103 + q) ≤ 60) ∧ F 8 = tm_sm (fun q => tp_h (F (103 + q))) 3
def tp_WB (F : Nat → Nat) (d1 d3 d5 : Nat) : Prop := ∀ s, s < 15 → 0 < F (106 + s) → (s < 6 → s < F 1 + d1) ∧ (6 ≤ s → s < 12 → s < 6 + F 3 + d3) ∧ (12 ≤ s → s < 12 + F 5 + d5)
def tp_WF (F : Nat → Nat) (d1 d3 d5 : Nat) : Prop := tp_G1 F ∧ tp_G2 F ∧ tp_G3 F ∧ tp_G4 F ∧ tp_G5 F ∧ tp_G6 F ∧ tp_G7 F ∧ tp_G8 F ∧ tp_WN F ∧ tp_WB F d1 d3 d5
theorem tp_h1 (v : Nat) : tp_h v ≤ 1 := by
  unfold tp_h
  split <;> omega
theorem tp_G6_6 {F : Nat → Nat} (h : tp_G6 F) : F 6 ≤ 6 := by
  rw [h.2.2]
  exact tm_sm_le (c := 1) (n := 6) (fun i _ => tp_h1 _)
theorem tp_G8_3 {F : Nat → Nat} (h : tp_G8 F) : F 8 ≤ 3 := by
  rw [h.2]
  exact tm_sm_le (c := 1) (n := 3) (fun i _ => tp_h1 _)
theorem tp_WF_W {F : Nat → Nat} (h : tp_WF F 0 0 0) (h1 : 0 < F 1) : tm_W F := by
  obtain ⟨⟨a1, a2, a3, a4, a5, a6, a7, a8, a9⟩, g2, g3, g4, g5, g6, g7, g8, -, -⟩ := h
  exact ⟨a3, a4, a5, a6, a7, a8, tp_G6_6 g6, a9, tp_G8_3 g8, g2, g3, g6.1, g4, g5, g7, g8.1, g6.2.1, fun q => by omega⟩
theorem tp_sm_1 {f g : Nat → Nat} {n i : Nat} (hi : i < n) (h : g i = f i + 1) (ho : ∀ j, j ≠ i → g j = f j) : tm_sm g n = tm_sm f n + 1 := by
  induction n with
  | zero => omega
  | succ n ih =>
    rw [tm_sm, tm_sm]
    by_cases q : i = n
    · subst q
      rw [h, tm_sm_cong (fun j hj => ho j (by omega))]
      omega
    · rw [ih (by omega), ho n (fun w => q w.symm)]
      omega
section
variable {F G : Nat → Nat}
theorem tp_t2 (h : tp_G2 F) (h2 : G 2 = F 2) (h1 : F 1 ≤ G 1) (hb : F 2 ≤ 8) (hv : ∀ j, 10 ≤ j → j < 26 → G j = F j) : tp_G2 G := fun k hk => by
  rw [h2] at hk
  have := h k hk
  rw [hv (10 + 2 * k) (by omega) (by omega), hv (11 + 2 * k) (by omega) (by omega)]
  omega
theorem tp_t3 (h : tp_G3 F) (h2 : G 3 = F 3) (h1 : F 1 ≤ G 1) (hb : F 3 ≤ 6) (hv : ∀ p, p < 6 → G (26 + 4 * p) = F (26 + 4 * p) ∧ G (27 + 4 * p) = F (27 + 4 * p) ∧ G (28 + 4 * p) = F (28 + 4 * p)) : tp_G3 G := fun k hk => by
  rw [h2] at hk
  have := h k hk
  obtain ⟨a, b, c⟩ := hv k (by omega)
  rw [a, b, c]
  omega
theorem tp_t4 (h : tp_G4 F) (h2 : G 4 = F 4) (h1 : F 1 ≤ G 1) (h3 : F 3 ≤ G 3) (hb : F 4 ≤ 10) (hv : ∀ j, 50 ≤ j → j < 80 → G j = F j) : tp_G4 G := fun k hk => by
  rw [h2] at hk
  have := h k hk
  rw [hv (50 + 3 * k) (by omega) (by omega), hv (51 + 3 * k) (by omega) (by omega), hv (52 + 3 * k) (by omega) (by omega)]
  omega
theorem tp_t5 (h : tp_G5 F) (h2 : G 5 = F 5) (h1 : F 1 ≤ G 1) (h3 : F 3 ≤ G 3) (hb : F 5 ≤ 3) (hv : ∀ j, 80 ≤ j → j < 95 → G j = F j) : tp_G5 G := fun k hk => by
  rw [h2] at hk
  have := h k hk
  rw [hv (80 + 5 * k) (by omega) (by omega), hv (81 + 5 * k) (by omega) (by omega), hv (82 + 5 * k) (by omega) (by omega), hv (83 + 5 * k) (by omega) (by omega), hv (84 + 5 * k) (by omega) (by omega)]
  omega
theorem tp_t6 (h : tp_G6 F) (h2 : G 6 = F 6) (h3 : F 3 ≤ G 3) (hv : ∀ p, p < 6 → G (29 + 4 * p) = F (29 + 4 * p)) : tp_G6 G := by
  refine ⟨fun p hp => ?_, fun p hp h6 => ?_, ?_⟩
  · rw [hv p hp]; exact h.1 p hp
  · rw [hv p h6]; exact h.2.1 p (by omega) h6
  · rw [h2, h.2.2]
    exact tm_sm_cong fun p hp => by rw [hv p hp]
theorem tp_t7 (h : tp_G7 F) (h2 : G 7 = F 7) (h3 : F 3 ≤ G 3) (hb : F 7 ≤ 4) (hv : ∀ j, 95 ≤ j → j < 103 → G j = F j) : tp_G7 G := fun k hk => by
  rw [h2] at hk
  obtain ⟨a, b, d⟩ := h k hk
  rw [hv (95 + 2 * k) (by omega) (by omega), hv (96 + 2 * k) (by omega) (by omega)]
  refine ⟨by omega, b, fun j hj => ?_⟩
  rw [hv (95 + 2 * j) (by omega) (by omega)]
  exact d j hj
theorem tp_t8 (h : tp_G8 F) (h2 : G 8 = F 8) (hv : ∀ q, q < 3 → G (103 + q) = F (103 + q)) : tp_G8 G := by
  refine ⟨fun p hp => ?_, ?_⟩
  · rw [hv p hp]; exact h.1 p hp
  · rw [h2, h.2]
    exact tm_sm_cong fun p hp => by rw [hv p hp]
theorem tp_tN (h : tp_WN F) (hv : ∀ j, 106 ≤ j → G j = F j) : tp_WN G := by
  have hf : ∀ s, tp_fv G s = tp_fv F s := fun s => by
    unfold tp_fv
    rw [hv _ (by omega)]
    exact tp_wv_cong fun j _ => hv _ (by omega)
  refine ⟨fun s hs => ?_, fun s t hs ht a b d => ?_⟩
  · rw [hv _ (by omega)]
    obtain ⟨x, y⟩ := h.1 s hs
    refine ⟨x, fun j hj => ?_⟩
    rw [hv _ (by omega)]
    exact y j hj
  · rw [hv _ (by omega)] at a b
    rw [hf, hf] at d
    exact h.2 s t hs ht a b d
theorem tp_tB {d1 d3 d5 e1 e3 e5 : Nat} (h : tp_WB F d1 d3 d5) (hv : ∀ j, 106 ≤ j → G j = F j) (h1 : F 1 + d1 ≤ G 1 + e1) (h3 : F 3 + d3 ≤ G 3 + e3) (h5 : F 5 + d5 ≤ G 5 + e5) : tp_WB G e1 e3 e5 := fun s hs h0 => by
  rw [hv _ (by omega)] at h0
  obtain ⟨a, b, d⟩ := h s hs h0
  exact ⟨fun q => by have := a q; omega, fun q r => by have := b q r; omega, fun q => by have := d q; omega⟩
end
theorem tp_WF_nf {c : Nat → Nat} {n e : Nat} {F : Nat → Nat} {s d1 d3 d5 : Nat} (h : tp_WF F 0 0 0) (hs : s < 15) (h1 : tp_kd c n e = 1) (hf : tp_fd c n e F = 15) (hb : (s < 6 → s < F 1 + d1) ∧ (6 ≤ s → s < 12 → s < 6 + F 3 + d3) ∧ (12 ≤ s → s < 12 + F 5 + d5)) : tp_WF (tp_nf c n e F s) d1 d3 d5 := by
  obtain ⟨g1, g2, g3, g4, g5, g6, g7, g8, gN, gB⟩ := h
  have lo : ∀ j, j < 106 → tp_nf c n e F s j = F j := fun j hj => tp_nf_lo hj
  have l1 := lo 1 (by decide)
  have l3 := lo 3 (by decide)
  have l5 := lo 5 (by decide)
  obtain ⟨a1, a2, a3, a4, a5, a6, a7, a8, a9⟩ := id g1
  refine ⟨?_, tp_t2 g2 (lo 2 (by decide)) (by omega) a5 (fun j _ h => lo j (by omega)), tp_t3 g3 l3 (by omega) a6 (fun p hp => ⟨lo _ (by omega), lo _ (by omega), lo _ (by omega)⟩), tp_t4 g4 (lo 4 (by decide)) (by omega) (by omega) a7 (fun j _ h => lo j (by omega)), tp_t5 g5 l5 (by omega) (by omega) a8 (fun j _ h => lo j (by omega)), tp_t6 g6 (lo 6 (by decide)) (by omega) (fun p hp => lo _ (by omega)), tp_t7 g7 (lo 7 (by decide)) (by omega) a9 (fun j _ h => lo j (by omega)), tp_t8 g8 (lo 8 (by decide)) (fun q hq => lo _ (by omega)), tp_WN_nf hs gN h1 hf, fun t ht h0 => ?_⟩
  · unfold tp_G1
    rw [lo 9 (by decide), lo 0 (by decide), l1, lo 2 (by decide), l3, lo 4 (by decide), l5, lo 7 (by decide)]
    exact ⟨a1, fun q j j1 j2 => by rw [lo j (by omega)]; exact a2 q j j1 j2, a3, a4, a5, a6, a7, a8, a9⟩
  · rw [l1, l3, l5]
    by_cases q : t = s
    · rw [q]; exact hb
    · rw [tp_nf_so ht q] at h0
      obtain ⟨x, y, z⟩ := gB t ht h0
      exact ⟨fun w => by have := x w; omega, fun w v => by have := y w v; omega, fun w => by have := z w; omega⟩
section
variable {F : Nat → Nat}
theorem tp_WF0 {v : Nat} (h : tp_WF F 0 0 0) (h9 : F 9 = 0) (hv : v ≤ 100) : tp_WF (tp_A0 F v) 0 0 0 := by
  obtain ⟨⟨a1, a2, a3, a4, a5, a6, a7, a8, a9⟩, g2, g3, g4, g5, g6, g7, g8, gN, gB⟩ := h
  have lo : ∀ j, j ≠ 0 → j ≠ 9 → tp_A0 F v j = F j := fun j h1 h2 => by unfold tp_A0; rw [tm_vn _ h2, tm_vn _ h1]
  have l1 := lo 1 (by decide) (by decide)
  have l3 := lo 3 (by decide) (by decide)
  have l5 := lo 5 (by decide) (by decide)
  have z9 : tp_A0 F v 9 = 1 := tm_vs _ _ _
  have z0 : tp_A0 F v 0 = v := by unfold tp_A0; rw [tm_vn _ (by decide), tm_vs]
  refine ⟨?_, tp_t2 g2 (lo 2 (by decide) (by decide)) (by omega) a5 (fun j _ h => lo j (by omega) (by omega)), tp_t3 g3 l3 (by omega) a6 (fun p hp => ⟨lo _ (by omega) (by omega), lo _ (by omega) (by omega), lo _ (by omega) (by omega)⟩), tp_t4 g4 (lo 4 (by decide) (by decide)) (by omega) (by omega) a7 (fun j _ h => lo j (by omega) (by omega)), tp_t5 g5 l5 (by omega) (by omega) a8 (fun j _ h => lo j (by omega) (by omega)), tp_t6 g6 (lo 6 (by decide) (by decide)) (by omega) (fun p hp => lo _ (by omega) (by omega)), tp_t7 g7 (lo 7 (by decide) (by decide)) (by omega) a9 (fun j _ h => lo j (by omega) (by omega)), tp_t8 g8 (lo 8 (by decide) (by decide)) (fun q hq => lo _ (by omega) (by omega)), tp_tN gN (fun j hj => lo j (by omega) (by omega)), tp_tB gB (fun j hj => lo j (by omega) (by omega)) (by omega) (by omega) (by omega)⟩
  unfold tp_G1
  rw [z9, z0, l1, lo 2 (by decide) (by decide), l3, lo 4 (by decide) (by decide), l5, lo 7 (by decide) (by decide)]
  exact ⟨Nat.le_refl _, fun q => by omega, hv, a4, a5, a6, a7, a8, a9⟩
theorem tp_WF1 (h : tp_WF F 1 0 0) (h9 : F 9 ≠ 0) (hr : F 1 < 6) : tp_WF (tp_A1 F) 0 0 0 := by
  obtain ⟨⟨a1, a2, a3, a4, a5, a6, a7, a8, a9⟩, g2, g3, g4, g5, g6, g7, g8, gN, gB⟩ := h
  have lo : ∀ j, j ≠ 1 → tp_A1 F j = F j := fun j h1 => tm_vn _ h1
  have z1 : tp_A1 F 1 = F 1 + 1 := tm_vs _ _ _
  have l3 := lo 3 (by decide)
  have l5 := lo 5 (by decide)
  refine ⟨?_, tp_t2 g2 (lo 2 (by decide)) (by omega) a5 (fun j _ h => lo j (by omega)), tp_t3 g3 l3 (by omega) a6 (fun p hp => ⟨lo _ (by omega), lo _ (by omega), lo _ (by omega)⟩), tp_t4 g4 (lo 4 (by decide)) (by omega) (by omega) a7 (fun j _ h => lo j (by omega)), tp_t5 g5 l5 (by omega) (by omega) a8 (fun j _ h => lo j (by omega)), tp_t6 g6 (lo 6 (by decide)) (by omega) (fun p hp => lo _ (by omega)), tp_t7 g7 (lo 7 (by decide)) (by omega) a9 (fun j _ h => lo j (by omega)), tp_t8 g8 (lo 8 (by decide)) (fun q hq => lo _ (by omega)), tp_tN gN (fun j hj => lo j (by omega)), tp_tB gB (fun j hj => lo j (by omega)) (by omega) (by omega) (by omega)⟩
  unfold tp_G1
  rw [z1, lo 9 (by decide), lo 0 (by decide), lo 2 (by decide), l3, lo 4 (by decide), l5, lo 7 (by decide)]
  exact ⟨a1, fun q => absurd q h9, a3, by omega, a5, a6, a7, a8, a9⟩
theorem tp_A2v (p q : Nat) (hk : F 2 < 8) : tp_A2 F p q 2 = F 2 + 1 ∧ tp_A2 F p q (10 + 2 * F 2) = p ∧ tp_A2 F p q (11 + 2 * F 2) = q ∧ ∀ j, j ≠ 2 → j ≠ 10 + 2 * F 2 → j ≠ 11 + 2 * F 2 → tp_A2 F p q j = F j := by
  unfold tp_A2
  refine ⟨tm_vs _ _ _, ?_, ?_, fun j h1 h2 h3 => ?_⟩
  · rw [tm_vn _ (by omega), tm_vn _ (by omega), tm_vs]
  · rw [tm_vn _ (by omega), tm_vs]
  · rw [tm_vn _ h1, tm_vn _ h3, tm_vn _ h2]
theorem tp_WF2 {p q : Nat} (h : tp_WF F 0 0 0) (h9 : F 9 ≠ 0) (hr : F 2 < 8) (hp : p < F 1) (hq : q < F 1) : tp_WF (tp_A2 F p q) 0 0 0 := by
  obtain ⟨⟨a1, a2, a3, a4, a5, a6, a7, a8, a9⟩, g2, g3, g4, g5, g6, g7, g8, gN, gB⟩ := h
  obtain ⟨v1, v2, v3, v4⟩ := tp_A2v (F := F) p q hr
  generalize tp_A2 F p q = G at v1 v2 v3 v4 ⊢
  have lo : ∀ j, j ≠ 2 → (j < 10 ∨ 26 ≤ j) → G j = F j := fun j h1 h2 => v4 j h1 (by omega) (by omega)
  have l1 := lo 1 (by decide) (by decide)
  have l3 := lo 3 (by decide) (by decide)
  have l5 := lo 5 (by decide) (by decide)
  refine ⟨?_, fun k hk => ?_, tp_t3 g3 l3 (by omega) a6 (fun p hp => ⟨lo _ (by omega) (by omega), lo _ (by omega) (by omega), lo _ (by omega) (by omega)⟩), tp_t4 g4 (lo 4 (by decide) (by decide)) (by omega) (by omega) a7 (fun j _ h => lo j (by omega) (by omega)), tp_t5 g5 l5 (by omega) (by omega) a8 (fun j _ h => lo j (by omega) (by omega)), tp_t6 g6 (lo 6 (by decide) (by decide)) (by omega) (fun p hp => lo _ (by omega) (by omega)), tp_t7 g7 (lo 7 (by decide) (by decide)) (by omega) a9 (fun j _ h => lo j (by omega) (by omega)), tp_t8 g8 (lo 8 (by decide) (by decide)) (fun q hq => lo _ (by omega) (by omega)), tp_tN gN (fun j hj => lo j (by omega) (by omega)), tp_tB gB (fun j hj => lo j (by omega) (by omega)) (by omega) (by omega) (by omega)⟩
  · unfold tp_G1
    rw [v1, lo 9 (by decide) (by decide), lo 0 (by decide) (by decide), l1, l3, lo 4 (by decide) (by decide), l5, lo 7 (by decide) (by decide)]
    exact ⟨a1, fun q => absurd q h9, a3, a4, by omega, a6, a7, a8, a9⟩
  · rw [v1] at hk
    rw [l1]
    by_cases w : k = F 2
    · rw [w, v2, v3]; exact ⟨hp, hq⟩
    · rw [v4 _ (by omega) (by omega) (by omega), v4 _ (by omega) (by omega) (by omega)]
      exact g2 k (by omega)
theorem tp_A3v (k p w : Nat) (hk : F 3 < 6) : tp_A3 F k p w 3 = F 3 + 1 ∧ tp_A3 F k p w (26 + 4 * F 3) = k ∧ tp_A3 F k p w (27 + 4 * F 3) = p ∧ tp_A3 F k p w (28 + 4 * F 3) = w ∧ ∀ j, j ≠ 3 → j ≠ 26 + 4 * F 3 → j ≠ 27 + 4 * F 3 → j ≠ 28 + 4 * F 3 → tp_A3 F k p w j = F j := by
  unfold tp_A3
  refine ⟨tm_vs _ _ _, ?_, ?_, ?_, fun j h1 h2 h3 h4 => ?_⟩
  · rw [tm_vn _ (by omega), tm_vn _ (by omega), tm_vn _ (by omega), tm_vs]
  · rw [tm_vn _ (by omega), tm_vn _ (by omega), tm_vs]
  · rw [tm_vn _ (by omega), tm_vs]
  · rw [tm_vn _ h1, tm_vn _ h4, tm_vn _ h3, tm_vn _ h2]
theorem tp_WF3 {k p w : Nat} (h : tp_WF F 0 1 0) (h9 : F 9 ≠ 0) (hr : F 3 < 6) (hk : k ≤ 3) (hp : p < F 1) (hw : w ≤ 9) : tp_WF (tp_A3 F k p w) 0 0 0 := by
  obtain ⟨⟨a1, a2, a3, a4, a5, a6, a7, a8, a9⟩, g2, g3, g4, g5, g6, g7, g8, gN, gB⟩ := h
  obtain ⟨v1, v2, v3, v4, v5⟩ := tp_A3v (F := F) k p w hr
  generalize tp_A3 F k p w = G at v1 v2 v3 v4 v5 ⊢
  have lo : ∀ j, j ≠ 3 → (j < 26 ∨ 50 ≤ j) → G j = F j := fun j h1 h2 => v5 j h1 (by omega) (by omega) (by omega)
  have l1 := lo 1 (by decide) (by decide)
  have l5 := lo 5 (by decide) (by decide)
  refine ⟨?_, tp_t2 g2 (lo 2 (by decide) (by decide)) (by omega) a5 (fun j _ h => lo j (by omega) (by omega)), fun m hm => ?_, tp_t4 g4 (lo 4 (by decide) (by decide)) (by omega) (by omega) a7 (fun j _ h => lo j (by omega) (by omega)), tp_t5 g5 l5 (by omega) (by omega) a8 (fun j _ h => lo j (by omega) (by omega)), tp_t6 g6 (lo 6 (by decide) (by decide)) (by omega) (fun p hp => v5 _ (by omega) (by omega) (by omega) (by omega)), tp_t7 g7 (lo 7 (by decide) (by decide)) (by omega) a9 (fun j _ h => lo j (by omega) (by omega)), tp_t8 g8 (lo 8 (by decide) (by decide)) (fun q hq => lo _ (by omega) (by omega)), tp_tN gN (fun j hj => lo j (by omega) (by omega)), tp_tB gB (fun j hj => lo j (by omega) (by omega)) (by omega) (by omega) (by omega)⟩
  · unfold tp_G1
    rw [v1, lo 9 (by decide) (by decide), lo 0 (by decide) (by decide), l1, lo 2 (by decide) (by decide), lo 4 (by decide) (by decide), l5, lo 7 (by decide) (by decide)]
    exact ⟨a1, fun q => absurd q h9, a3, a4, a5, by omega, a7, a8, a9⟩
  · rw [v1] at hm
    rw [l1]
    by_cases q : m = F 3
    · rw [q, v2, v3, v4]; exact ⟨hk, hp, hw⟩
    · rw [v5 _ (by omega) (by omega) (by omega) (by omega), v5 _ (by omega) (by omega) (by omega) (by omega), v5 _ (by omega) (by omega) (by omega) (by omega)]
      exact g3 m (by omega)
theorem tp_A4v (m p t : Nat) (hk : F 4 < 10) : tp_A4 F m p t 4 = F 4 + 1 ∧ tp_A4 F m p t (50 + 3 * F 4) = m ∧ tp_A4 F m p t (51 + 3 * F 4) = p ∧ tp_A4 F m p t (52 + 3 * F 4) = t ∧ ∀ j, j ≠ 4 → j ≠ 50 + 3 * F 4 → j ≠ 51 + 3 * F 4 → j ≠ 52 + 3 * F 4 → tp_A4 F m p t j = F j := by
  unfold tp_A4
  refine ⟨tm_vs _ _ _, ?_, ?_, ?_, fun j h1 h2 h3 h4 => ?_⟩
  · rw [tm_vn _ (by omega), tm_vn _ (by omega), tm_vn _ (by omega), tm_vs]
  · rw [tm_vn _ (by omega), tm_vn _ (by omega), tm_vs]
  · rw [tm_vn _ (by omega), tm_vs]
  · rw [tm_vn _ h1, tm_vn _ h4, tm_vn _ h3, tm_vn _ h2]
theorem tp_WF4 {m p t : Nat} (h : tp_WF F 0 0 0) (h9 : F 9 ≠ 0) (hr : F 4 < 10) (hm : m < F 3) (hp : p < F 1) (ht : t ≤ 59) : tp_WF (tp_A4 F m p t) 0 0 0 := by
  obtain ⟨⟨a1, a2, a3, a4, a5, a6, a7, a8, a9⟩, g2, g3, g4, g5, g6, g7, g8, gN, gB⟩ := h
  obtain ⟨v1, v2, v3, v4, v5⟩ := tp_A4v (F := F) m p t hr
  generalize tp_A4 F m p t = G at v1 v2 v3 v4 v5 ⊢
  have lo : ∀ j, j ≠ 4 → (j < 50 ∨ 80 ≤ j) → G j = F j := fun j h1 h2 => v5 j h1 (by omega) (by omega) (by omega)
  have l1 := lo 1 (by decide) (by decide)
  have l3 := lo 3 (by decide) (by decide)
  have l5 := lo 5 (by decide) (by decide)
  refine ⟨?_, tp_t2 g2 (lo 2 (by decide) (by decide)) (by omega) a5 (fun j _ h => lo j (by omega) (by omega)), tp_t3 g3 l3 (by omega) a6 (fun p hp => ⟨lo _ (by omega) (by omega), lo _ (by omega) (by omega), lo _ (by omega) (by omega)⟩), fun k hk => ?_, tp_t5 g5 l5 (by omega) (by omega) a8 (fun j _ h => lo j (by omega) (by omega)), tp_t6 g6 (lo 6 (by decide) (by decide)) (by omega) (fun p hp => lo _ (by omega) (by omega)), tp_t7 g7 (lo 7 (by decide) (by decide)) (by omega) a9 (fun j _ h => lo j (by omega) (by omega)), tp_t8 g8 (lo 8 (by decide) (by decide)) (fun q hq => lo _ (by omega) (by omega)), tp_tN gN (fun j hj => lo j (by omega) (by omega)), tp_tB gB (fun j hj => lo j (by omega) (by omega)) (by omega) (by omega) (by omega)⟩
  · unfold tp_G1
    rw [v1, lo 9 (by decide) (by decide), lo 0 (by decide) (by decide), l1, lo 2 (by decide) (by decide), l3, l5, lo 7 (by decide) (by decide)]
    exact ⟨a1, fun q => absurd q h9, a3, a4, a5, a6, by omega, a8, a9⟩
  · rw [v1] at hk
    rw [l1, l3]
    by_cases q : k = F 4
    · rw [q, v2, v3, v4]; exact ⟨hm, hp, ht⟩
    · rw [v5 _ (by omega) (by omega) (by omega) (by omega), v5 _ (by omega) (by omega) (by omega) (by omega), v5 _ (by omega) (by omega) (by omega) (by omega)]
      exact g4 k (by omega)
theorem tp_A5v (a b p f w : Nat) (hk : F 5 < 3) : tp_A5 F a b p f w 5 = F 5 + 1 ∧ tp_A5 F a b p f w (80 + 5 * F 5) = a ∧ tp_A5 F a b p f w (81 + 5 * F 5) = b ∧ tp_A5 F a b p f w (82 + 5 * F 5) = p ∧ tp_A5 F a b p f w (83 + 5 * F 5) = f ∧ tp_A5 F a b p f w (84 + 5 * F 5) = w ∧ ∀ j, j ≠ 5 → (j < 80 + 5 * F 5 ∨ 84 + 5 * F 5 < j) → tp_A5 F a b p f w j = F j := by
  unfold tp_A5
  refine ⟨tm_vs _ _ _, ?_, ?_, ?_, ?_, ?_, fun j h1 h2 => ?_⟩
  · rw [tm_vn _ (by omega), tm_vn _ (by omega), tm_vn _ (by omega), tm_vn _ (by omega), tm_vn _ (by omega), tm_vs]
  · rw [tm_vn _ (by omega), tm_vn _ (by omega), tm_vn _ (by omega), tm_vn _ (by omega), tm_vs]
  · rw [tm_vn _ (by omega), tm_vn _ (by omega), tm_vn _ (by omega), tm_vs]
  · rw [tm_vn _ (by omega), tm_vn _ (by omega), tm_vs]
  · rw [tm_vn _ (by omega), tm_vs]
  · rw [tm_vn _ h1, tm_vn _ (by omega), tm_vn _ (by omega), tm_vn _ (by omega), tm_vn _ (by omega), tm_vn _ (by omega)]
theorem tp_WF5 {a b p f w : Nat} (h : tp_WF F 0 0 1) (h9 : F 9 ≠ 0) (hr : F 5 < 3) (ha : a < F 3) (hb : b < F 3) (hp : p < F 1) (hf : f ≤ 59) (hw0 : 1 ≤ w) (hw : w ≤ 99) : tp_WF (tp_A5 F a b p f w) 0 0 0 := by
  obtain ⟨⟨a1, a2, a3, a4, a5, a6, a7, a8, a9⟩, g2, g3, g4, g5, g6, g7, g8, gN, gB⟩ := h
  obtain ⟨v1, v2, v3, v4, v5, v6, v7⟩ := tp_A5v (F := F) a b p f w hr
  generalize tp_A5 F a b p f w = G at v1 v2 v3 v4 v5 v6 v7 ⊢
  have lo : ∀ j, j ≠ 5 → (j < 80 ∨ 95 ≤ j) → G j = F j := fun j h1 h2 => v7 j h1 (by omega)
  have l1 := lo 1 (by decide) (by decide)
  have l3 := lo 3 (by decide) (by decide)
  refine ⟨?_, tp_t2 g2 (lo 2 (by decide) (by decide)) (by omega) a5 (fun j _ h => lo j (by omega) (by omega)), tp_t3 g3 l3 (by omega) a6 (fun p hp => ⟨lo _ (by omega) (by omega), lo _ (by omega) (by omega), lo _ (by omega) (by omega)⟩), tp_t4 g4 (lo 4 (by decide) (by decide)) (by omega) (by omega) a7 (fun j _ h => lo j (by omega) (by omega)), fun k hk => ?_, tp_t6 g6 (lo 6 (by decide) (by decide)) (by omega) (fun p hp => lo _ (by omega) (by omega)), tp_t7 g7 (lo 7 (by decide) (by decide)) (by omega) a9 (fun j _ h => lo j (by omega) (by omega)), tp_t8 g8 (lo 8 (by decide) (by decide)) (fun q hq => lo _ (by omega) (by omega)), tp_tN gN (fun j hj => lo j (by omega) (by omega)), tp_tB gB (fun j hj => lo j (by omega) (by omega)) (by omega) (by omega) (by omega)⟩
  · unfold tp_G1
    rw [v1, lo 9 (by decide) (by decide), lo 0 (by decide) (by decide), l1, lo 2 (by decide) (by decide), l3, lo 4 (by decide) (by decide), lo 7 (by decide) (by decide)]
    exact ⟨a1, fun q => absurd q h9, a3, a4, a5, a6, a7, by omega, a9⟩
  · rw [v1] at hk
    rw [l1, l3]
    by_cases q : k = F 5
    · rw [q, v2, v3, v4, v5, v6]; exact ⟨ha, hb, hp, hf, hw0, hw⟩
    · rw [v7 _ (by omega) (by omega), v7 _ (by omega) (by omega), v7 _ (by omega) (by omega), v7 _ (by omega) (by omega), v7 _ (by omega) (by omega)]
      exact g5 k (by omega)
theorem tp_A6v {m : Nat} (s : Nat) (hm : m < 6) : tp_A6 F m s 6 = F 6 + 1 ∧ tp_A6 F m s (29 + 4 * m) = s + 1 ∧ ∀ j, j ≠ 6 → j ≠ 29 + 4 * m → tp_A6 F m s j = F j := by
  unfold tp_A6
  refine ⟨tm_vs _ _ _, ?_, fun j h1 h2 => ?_⟩
  · rw [tm_vn _ (by omega), tm_vs]
  · rw [tm_vn _ h1, tm_vn _ h2]
theorem tp_WF6 {m s : Nat} (h : tp_WF F 0 0 0) (h9 : F 9 ≠ 0) (hm : m < F 3) (h0 : F (29 + 4 * m) = 0) (hs : s ≤ 20) : tp_WF (tp_A6 F m s) 0 0 0 := by
  obtain ⟨⟨a1, a2, a3, a4, a5, a6, a7, a8, a9⟩, g2, g3, g4, g5, g6, g7, g8, gN, gB⟩ := h
  obtain ⟨v1, v2, v3⟩ := tp_A6v (F := F) s (show m < 6 by omega)
  generalize tp_A6 F m s = G at v1 v2 v3 ⊢
  have lo : ∀ j, j ≠ 6 → (j < 29 ∨ 50 ≤ j) → G j = F j := fun j h1 h2 => v3 j h1 (by omega)
  have l1 := lo 1 (by decide) (by decide)
  have l3 := lo 3 (by decide) (by decide)
  have l5 := lo 5 (by decide) (by decide)
  refine ⟨?_, tp_t2 g2 (lo 2 (by decide) (by decide)) (by omega) a5 (fun j _ h => lo j (by omega) (by omega)), tp_t3 g3 l3 (by omega) a6 (fun p hp => ⟨v3 _ (by omega) (by omega), v3 _ (by omega) (by omega), v3 _ (by omega) (by omega)⟩), tp_t4 g4 (lo 4 (by decide) (by decide)) (by omega) (by omega) a7 (fun j _ h => lo j (by omega) (by omega)), tp_t5 g5 l5 (by omega) (by omega) a8 (fun j _ h => lo j (by omega) (by omega)), ⟨fun p hp => ?_, fun p hp h6 => ?_, ?_⟩, tp_t7 g7 (lo 7 (by decide) (by decide)) (by omega) a9 (fun j _ h => lo j (by omega) (by omega)), tp_t8 g8 (lo 8 (by decide) (by decide)) (fun q hq => lo _ (by omega) (by omega)), tp_tN gN (fun j hj => lo j (by omega) (by omega)), tp_tB gB (fun j hj => lo j (by omega) (by omega)) (by omega) (by omega) (by omega)⟩
  · unfold tp_G1
    rw [lo 9 (by decide) (by decide), lo 0 (by decide) (by decide), l1, lo 2 (by decide) (by decide), l3, lo 4 (by decide) (by decide), l5, lo 7 (by decide) (by decide)]
    exact ⟨a1, fun q => absurd q h9, a3, a4, a5, a6, a7, a8, a9⟩
  · by_cases q : p = m
    · rw [q, v2]; omega
    · rw [v3 _ (by omega) (by omega)]; exact g6.1 p hp
  · rw [v3 _ (by omega) (by omega)]
    exact g6.2.1 p (by omega) h6
  · rw [v1, g6.2.2]
    refine (tp_sm_1 (i := m) (by omega) ?_ fun j hj => ?_).symm
    · rw [v2, h0]
      rfl
    · rw [v3 _ (by omega) (by omega)]
theorem tp_A7v (m w : Nat) (hk : F 7 < 4) : tp_A7 F m w 7 = F 7 + 1 ∧ tp_A7 F m w (95 + 2 * F 7) = m ∧ tp_A7 F m w (96 + 2 * F 7) = w ∧ ∀ j, j ≠ 7 → j ≠ 95 + 2 * F 7 → j ≠ 96 + 2 * F 7 → tp_A7 F m w j = F j := by
  unfold tp_A7
  refine ⟨tm_vs _ _ _, ?_, ?_, fun j h1 h2 h3 => ?_⟩
  · rw [tm_vn _ (by omega), tm_vn _ (by omega), tm_vs]
  · rw [tm_vn _ (by omega), tm_vs]
  · rw [tm_vn _ h1, tm_vn _ h3, tm_vn _ h2]
theorem tp_hu_t {p : Nat} : ∀ {k : Nat}, tp_hu F p k = true ↔ ∃ j, j < k ∧ F (95 + 2 * j) = p
  | 0 => by
    rw [tp_hu]
    exact ⟨fun q => absurd q (by decide), fun ⟨j, h, _⟩ => absurd h (Nat.not_lt_zero _)⟩
  | k + 1 => by
    rw [tp_hu, Bool.or_eq_true, tp_hu_t, decide_eq_true_eq]
    constructor
    · rintro (⟨j, h1, h2⟩ | h)
      · exact ⟨j, by omega, h2⟩
      · exact ⟨k, by omega, h⟩
    · rintro ⟨j, h1, h2⟩
      by_cases q : j = k
      · rw [q] at h2; exact Or.inr h2
      · exact Or.inl ⟨j, by omega, h2⟩
theorem tp_hs_t {p q : Nat} : ∀ {k : Nat}, tp_hs F p q k = true ↔ ∃ j, j < k ∧ F (10 + 2 * j) = p ∧ F (11 + 2 * j) = q
  | 0 => by
    rw [tp_hs]
    exact ⟨fun q => absurd q (by decide), fun ⟨j, h, _⟩ => absurd h (Nat.not_lt_zero _)⟩
  | k + 1 => by
    rw [tp_hs, Bool.or_eq_true, tp_hs_t, decide_eq_true_eq]
    constructor
    · rintro (⟨j, h1, h2⟩ | h)
      · exact ⟨j, by omega, h2⟩
      · exact ⟨k, by omega, h⟩
    · rintro ⟨j, h1, h2⟩
      by_cases w : j = k
      · rw [w] at h2; exact Or.inr h2
      · exact Or.inl ⟨j, by omega, h2⟩
theorem tp_lt_le {p t : Nat} : ∀ {k : Nat}, t ≤ tp_lt F p k ∧ 0 < t ↔ 0 < t ∧ ∃ j, j < k ∧ F (50 + 3 * j) = p ∧ t ≤ F (52 + 3 * j)
  | 0 => by
    rw [tp_lt]
    exact ⟨fun q => by omega, fun ⟨_, j, h, _⟩ => absurd h (Nat.not_lt_zero _)⟩
  | k + 1 => by
    have ih := tp_lt_le (p := p) (t := t) (k := k)
    rw [tp_lt]
    constructor
    · rintro ⟨h, h0⟩
      refine ⟨h0, ?_⟩
      split at h
      · next g => exact ⟨k, by omega, g.1, h⟩
      · obtain ⟨_, j, j1, j2, j3⟩ := ih.mp ⟨h, h0⟩
        exact ⟨j, by omega, j2, j3⟩
    · rintro ⟨h0, j, j1, j2, j3⟩
      refine ⟨?_, h0⟩
      by_cases q : j = k
      · subst q
        split
        · exact j3
        · omega
      · have := (ih.mpr ⟨h0, j, by omega, j2, j3⟩).1
        split <;> omega
theorem tp_WF7 {m w : Nat} (h : tp_WF F 0 0 0) (h9 : F 9 ≠ 0) (hr : F 7 < 4) (hm : m < F 3) (hu : ¬ tp_hu F m (F 7) = true) (hw : w ≤ 9) : tp_WF (tp_A7 F m w) 0 0 0 := by
  obtain ⟨⟨a1, a2, a3, a4, a5, a6, a7, a8, a9⟩, g2, g3, g4, g5, g6, g7, g8, gN, gB⟩ := h
  obtain ⟨v1, v2, v3, v4⟩ := tp_A7v (F := F) m w hr
  generalize tp_A7 F m w = G at v1 v2 v3 v4 ⊢
  have lo : ∀ j, j ≠ 7 → (j < 95 ∨ 103 ≤ j) → G j = F j := fun j h1 h2 => v4 j h1 (by omega) (by omega)
  have l1 := lo 1 (by decide) (by decide)
  have l3 := lo 3 (by decide) (by decide)
  have l5 := lo 5 (by decide) (by decide)
  refine ⟨?_, tp_t2 g2 (lo 2 (by decide) (by decide)) (by omega) a5 (fun j _ h => lo j (by omega) (by omega)), tp_t3 g3 l3 (by omega) a6 (fun p hp => ⟨lo _ (by omega) (by omega), lo _ (by omega) (by omega), lo _ (by omega) (by omega)⟩), tp_t4 g4 (lo 4 (by decide) (by decide)) (by omega) (by omega) a7 (fun j _ h => lo j (by omega) (by omega)), tp_t5 g5 l5 (by omega) (by omega) a8 (fun j _ h => lo j (by omega) (by omega)), tp_t6 g6 (lo 6 (by decide) (by decide)) (by omega) (fun p hp => lo _ (by omega) (by omega)), fun k hk => ?_, tp_t8 g8 (lo 8 (by decide) (by decide)) (fun q hq => lo _ (by omega) (by omega)), tp_tN gN (fun j hj => lo j (by omega) (by omega)), tp_tB gB (fun j hj => lo j (by omega) (by omega)) (by omega) (by omega) (by omega)⟩
  · unfold tp_G1
    rw [v1, lo 9 (by decide) (by decide), lo 0 (by decide) (by decide), l1, lo 2 (by decide) (by decide), l3, lo 4 (by decide) (by decide), l5]
    exact ⟨a1, fun q => absurd q h9, a3, a4, a5, a6, a7, a8, by omega⟩
  · rw [v1] at hk
    rw [l3]
    by_cases q : k = F 7
    · rw [q, v2, v3]
      refine ⟨hm, hw, fun j hj => ?_⟩
      rw [v4 _ (by omega) (by omega) (by omega)]
      exact fun z => hu (tp_hu_t.mpr ⟨j, hj, z⟩)
    · rw [v4 _ (by omega) (by omega) (by omega), v4 _ (by omega) (by omega) (by omega)]
      obtain ⟨x, y, z⟩ := g7 k (by omega)
      refine ⟨x, y, fun j hj => ?_⟩
      rw [v4 _ (by omega) (by omega) (by omega)]
      exact z j hj
theorem tp_A8v {q : Nat} (t : Nat) (hq : q < 3) : tp_A8 F q t 8 = F 8 + 1 ∧ tp_A8 F q t (103 + q) = t + 1 ∧ ∀ j, j ≠ 8 → j ≠ 103 + q → tp_A8 F q t j = F j := by
  unfold tp_A8
  refine ⟨tm_vs _ _ _, ?_, fun j h1 h2 => ?_⟩
  · rw [tm_vn _ (by omega), tm_vs]
  · rw [tm_vn _ h1, tm_vn _ h2]
theorem tp_WF8 {m t : Nat} (h : tp_WF F 0 0 0) (h9 : F 9 ≠ 0) (hm : m < 3) (h0 : F (103 + m) = 0) (ht : t ≤ 59) : tp_WF (tp_A8 F m t) 0 0 0 := by
  obtain ⟨⟨a1, a2, a3, a4, a5, a6, a7, a8, a9⟩, g2, g3, g4, g5, g6, g7, g8, gN, gB⟩ := h
  obtain ⟨v1, v2, v3⟩ := tp_A8v (F := F) t hm
  generalize tp_A8 F m t = G at v1 v2 v3 ⊢
  have lo : ∀ j, j ≠ 8 → (j < 103 ∨ 106 ≤ j) → G j = F j := fun j h1 h2 => v3 j h1 (by omega)
  have l1 := lo 1 (by decide) (by decide)
  have l3 := lo 3 (by decide) (by decide)
  have l5 := lo 5 (by decide) (by decide)
  refine ⟨?_, tp_t2 g2 (lo 2 (by decide) (by decide)) (by omega) a5 (fun j _ h => lo j (by omega) (by omega)), tp_t3 g3 l3 (by omega) a6 (fun p hp => ⟨lo _ (by omega) (by omega), lo _ (by omega) (by omega), lo _ (by omega) (by omega)⟩), tp_t4 g4 (lo 4 (by decide) (by decide)) (by omega) (by omega) a7 (fun j _ h => lo j (by omega) (by omega)), tp_t5 g5 l5 (by omega) (by omega) a8 (fun j _ h => lo j (by omega) (by omega)), tp_t6 g6 (lo 6 (by decide) (by decide)) (by omega) (fun p hp => lo _ (by omega) (by omega)), tp_t7 g7 (lo 7 (by decide) (by decide)) (by omega) a9 (fun j _ h => lo j (by omega) (by omega)), ⟨fun p hp => ?_, ?_⟩, tp_tN gN (fun j hj => lo j (by omega) (by omega)), tp_tB gB (fun j hj => lo j (by omega) (by omega)) (by omega) (by omega) (by omega)⟩
  · unfold tp_G1
    rw [lo 9 (by decide) (by decide), lo 0 (by decide) (by decide), l1, lo 2 (by decide) (by decide), l3, lo 4 (by decide) (by decide), l5, lo 7 (by decide) (by decide)]
    exact ⟨a1, fun q => absurd q h9, a3, a4, a5, a6, a7, a8, a9⟩
  · by_cases q : p = m
    · rw [q, v2]; omega
    · rw [v3 _ (by omega) (by omega)]; exact g8.1 p hp
  · rw [v1, g8.2]
    refine (tp_sm_1 (i := m) (by omega) ?_ fun j hj => ?_).symm
    · rw [v2, h0]
      rfl
    · rw [v3 _ (by omega) (by omega)]
end
