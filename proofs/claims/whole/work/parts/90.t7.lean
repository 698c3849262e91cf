/-! MATHEMATICS, 41: what the class's lines put into the town that is being told -/
def tp_C (A : Nat → Nat → Int32) (T : Nat → Nat) : Prop := (∀ j, j < 9 → A 15 j = nI (T j)) ∧ (∀ k, k < T 2 → A 16 k = nI (T (10 + 2 * k)) ∧ A 17 k = nI (T (11 + 2 * k))) ∧ (∀ p, p < T 3 → A 18 p = nI (T (26 + 4 * p)) ∧ A 19 p = nI (T (28 + 4 * p)) ∧ ∀ m, m < 60 → A 21 (60 * p + m) = nI (tm_sp T p m)) ∧ (∀ p, p < 6 → A 20 p = tm_o (T (29 + 4 * p))) ∧ (∀ q, q < T 5 → ∀ w, w < 5 → A 22 (5 * q + w) = nI (T (80 + 5 * q + w))) ∧ (∀ q, q < 3 → A 23 q = tm_o (T (103 + q))) ∧ (∀ i, i < T 7 → A 24 i = nI (T (95 + 2 * i)) ∧ A 25 i = nI (T (96 + 2 * i)))
theorem tp_C_C {A : Nat → Nat → Int32} {T : Nat → Nat} (hW : tm_W T) (h : tp_C A T) : tm_C (fun c => A (c + 12)) T := ⟨h.1, h.2.1, h.2.2.1, fun p hp => h.2.2.2.1 p (Nat.lt_of_lt_of_le hp (tm_W_b3 hW)), h.2.2.2.2.1, fun q hq => h.2.2.2.2.2.1 q (Nat.lt_of_lt_of_le hq (tm_W_b5 hW)), h.2.2.2.2.2.2⟩
theorem tp_spk_eq {F G : Nat → Nat} {p m : Nat} : ∀ {k : Nat}, G (27 + 4 * p) = F (27 + 4 * p) → (∀ j, j < k → G (50 + 3 * j) = F (50 + 3 * j) ∧ G (51 + 3 * j) = F (51 + 3 * j) ∧ G (52 + 3 * j) = F (52 + 3 * j)) → tm_spk G p m k = tm_spk F p m k
  | 0, h, _ => h
  | k + 1, h, hv => by
    obtain ⟨a, b, c⟩ := hv k (by omega)
    rw [tm_spk, tm_spk, tp_spk_eq h (fun j hj => hv j (by omega)), a, b, c]
theorem tp_lt_eq {F G : Nat → Nat} {p : Nat} : ∀ {k : Nat}, (∀ j, j < k → G (50 + 3 * j) = F (50 + 3 * j) ∧ G (52 + 3 * j) = F (52 + 3 * j)) → tp_lt G p k = tp_lt F p k
  | 0, _ => rfl
  | k + 1, hv => by
    obtain ⟨a, c⟩ := hv k (by omega)
    rw [tp_lt, tp_lt, tp_lt_eq (fun j hj => hv j (by omega)), a, c]
theorem tp_spk_no {F : Nat → Nat} {p m : Nat} : ∀ {k : Nat}, (∀ j, j < k → F (50 + 3 * j) ≠ p) → tm_spk F p m k = F (27 + 4 * p)
  | 0, _ => rfl
  | k + 1, hv => by
    rw [tm_spk, if_neg (fun q => hv k (by omega) q.1), tp_spk_no (fun j hj => hv j (by omega))]
section
variable {A B : Nat → Nat → Int32} {F G : Nat → Nat}
theorem tp_c1 (h : tp_C A F) {k : Nat} (hA : B 15 = upd (A 15) k (nI (F k + 1))) (hk : G k = F k + 1) (ho : ∀ j, j < 9 → j ≠ k → G j = F j) : ∀ j, j < 9 → B 15 j = nI (G j) := fun j hj => by
  rw [hA]
  by_cases q : j = k
  · rw [q, tm_us, hk]
  · rw [tm_un _ q, ho j hj q]
    exact h.1 j hj
theorem tp_c2 (h : tp_C A F) (h1 : B 16 = A 16) (h2 : B 17 = A 17) (h3 : G 2 = F 2) (hv : ∀ k, k < F 2 → G (10 + 2 * k) = F (10 + 2 * k) ∧ G (11 + 2 * k) = F (11 + 2 * k)) : ∀ k, k < G 2 → B 16 k = nI (G (10 + 2 * k)) ∧ B 17 k = nI (G (11 + 2 * k)) := fun k hk => by
  rw [h3] at hk
  obtain ⟨a, b⟩ := hv k hk
  rw [h1, h2, a, b]
  exact h.2.1 k hk
theorem tp_c3 (h : tp_C A F) (h1 : B 18 = A 18) (h2 : B 19 = A 19) (h21 : B 21 = A 21) (h3 : G 3 = F 3) (h4 : G 4 = F 4) (hb : F 3 ≤ 6) (hv : ∀ p, p < 6 → G (26 + 4 * p) = F (26 + 4 * p) ∧ G (27 + 4 * p) = F (27 + 4 * p) ∧ G (28 + 4 * p) = F (28 + 4 * p)) (hg : ∀ k, k < F 4 → G (50 + 3 * k) = F (50 + 3 * k) ∧ G (51 + 3 * k) = F (51 + 3 * k) ∧ G (52 + 3 * k) = F (52 + 3 * k)) : ∀ p, p < G 3 → B 18 p = nI (G (26 + 4 * p)) ∧ B 19 p = nI (G (28 + 4 * p)) ∧ ∀ m, m < 60 → B 21 (60 * p + m) = nI (tm_sp G p m) := fun p hp => by
  rw [h3] at hp
  obtain ⟨a, b, c⟩ := hv p (by omega)
  obtain ⟨x, y, z⟩ := h.2.2.1 p hp
  rw [h1, h2, h21, a, c]
  refine ⟨x, y, fun m hm => ?_⟩
  rw [z m hm]
  unfold tm_sp
  rw [h4, tp_spk_eq b hg]
theorem tp_c4 (h : tp_C A F) (h1 : B 20 = A 20) (hv : ∀ p, p < 6 → G (29 + 4 * p) = F (29 + 4 * p)) : ∀ p, p < 6 → B 20 p = tm_o (G (29 + 4 * p)) := fun p hp => by
  rw [h1, hv p hp]
  exact h.2.2.2.1 p hp
theorem tp_c5 (h : tp_C A F) (h1 : B 22 = A 22) (h3 : G 5 = F 5) (hb : F 5 ≤ 3) (hv : ∀ j, 80 ≤ j → j < 95 → G j = F j) : ∀ q, q < G 5 → ∀ w, w < 5 → B 22 (5 * q + w) = nI (G (80 + 5 * q + w)) := fun q hq w hw => by
  rw [h3] at hq
  rw [h1, hv _ (by omega) (by omega)]
  exact h.2.2.2.2.1 q hq w hw
theorem tp_c6 (h : tp_C A F) (h1 : B 23 = A 23) (hv : ∀ q, q < 3 → G (103 + q) = F (103 + q)) : ∀ q, q < 3 → B 23 q = tm_o (G (103 + q)) := fun q hq => by
  rw [h1, hv q hq]
  exact h.2.2.2.2.2.1 q hq
theorem tp_c7 (h : tp_C A F) (h1 : B 24 = A 24) (h2 : B 25 = A 25) (h3 : G 7 = F 7) (hv : ∀ k, k < F 7 → G (95 + 2 * k) = F (95 + 2 * k) ∧ G (96 + 2 * k) = F (96 + 2 * k)) : ∀ i, i < G 7 → B 24 i = nI (G (95 + 2 * i)) ∧ B 25 i = nI (G (96 + 2 * i)) := fun i hi => by
  rw [h3] at hi
  obtain ⟨a, b⟩ := hv i hi
  rw [h1, h2, a, b]
  exact h.2.2.2.2.2.2 i hi
theorem tp_C_of (h : tp_C A F) (hA : ∀ d, 14 < d → d < 26 → B d = A d) (hG : ∀ j, j < 106 → G j = F j) (hW : tp_G1 F) : tp_C B G := by
  obtain ⟨a1, a2, a3, a4, a5, a6, a7, a8, a9⟩ := hW
  exact ⟨fun j hj => by rw [hA 15 (by decide) (by decide), hG j (by omega)]; exact h.1 j hj, tp_c2 h (hA _ (by decide) (by decide)) (hA _ (by decide) (by decide)) (hG _ (by decide)) (fun k hk => ⟨hG _ (by omega), hG _ (by omega)⟩), tp_c3 h (hA _ (by decide) (by decide)) (hA _ (by decide) (by decide)) (hA _ (by decide) (by decide)) (hG _ (by decide)) (hG _ (by decide)) a6 (fun p hp => ⟨hG _ (by omega), hG _ (by omega), hG _ (by omega)⟩) (fun p hp => ⟨hG _ (by omega), hG _ (by omega), hG _ (by omega)⟩), tp_c4 h (hA _ (by decide) (by decide)) (fun p hp => hG _ (by omega)), tp_c5 h (hA _ (by decide) (by decide)) (hG _ (by decide)) a8 (fun j _ _ => hG j (by omega)), tp_c6 h (hA _ (by decide) (by decide)) (fun q hq => hG _ (by omega)), tp_c7 h (hA _ (by decide) (by decide)) (hA _ (by decide) (by decide)) (hG _ (by decide)) (fun k hk => ⟨hG _ (by omega), hG _ (by omega)⟩)⟩
theorem tp_one (h : tp_C A F) {k : Nat} (hk : k < 9) : g_X8_addOne_14 A (nI k) = (nI (F k), va_up A 15 (upd (A 15) k (nI (F k + 1)))) := by
  unfold g_X8_addOne_14
  have e : g_X8_count_14 A (nI k) = nI (F k) := by
    unfold g_X8_count_14
    rw [tm_get hk (by decide), h.1 k hk]
  rw [e, tm_put hk (by decide), ← nI_succ]
theorem tp_rd {i v : Nat} (hi : i < 8) (h : A 31 i = nI v) : g_X4_readAt A (nI i) = nI v := by
  unfold g_X4_readAt
  rw [tm_get hi (by decide), h]
theorem tp_ad0 {v : Nat} (h : tp_C A F) (hW : tp_G1 F) (h0 : A 31 0 = nI v) (I : Nat → Int32) : ∃ B, g_X4_addBoys I A = (true, upd I 2602 (1 : Int32), B) ∧ tp_C B (tp_A0 F v) ∧ ∀ d, (d < 15 ∨ 25 < d) → B d = A d := by
  obtain ⟨a1, a2, a3, a4, a5, a6, a7, a8, a9⟩ := hW
  refine ⟨va_up A 15 (upd (A 15) 0 (nI v)), ?_, ?_, fun d hd => tm_vn _ (by omega)⟩
  · unfold g_X4_addBoys
    rw [show g_X4_readAt A (0 : Int32) = nI v from tp_rd (i := 0) (by decide) h0, show tw_put0 9 (A 15) (0 : Int32) (nI v) = upd (A 15) 0 (nI v) from tm_put (i := 0) (by decide) (by decide)]
  · have lo : ∀ j, j ≠ 0 → j ≠ 9 → tp_A0 F v j = F j := fun j h1 h2 => by unfold tp_A0; rw [tm_vn _ h2, tm_vn _ h1]
    have z0 : tp_A0 F v 0 = v := by unfold tp_A0; rw [tm_vn _ (by decide), tm_vs]
    refine ⟨fun j hj => ?_, tp_c2 h (tm_vn _ (by decide)) (tm_vn _ (by decide)) (lo _ (by decide) (by decide)) (fun k hk => ⟨lo _ (by omega) (by omega), lo _ (by omega) (by omega)⟩), tp_c3 h (tm_vn _ (by decide)) (tm_vn _ (by decide)) (tm_vn _ (by decide)) (lo _ (by decide) (by decide)) (lo _ (by decide) (by decide)) a6 (fun p hp => ⟨lo _ (by omega) (by omega), lo _ (by omega) (by omega), lo _ (by omega) (by omega)⟩) (fun p hp => ⟨lo _ (by omega) (by omega), lo _ (by omega) (by omega), lo _ (by omega) (by omega)⟩), tp_c4 h (tm_vn _ (by decide)) (fun p hp => lo _ (by omega) (by omega)), tp_c5 h (tm_vn _ (by decide)) (lo _ (by decide) (by decide)) a8 (fun j _ _ => lo j (by omega) (by omega)), tp_c6 h (tm_vn _ (by decide)) (fun q hq => lo _ (by omega) (by omega)), tp_c7 h (tm_vn _ (by decide)) (tm_vn _ (by decide)) (lo _ (by decide) (by decide)) (fun k hk => ⟨lo _ (by omega) (by omega), lo _ (by omega) (by omega)⟩)⟩
    rw [tm_vs]
    by_cases q : j = 0
    · rw [q, tm_us, z0]
    · rw [tm_un _ q, lo j q (by omega)]
      exact h.1 j hj
theorem tp_ad1 (h : tp_C A F) (hW : tp_G1 F) : ∃ B, g_X4_addPlace A = (true, B) ∧ tp_C B (tp_A1 F) ∧ ∀ d, (d < 15 ∨ 25 < d) → B d = A d := by
  obtain ⟨a1, a2, a3, a4, a5, a6, a7, a8, a9⟩ := hW
  refine ⟨va_up A 15 (upd (A 15) 1 (nI (F 1 + 1))), ?_, ?_, fun d hd => tm_vn _ (by omega)⟩
  · unfold g_X4_addPlace
    rw [show g_X8_addOne_14 A (1 : Int32) = _ from tp_one h (k := 1) (by decide)]
  · have lo : ∀ j, j ≠ 1 → tp_A1 F j = F j := fun j h1 => tm_vn _ h1
    exact ⟨tp_c1 h (k := 1) (tm_vs _ _ _) (tm_vs _ _ _) (fun j _ q => lo j q), tp_c2 h (tm_vn _ (by decide)) (tm_vn _ (by decide)) (lo _ (by decide)) (fun k hk => ⟨lo _ (by omega), lo _ (by omega)⟩), tp_c3 h (tm_vn _ (by decide)) (tm_vn _ (by decide)) (tm_vn _ (by decide)) (lo _ (by decide)) (lo _ (by decide)) a6 (fun p hp => ⟨lo _ (by omega), lo _ (by omega), lo _ (by omega)⟩) (fun p hp => ⟨lo _ (by omega), lo _ (by omega), lo _ (by omega)⟩), tp_c4 h (tm_vn _ (by decide)) (fun p hp => lo _ (by omega)), tp_c5 h (tm_vn _ (by decide)) (lo _ (by decide)) a8 (fun j _ _ => lo j (by omega)), tp_c6 h (tm_vn _ (by decide)) (fun q hq => lo _ (by omega)), tp_c7 h (tm_vn _ (by decide)) (tm_vn _ (by decide)) (lo _ (by decide)) (fun k hk => ⟨lo _ (by omega), lo _ (by omega)⟩)⟩
theorem tp_ad2 {p q : Nat} (h : tp_C A F) (hW : tp_G1 F) (hr : F 2 < 8) (h0 : A 31 0 = nI p) (h1 : A 31 1 = nI q) : ∃ B, g_X4_addSight A = (true, B) ∧ tp_C B (tp_A2 F p q) ∧ ∀ d, (d < 15 ∨ 25 < d) → B d = A d := by
  obtain ⟨a1, a2, a3, a4, a5, a6, a7, a8, a9⟩ := hW
  refine ⟨va_up (va_up (va_up A 15 (upd (A 15) 2 (nI (F 2 + 1)))) 16 (upd (A 16) (F 2) (nI p))) 17 (upd (A 17) (F 2) (nI q)), ?_, ?_, fun d hd => by rw [tm_vn _ (by omega), tm_vn _ (by omega), tm_vn _ (by omega)]⟩
  · unfold g_X4_addSight
    rw [show g_X8_addOne_14 A (2 : Int32) = _ from tp_one h (k := 2) (by decide)]
    dsimp only [tw_let]
    rw [show g_X4_readAt (va_up A 15 (upd (A 15) 2 (nI (F 2 + 1)))) (0 : Int32) = nI p from tp_rd (i := 0) (by decide) ((congrFun (tm_vn _ (by decide)) 0).trans h0), tm_put (by omega) (by decide), show ∀ w, g_X4_readAt (va_up (va_up A 15 (upd (A 15) 2 (nI (F 2 + 1)))) 16 w) (1 : Int32) = nI q from fun w => tp_rd (i := 1) (by decide) (by rw [tm_vn _ (by decide), tm_vn _ (by decide)]; exact h1), tm_put (by omega) (by decide), tm_vn _ (by decide), tm_vn _ (by decide)]
  · obtain ⟨v1, v2, v3, v4⟩ := tp_A2v (F := F) p q hr
    generalize tp_A2 F p q = G at v1 v2 v3 v4 ⊢
    have lo : ∀ j, j ≠ 2 → (j < 10 ∨ 26 ≤ j) → G j = F j := fun j h1 h2 => v4 j h1 (by omega) (by omega)
    have f : ∀ d, d ≠ 15 → d ≠ 16 → d ≠ 17 → (va_up (va_up (va_up A 15 (upd (A 15) 2 (nI (F 2 + 1)))) 16 (upd (A 16) (F 2) (nI p))) 17 (upd (A 17) (F 2) (nI q))) d = A d := fun d h1 h2 h3 => by rw [tm_vn _ h3, tm_vn _ h2, tm_vn _ h1]
    refine ⟨tp_c1 h (k := 2) (by rw [tm_vn _ (by decide), tm_vn _ (by decide), tm_vs]) v1 (fun j hj q => lo j q (by omega)), fun k hk => ?_, tp_c3 h (f _ (by decide) (by decide) (by decide)) (f _ (by decide) (by decide) (by decide)) (f _ (by decide) (by decide) (by decide)) (lo _ (by decide) (by decide)) (lo _ (by decide) (by decide)) a6 (fun p hp => ⟨lo _ (by omega) (by omega), lo _ (by omega) (by omega), lo _ (by omega) (by omega)⟩) (fun p hp => ⟨lo _ (by omega) (by omega), lo _ (by omega) (by omega), lo _ (by omega) (by omega)⟩), tp_c4 h (f _ (by decide) (by decide) (by decide)) (fun p hp => lo _ (by omega) (by omega)), tp_c5 h (f _ (by decide) (by decide) (by decide)) (lo _ (by decide) (by decide)) a8 (fun j _ _ => lo j (by omega) (by omega)), tp_c6 h (f _ (by decide) (by decide) (by decide)) (fun q hq => lo _ (by omega) (by omega)), tp_c7 h (f _ (by decide) (by decide) (by decide)) (f _ (by decide) (by decide) (by decide)) (lo _ (by decide) (by decide)) (fun k hk => ⟨lo _ (by omega) (by omega), lo _ (by omega) (by omega)⟩)⟩
    rw [v1] at hk
    rw [tm_vs, tm_vn _ (show (16 : Nat) ≠ 17 by decide), tm_vs]
    by_cases w : k = F 2
    · rw [w, v2, v3, tm_us, tm_us]; exact ⟨rfl, rfl⟩
    · rw [v4 _ (by omega) (by omega) (by omega), v4 _ (by omega) (by omega) (by omega), tm_un _ w, tm_un _ w]
      exact h.2.1 k (by omega)
/-- one at a place from a minute on -/
theorem tp_pf {p x f : Nat} (hp : p < 6) (hf : f ≤ 60) : ∃ B, g_X8_placeFrom_14 A (nI p) (nI x) (nI f) = some B ∧ (∀ d, d ≠ 21 → B d = A d) ∧ ∀ j, B 21 j = if 60 * p + f ≤ j ∧ j < 60 * p + 60 then nI x else A 21 j := by
  have key : ∀ d i m B, 60 - i = d → d < m → f ≤ i → i ≤ 60 → (∀ d, d ≠ 21 → B d = A d) → (∀ j, B 21 j = if 60 * p + f ≤ j ∧ j < 60 * p + i then nI x else A 21 j) → ∃ C, g_X8_placeFrom_14_L1 (nI p) (nI x) m (nI i) B = some C ∧ (∀ d, d ≠ 21 → C d = A d) ∧ ∀ j, C 21 j = if 60 * p + f ≤ j ∧ j < 60 * p + 60 then nI x else A 21 j := by
    intro d
    induction d with
    | zero =>
      intro i m B hd hm h1 h2 h3 h4
      obtain ⟨m, rfl⟩ : ∃ q, m = q + 1 := ⟨m - 1, by omega⟩
      have : i = 60 := by omega
      subst this
      exact ⟨B, by rw [g_X8_placeFrom_14_L1, if_pos (by decide)], h3, h4⟩
    | succ d ih =>
      intro i m B hd hm h1 h2 h3 h4
      obtain ⟨m, rfl⟩ : ∃ q, m = q + 1 := ⟨m - 1, by omega⟩
      rw [g_X8_placeFrom_14_L1, if_neg (tm_ge60 (by omega))]
      dsimp only [tw_let]
      rw [show nI p * (60 : Int32) + nI i = nI (60 * p + i) from tm_xr p 60 i, tm_put (by omega) (by decide), ← nI_succ]
      refine ih (i + 1) m _ (by omega) (by omega) (by omega) (by omega) (fun d hd => (tm_vn _ hd).trans (h3 d hd)) (fun j => ?_)
      rw [tm_vs]
      by_cases q : j = 60 * p + i
      · rw [q, tm_us, if_pos (by omega)]
      · rw [tm_un _ q, h4 j]
        by_cases q2 : 60 * p + f ≤ j ∧ j < 60 * p + i
        · rw [if_pos q2, if_pos (by omega)]
        · rw [if_neg q2, if_neg (by omega)]
  obtain ⟨C, c1, c2, c3⟩ := key (60 - f) f 4096 A rfl (by omega) (Nat.le_refl _) hf (fun _ _ => rfl) (fun j => by rw [if_neg (by omega)])
  exact ⟨C, by unfold g_X8_placeFrom_14; rw [c1, Option.bind_some], c2, c3⟩
theorem tp_ad3 {k p w : Nat} (h : tp_C A F) (hW : tp_G1 F) (hg4 : tp_G4 F) (hr : F 3 < 6) (h0 : A 31 0 = nI k) (h1 : A 31 1 = nI p) (h2 : A 31 2 = nI w) : ∃ B, g_X4_addPerson A = some (true, B) ∧ tp_C B (tp_A3 F k p w) ∧ ∀ d, (d < 15 ∨ 25 < d) → B d = A d := by
  obtain ⟨a1, a2, a3, a4, a5, a6, a7, a8, a9⟩ := hW
  obtain ⟨C, c1, c2, c3⟩ := tp_pf (A := va_up (va_up (va_up A 15 (upd (A 15) 3 (nI (F 3 + 1)))) 18 (upd (A 18) (F 3) (nI k))) 19 (upd (A 19) (F 3) (nI w))) (p := F 3) (x := p) (f := 0) hr (by decide)
  have f : ∀ d, d ≠ 15 → d ≠ 18 → d ≠ 19 → d ≠ 21 → C d = A d := fun d h1 h2 h3 h4 => by rw [c2 d h4, tm_vn _ h3, tm_vn _ h2, tm_vn _ h1]
  refine ⟨C, ?_, ?_, fun d hd => f d (by omega) (by omega) (by omega) (by omega)⟩
  · unfold g_X4_addPerson
    rw [show g_X8_addOne_14 A (3 : Int32) = _ from tp_one h (k := 3) (by decide)]
    dsimp only [tw_let]
    rw [show g_X4_readAt (va_up A 15 (upd (A 15) 3 (nI (F 3 + 1)))) (0 : Int32) = nI k from tp_rd (i := 0) (by decide) ((congrFun (tm_vn _ (by decide)) 0).trans h0), tm_put (by omega) (by decide), show ∀ w', g_X4_readAt (va_up (va_up A 15 (upd (A 15) 3 (nI (F 3 + 1)))) 18 w') (2 : Int32) = nI w from fun w' => tp_rd (i := 2) (by decide) (by rw [tm_vn _ (by decide), tm_vn _ (by decide)]; exact h2), tm_put (by omega) (by decide), tm_vn _ (by decide), tm_vn _ (by decide), show ∀ w' w'', g_X4_readAt (va_up (va_up (va_up A 15 (upd (A 15) 3 (nI (F 3 + 1)))) 18 w') 19 w'') (1 : Int32) = nI p from fun w' w'' => tp_rd (i := 1) (by decide) (by rw [tm_vn _ (by decide), tm_vn _ (by decide), tm_vn _ (by decide)]; exact h1)]
    rw [show g_X8_placeFrom_14 _ (nI (F 3)) (nI p) (0 : Int32) = _ from c1, Option.bind_some]
  · obtain ⟨v1, v2, v3, v4, v5⟩ := tp_A3v (F := F) k p w hr
    generalize tp_A3 F k p w = G at v1 v2 v3 v4 v5 ⊢
    have lo : ∀ j, j ≠ 3 → (j < 26 ∨ 50 ≤ j) → G j = F j := fun j h1 h2 => v5 j h1 (by omega) (by omega) (by omega)
    refine ⟨tp_c1 h (k := 3) (by rw [c2 _ (by decide), tm_vn _ (by decide), tm_vn _ (by decide), tm_vs]) v1 (fun j hj q => lo j q (by omega)), tp_c2 h (f _ (by decide) (by decide) (by decide) (by decide)) (f _ (by decide) (by decide) (by decide) (by decide)) (lo _ (by decide) (by decide)) (fun k hk => ⟨lo _ (by omega) (by omega), lo _ (by omega) (by omega)⟩), fun m hm => ?_, tp_c4 h (f _ (by decide) (by decide) (by decide) (by decide)) (fun p hp => v5 _ (by omega) (by omega) (by omega) (by omega)), tp_c5 h (f _ (by decide) (by decide) (by decide) (by decide)) (lo _ (by decide) (by decide)) a8 (fun j _ _ => lo j (by omega) (by omega)), tp_c6 h (f _ (by decide) (by decide) (by decide) (by decide)) (fun q hq => lo _ (by omega) (by omega)), tp_c7 h (f _ (by decide) (by decide) (by decide) (by decide)) (f _ (by decide) (by decide) (by decide) (by decide)) (lo _ (by decide) (by decide)) (fun k hk => ⟨lo _ (by omega) (by omega), lo _ (by omega) (by omega)⟩)⟩
    rw [v1] at hm
    have e18 : C 18 = upd (A 18) (F 3) (nI k) := by rw [c2 _ (by decide), tm_vn _ (by decide), tm_vs]
    have e19 : C 19 = upd (A 19) (F 3) (nI w) := by rw [c2 _ (by decide), tm_vs]
    have e21 : ∀ j, C 21 j = if 60 * F 3 + 0 ≤ j ∧ j < 60 * F 3 + 60 then nI p else A 21 j := fun j => by rw [c3 j, tm_vn _ (by decide), tm_vn _ (by decide), tm_vn _ (by decide)]
    have hg : ∀ k, k < F 4 → G (50 + 3 * k) = F (50 + 3 * k) ∧ G (51 + 3 * k) = F (51 + 3 * k) ∧ G (52 + 3 * k) = F (52 + 3 * k) := fun k hk => ⟨lo _ (by omega) (by omega), lo _ (by omega) (by omega), lo _ (by omega) (by omega)⟩
    have g4 : G 4 = F 4 := lo 4 (by decide) (by decide)
    rw [e18, e19]
    by_cases q : m = F 3
    · rw [q, v2, v4, tm_us, tm_us]
      refine ⟨rfl, rfl, fun i hi => ?_⟩
      rw [e21, if_pos (by omega)]
      unfold tm_sp
      rw [g4, tp_spk_no (fun j hj => by rw [(hg j hj).1]; have := (hg4 j hj).1; omega), v3]
    · rw [v5 _ (by omega) (by omega) (by omega) (by omega), v5 _ (by omega) (by omega) (by omega) (by omega), tm_un _ q, tm_un _ q]
      obtain ⟨x, y, z⟩ := h.2.2.1 m (by omega)
      refine ⟨x, y, fun i hi => ?_⟩
      rw [e21, if_neg (by omega), z i hi]
      unfold tm_sp
      rw [g4, tp_spk_eq (v5 _ (by omega) (by omega) (by omega) (by omega)) hg]
theorem tp_ad4 {m p t : Nat} (h : tp_C A F) (hW : tp_G1 F) (hr : F 4 < 10) (hm : m < F 3) (ht : t ≤ 59) (h30 : ∀ p, p < 6 → A 30 p = nI (tp_lt F p (F 4))) (hl : tp_lt F m (F 4) < t) (h0 : A 31 0 = nI m) (h1 : A 31 1 = nI p) (h2 : A 31 2 = nI t) : ∃ B, g_X4_addGoing A = some (true, B) ∧ tp_C B (tp_A4 F m p t) ∧ (∀ d, (d < 15 ∨ 25 < d) → d ≠ 30 → B d = A d) ∧ ∀ p', p' < 6 → B 30 p' = nI (tp_lt (tp_A4 F m p t) p' (tp_A4 F m p t 4)) := by
  obtain ⟨a1, a2, a3, a4, a5, a6, a7, a8, a9⟩ := hW
  obtain ⟨C, c1, c2, c3⟩ := tp_pf (A := va_up A 15 (upd (A 15) 4 (nI (F 4 + 1)))) (p := m) (x := p) (f := t) (by omega) (by omega)
  have f : ∀ d, d ≠ 15 → d ≠ 21 → C d = A d := fun d h1 h4 => by rw [c2 d h4, tm_vn _ h1]
  have r0 : ∀ i v, i < 8 → A 31 i = nI v → g_X4_readAt C (nI i) = nI v := fun i v hi hv => tp_rd hi ((congrFun (f 31 (by decide) (by decide)) i).trans hv)
  have fB : ∀ d, d ≠ 15 → d ≠ 21 → d ≠ 30 → (va_up C 30 (upd (C 30) m (nI t))) d = A d := fun d h1 h2 h3 => by rw [tm_vn _ h3, f d h1 h2]
  refine ⟨va_up C 30 (upd (C 30) m (nI t)), ?_, ?_, fun d hd h3 => fB d (by omega) (by omega) h3, ?_⟩
  · unfold g_X4_addGoing
    rw [show g_X8_addOne_14 A (4 : Int32) = _ from tp_one h (k := 4) (by decide)]
    dsimp only [tw_let]
    rw [show g_X4_readAt (va_up A 15 (upd (A 15) 4 (nI (F 4 + 1)))) (0 : Int32) = nI m from tp_rd (i := 0) (by decide) ((congrFun (tm_vn _ (by decide)) 0).trans h0), show g_X4_readAt (va_up A 15 (upd (A 15) 4 (nI (F 4 + 1)))) (1 : Int32) = nI p from tp_rd (i := 1) (by decide) ((congrFun (tm_vn _ (by decide)) 1).trans h1), show g_X4_readAt (va_up A 15 (upd (A 15) 4 (nI (F 4 + 1)))) (2 : Int32) = nI t from tp_rd (i := 2) (by decide) ((congrFun (tm_vn _ (by decide)) 2).trans h2), c1, Option.bind_some, show g_X4_readAt C (0 : Int32) = _ from r0 0 m (by decide) h0, show g_X4_readAt C (2 : Int32) = _ from r0 2 t (by decide) h2, tm_put (by omega) (by decide)]
  · obtain ⟨v1, v2, v3, v4, v5⟩ := tp_A4v (F := F) m p t hr
    generalize tp_A4 F m p t = G at v1 v2 v3 v4 v5 ⊢
    have lo : ∀ j, j ≠ 4 → (j < 50 ∨ 80 ≤ j) → G j = F j := fun j h1 h2 => v5 j h1 (by omega) (by omega) (by omega)
    refine ⟨tp_c1 h (k := 4) (by rw [tm_vn _ (by decide), c2 _ (by decide), tm_vs]) v1 (fun j hj q => lo j q (by omega)), tp_c2 h (fB _ (by decide) (by decide) (by decide)) (fB _ (by decide) (by decide) (by decide)) (lo _ (by decide) (by decide)) (fun k hk => ⟨lo _ (by omega) (by omega), lo _ (by omega) (by omega)⟩), fun z hz => ?_, tp_c4 h (fB _ (by decide) (by decide) (by decide)) (fun p hp => lo _ (by omega) (by omega)), tp_c5 h (fB _ (by decide) (by decide) (by decide)) (lo _ (by decide) (by decide)) a8 (fun j _ _ => lo j (by omega) (by omega)), tp_c6 h (fB _ (by decide) (by decide) (by decide)) (fun q hq => lo _ (by omega) (by omega)), tp_c7 h (fB _ (by decide) (by decide) (by decide)) (fB _ (by decide) (by decide) (by decide)) (lo _ (by decide) (by decide)) (fun k hk => ⟨lo _ (by omega) (by omega), lo _ (by omega) (by omega)⟩)⟩
    rw [lo 3 (by decide) (by decide)] at hz
    obtain ⟨x, y, w⟩ := h.2.2.1 z hz
    rw [fB 18 (by decide) (by decide) (by decide), fB 19 (by decide) (by decide) (by decide), lo _ (by omega) (by omega), lo _ (by omega) (by omega)]
    refine ⟨x, y, fun i hi => ?_⟩
    have e21 : (va_up C 30 (upd (C 30) m (nI t))) 21 (60 * z + i) = if 60 * m + t ≤ 60 * z + i ∧ 60 * z + i < 60 * m + 60 then nI p else A 21 (60 * z + i) := by rw [tm_vn _ (by decide), c3, tm_vn _ (by decide)]
    rw [e21]
    unfold tm_sp
    rw [v1, tm_spk, v2, v3, v4, tp_spk_eq (lo _ (by omega) (by omega)) (fun j hj => ⟨v5 _ (by omega) (by omega) (by omega) (by omega), v5 _ (by omega) (by omega) (by omega) (by omega), v5 _ (by omega) (by omega) (by omega) (by omega)⟩)]
    by_cases q : m = z ∧ t ≤ i
    · rw [if_pos (by omega), if_pos q]
    · rw [if_neg (by omega), if_neg q, w i hi]
      rfl
  · intro p' hp'
    obtain ⟨v1, v2, v3, v4, v5⟩ := tp_A4v (F := F) m p t hr
    generalize tp_A4 F m p t = G at v1 v2 v3 v4 v5 ⊢
    rw [tm_vs, f 30 (by decide) (by decide), v1, tp_lt, v2, v4, tp_lt_eq (fun j hj => ⟨v5 _ (by omega) (by omega) (by omega) (by omega), v5 _ (by omega) (by omega) (by omega) (by omega)⟩)]
    by_cases q : p' = m
    · rw [q, tm_us, if_pos ⟨rfl, hl⟩]
    · rw [tm_un _ q, if_neg (fun w => q w.1.symm)]
      exact h30 p' hp'
theorem tp_ad5 {a b p t w : Nat} (h : tp_C A F) (hW : tp_G1 F) (hr : F 5 < 3) (h0 : A 31 0 = nI a) (h1 : A 31 1 = nI b) (h2 : A 31 2 = nI p) (h3 : A 31 3 = nI t) (h4 : A 31 4 = nI w) : ∃ B, g_X4_addQuarrel A = some (true, B) ∧ tp_C B (tp_A5 F a b p t w) ∧ ∀ d, (d < 15 ∨ 25 < d) → B d = A d := by
  obtain ⟨a1, a2, a3, a4, a5, a6, a7, a8, a9⟩ := hW
  have key : ∀ d i m B, 5 - i = d → d < m → i ≤ 5 → (∀ d, d ≠ 22 → B d = (va_up A 15 (upd (A 15) 5 (nI (F 5 + 1)))) d) → (∀ j, B 22 j = if 5 * F 5 ≤ j ∧ j < 5 * F 5 + i then A 31 (j - 5 * F 5) else A 22 j) → ∃ C, g_X4_addQuarrel_L1 (nI (F 5)) m (nI i) B = some C ∧ (∀ d, d ≠ 22 → C d = (va_up A 15 (upd (A 15) 5 (nI (F 5 + 1)))) d) ∧ ∀ j, C 22 j = if 5 * F 5 ≤ j ∧ j < 5 * F 5 + 5 then A 31 (j - 5 * F 5) else A 22 j := by
    intro d
    induction d with
    | zero =>
      intro i m B hd hm h2 h3 h4
      obtain ⟨m, rfl⟩ : ∃ q, m = q + 1 := ⟨m - 1, by omega⟩
      have : i = 5 := by omega
      subst this
      exact ⟨B, by rw [g_X4_addQuarrel_L1, if_pos (by decide)], h3, h4⟩
    | succ d ih =>
      intro i m B hd hm h2 h3 h4
      obtain ⟨m, rfl⟩ : ∃ q, m = q + 1 := ⟨m - 1, by omega⟩
      rw [g_X4_addQuarrel_L1, if_neg (show ¬ (5 : Int32) ≤ nI i from nI_ge (b := 5) (by omega) (by decide))]
      dsimp only [tw_let]
      have er : g_X4_readAt B (nI i) = A 31 i := by
        unfold g_X4_readAt
        rw [tm_get (by omega) (by decide), h3 31 (by decide), tm_vn _ (by decide)]
      rw [show nI (F 5) * (5 : Int32) + nI i = nI (5 * F 5 + i) from tm_xr (F 5) 5 i, tm_put (by omega) (by decide), er, ← nI_succ]
      refine ih (i + 1) m _ (by omega) (by omega) (by omega) (fun d hd => (tm_vn _ hd).trans (h3 d hd)) (fun j => ?_)
      rw [tm_vs]
      by_cases q : j = 5 * F 5 + i
      · rw [q, tm_us, if_pos (by omega), show 5 * F 5 + i - 5 * F 5 = i by omega]
      · rw [tm_un _ q, h4 j]
        by_cases q2 : 5 * F 5 ≤ j ∧ j < 5 * F 5 + i
        · rw [if_pos q2, if_pos (by omega)]
        · rw [if_neg q2, if_neg (by omega)]
  obtain ⟨C, c1, c2, c3⟩ := key 5 0 4096 (va_up A 15 (upd (A 15) 5 (nI (F 5 + 1)))) rfl (by omega) (by decide) (fun _ _ => rfl) (fun j => by rw [if_neg (by omega), tm_vn _ (by decide)])
  have f : ∀ d, d ≠ 15 → d ≠ 22 → C d = A d := fun d h1 h4 => by rw [c2 d h4, tm_vn _ h1]
  refine ⟨C, ?_, ?_, fun d hd => f d (by omega) (by omega)⟩
  · unfold g_X4_addQuarrel
    rw [show g_X8_addOne_14 A (5 : Int32) = _ from tp_one h (k := 5) (by decide)]
    dsimp only [tw_let]
    rw [show g_X4_addQuarrel_L1 (nI (F 5)) 4096 (0 : Int32) _ = _ from c1, Option.bind_some]
  · obtain ⟨v1, v2, v3, v4, v5, v6, v7⟩ := tp_A5v (F := F) a b p t w hr
    generalize tp_A5 F a b p t w = G at v1 v2 v3 v4 v5 v6 v7 ⊢
    have lo : ∀ j, j ≠ 5 → (j < 80 ∨ 95 ≤ j) → G j = F j := fun j h1 h2 => v7 j h1 (by omega)
    refine ⟨tp_c1 h (k := 5) (by rw [c2 _ (by decide), tm_vs]) v1 (fun j hj q => lo j q (by omega)), tp_c2 h (f _ (by decide) (by decide)) (f _ (by decide) (by decide)) (lo _ (by decide) (by decide)) (fun k hk => ⟨lo _ (by omega) (by omega), lo _ (by omega) (by omega)⟩), tp_c3 h (f _ (by decide) (by decide)) (f _ (by decide) (by decide)) (f _ (by decide) (by decide)) (lo _ (by decide) (by decide)) (lo _ (by decide) (by decide)) a6 (fun p hp => ⟨lo _ (by omega) (by omega), lo _ (by omega) (by omega), lo _ (by omega) (by omega)⟩) (fun p hp => ⟨lo _ (by omega) (by omega), lo _ (by omega) (by omega), lo _ (by omega) (by omega)⟩), tp_c4 h (f _ (by decide) (by decide)) (fun p hp => lo _ (by omega) (by omega)), fun q hq i hi => ?_, tp_c6 h (f _ (by decide) (by decide)) (fun q hq => lo _ (by omega) (by omega)), tp_c7 h (f _ (by decide) (by decide)) (f _ (by decide) (by decide)) (lo _ (by decide) (by decide)) (fun k hk => ⟨lo _ (by omega) (by omega), lo _ (by omega) (by omega)⟩)⟩
    rw [v1] at hq
    rw [c3]
    by_cases z : q = F 5
    · subst z
      rw [if_pos (by omega), show 5 * F 5 + i - 5 * F 5 = i by omega]
      rcases (by omega : i = 0 ∨ i = 1 ∨ i = 2 ∨ i = 3 ∨ i = 4) with rfl | rfl | rfl | rfl | rfl
      · rw [h0, show 80 + 5 * F 5 + 0 = 80 + 5 * F 5 by omega, v2]
      · rw [h1, show 80 + 5 * F 5 + 1 = 81 + 5 * F 5 by omega, v3]
      · rw [h2, show 80 + 5 * F 5 + 2 = 82 + 5 * F 5 by omega, v4]
      · rw [h3, show 80 + 5 * F 5 + 3 = 83 + 5 * F 5 by omega, v5]
      · rw [h4, show 80 + 5 * F 5 + 4 = 84 + 5 * F 5 by omega, v6]
    · rw [if_neg (by omega), v7 _ (by omega) (by omega)]
      exact h.2.2.2.2.1 q (by omega) i hi
theorem tp_o1 (s : Nat) : tm_o (s + 1) = nI s := by
  unfold tm_o
  rw [if_neg (by omega), Nat.add_sub_cancel]
theorem tp_ad6 {m s : Nat} (h : tp_C A F) (hW : tp_G1 F) (hm : m < 6) (h0 : A 31 0 = nI m) (h1 : A 31 1 = nI s) : ∃ B, g_X4_addHirable A = (true, B) ∧ tp_C B (tp_A6 F m s) ∧ ∀ d, (d < 15 ∨ 25 < d) → B d = A d := by
  obtain ⟨a1, a2, a3, a4, a5, a6, a7, a8, a9⟩ := hW
  have f : ∀ d, d ≠ 15 → d ≠ 20 → (va_up (va_up A 15 (upd (A 15) 6 (nI (F 6 + 1)))) 20 (upd (A 20) m (nI s))) d = A d := fun d h1 h2 => by rw [tm_vn _ h2, tm_vn _ h1]
  refine ⟨va_up (va_up A 15 (upd (A 15) 6 (nI (F 6 + 1)))) 20 (upd (A 20) m (nI s)), ?_, ?_, fun d hd => f d (by omega) (by omega)⟩
  · unfold g_X4_addHirable
    rw [show g_X8_addOne_14 A (6 : Int32) = _ from tp_one h (k := 6) (by decide)]
    dsimp only [tw_let]
    rw [show g_X4_readAt (va_up A 15 (upd (A 15) 6 (nI (F 6 + 1)))) (0 : Int32) = nI m from tp_rd (i := 0) (by decide) ((congrFun (tm_vn _ (by decide)) 0).trans h0), show g_X4_readAt (va_up A 15 (upd (A 15) 6 (nI (F 6 + 1)))) (1 : Int32) = nI s from tp_rd (i := 1) (by decide) ((congrFun (tm_vn _ (by decide)) 1).trans h1), tm_put (by omega) (by decide), tm_vn _ (by decide)]
  · obtain ⟨v1, v2, v3⟩ := tp_A6v (F := F) s hm
    generalize tp_A6 F m s = G at v1 v2 v3 ⊢
    have lo : ∀ j, j ≠ 6 → (j < 29 ∨ 50 ≤ j) → G j = F j := fun j h1 h2 => v3 j h1 (by omega)
    refine ⟨tp_c1 h (k := 6) (by rw [tm_vn _ (by decide), tm_vs]) v1 (fun j hj q => lo j q (by omega)), tp_c2 h (f _ (by decide) (by decide)) (f _ (by decide) (by decide)) (lo _ (by decide) (by decide)) (fun k hk => ⟨lo _ (by omega) (by omega), lo _ (by omega) (by omega)⟩), tp_c3 h (f _ (by decide) (by decide)) (f _ (by decide) (by decide)) (f _ (by decide) (by decide)) (lo _ (by decide) (by decide)) (lo _ (by decide) (by decide)) a6 (fun p hp => ⟨v3 _ (by omega) (by omega), v3 _ (by omega) (by omega), v3 _ (by omega) (by omega)⟩) (fun p hp => ⟨lo _ (by omega) (by omega), lo _ (by omega) (by omega), lo _ (by omega) (by omega)⟩), fun p hp => ?_, tp_c5 h (f _ (by decide) (by decide)) (lo _ (by decide) (by decide)) a8 (fun j _ _ => lo j (by omega) (by omega)), tp_c6 h (f _ (by decide) (by decide)) (fun q hq => lo _ (by omega) (by omega)), tp_c7 h (f _ (by decide) (by decide)) (f _ (by decide) (by decide)) (lo _ (by decide) (by decide)) (fun k hk => ⟨lo _ (by omega) (by omega), lo _ (by omega) (by omega)⟩)⟩
    rw [tm_vs]
    by_cases q : p = m
    · rw [q, v2, tm_us, tp_o1]
    · rw [tm_un _ q, v3 _ (by omega) (by omega)]
      exact h.2.2.2.1 p hp
theorem tp_ad7 {m w : Nat} (h : tp_C A F) (hW : tp_G1 F) (hr : F 7 < 4) (h0 : A 31 0 = nI m) (h1 : A 31 1 = nI w) : ∃ B, g_X4_addUnsure A = (true, B) ∧ tp_C B (tp_A7 F m w) ∧ ∀ d, (d < 15 ∨ 25 < d) → B d = A d := by
  obtain ⟨a1, a2, a3, a4, a5, a6, a7, a8, a9⟩ := hW
  have f : ∀ d, d ≠ 15 → d ≠ 24 → d ≠ 25 → (va_up (va_up (va_up A 15 (upd (A 15) 7 (nI (F 7 + 1)))) 24 (upd (A 24) (F 7) (nI m))) 25 (upd (A 25) (F 7) (nI w))) d = A d := fun d h1 h2 h3 => by rw [tm_vn _ h3, tm_vn _ h2, tm_vn _ h1]
  refine ⟨va_up (va_up (va_up A 15 (upd (A 15) 7 (nI (F 7 + 1)))) 24 (upd (A 24) (F 7) (nI m))) 25 (upd (A 25) (F 7) (nI w)), ?_, ?_, fun d hd => f d (by omega) (by omega) (by omega)⟩
  · unfold g_X4_addUnsure
    rw [show g_X8_addOne_14 A (7 : Int32) = _ from tp_one h (k := 7) (by decide)]
    dsimp only [tw_let]
    rw [show g_X4_readAt (va_up A 15 (upd (A 15) 7 (nI (F 7 + 1)))) (0 : Int32) = nI m from tp_rd (i := 0) (by decide) ((congrFun (tm_vn _ (by decide)) 0).trans h0), tm_put (by omega) (by decide), show ∀ w', g_X4_readAt (va_up (va_up A 15 (upd (A 15) 7 (nI (F 7 + 1)))) 24 w') (1 : Int32) = nI w from fun w' => tp_rd (i := 1) (by decide) (by rw [tm_vn _ (by decide), tm_vn _ (by decide)]; exact h1), tm_put (by omega) (by decide), tm_vn _ (by decide), tm_vn _ (by decide)]
  · obtain ⟨v1, v2, v3, v4⟩ := tp_A7v (F := F) m w hr
    generalize tp_A7 F m w = G at v1 v2 v3 v4 ⊢
    have lo : ∀ j, j ≠ 7 → (j < 95 ∨ 103 ≤ j) → G j = F j := fun j h1 h2 => v4 j h1 (by omega) (by omega)
    refine ⟨tp_c1 h (k := 7) (by rw [tm_vn _ (by decide), tm_vn _ (by decide), tm_vs]) v1 (fun j hj q => lo j q (by omega)), tp_c2 h (f _ (by decide) (by decide) (by decide)) (f _ (by decide) (by decide) (by decide)) (lo _ (by decide) (by decide)) (fun k hk => ⟨lo _ (by omega) (by omega), lo _ (by omega) (by omega)⟩), tp_c3 h (f _ (by decide) (by decide) (by decide)) (f _ (by decide) (by decide) (by decide)) (f _ (by decide) (by decide) (by decide)) (lo _ (by decide) (by decide)) (lo _ (by decide) (by decide)) a6 (fun p hp => ⟨lo _ (by omega) (by omega), lo _ (by omega) (by omega), lo _ (by omega) (by omega)⟩) (fun p hp => ⟨lo _ (by omega) (by omega), lo _ (by omega) (by omega), lo _ (by omega) (by omega)⟩), tp_c4 h (f _ (by decide) (by decide) (by decide)) (fun p hp => lo _ (by omega) (by omega)), tp_c5 h (f _ (by decide) (by decide) (by decide)) (lo _ (by decide) (by decide)) a8 (fun j _ _ => lo j (by omega) (by omega)), tp_c6 h (f _ (by decide) (by decide) (by decide)) (fun q hq => lo _ (by omega) (by omega)), fun k hk => ?_⟩
    rw [v1] at hk
    rw [tm_vs, tm_vn _ (show (24 : Nat) ≠ 25 by decide), tm_vs]
    by_cases z : k = F 7
    · rw [z, v2, v3, tm_us, tm_us]; exact ⟨rfl, rfl⟩
    · rw [v4 _ (by omega) (by omega) (by omega), v4 _ (by omega) (by omega) (by omega), tm_un _ z, tm_un _ z]
      exact h.2.2.2.2.2.2 k (by omega)
theorem tp_ad8 {m t : Nat} (h : tp_C A F) (hW : tp_G1 F) (hm : m < 3) (h0 : A 31 0 = nI m) (h1 : A 31 1 = nI t) : ∃ B, g_X4_addEnded A = (true, B) ∧ tp_C B (tp_A8 F m t) ∧ ∀ d, (d < 15 ∨ 25 < d) → B d = A d := by
  obtain ⟨a1, a2, a3, a4, a5, a6, a7, a8, a9⟩ := hW
  have f : ∀ d, d ≠ 15 → d ≠ 23 → (va_up (va_up A 15 (upd (A 15) 8 (nI (F 8 + 1)))) 23 (upd (A 23) m (nI t))) d = A d := fun d h1 h2 => by rw [tm_vn _ h2, tm_vn _ h1]
  refine ⟨va_up (va_up A 15 (upd (A 15) 8 (nI (F 8 + 1)))) 23 (upd (A 23) m (nI t)), ?_, ?_, fun d hd => f d (by omega) (by omega)⟩
  · unfold g_X4_addEnded
    rw [show g_X8_addOne_14 A (8 : Int32) = _ from tp_one h (k := 8) (by decide)]
    dsimp only [tw_let]
    rw [show g_X4_readAt (va_up A 15 (upd (A 15) 8 (nI (F 8 + 1)))) (0 : Int32) = nI m from tp_rd (i := 0) (by decide) ((congrFun (tm_vn _ (by decide)) 0).trans h0), show g_X4_readAt (va_up A 15 (upd (A 15) 8 (nI (F 8 + 1)))) (1 : Int32) = nI t from tp_rd (i := 1) (by decide) ((congrFun (tm_vn _ (by decide)) 1).trans h1), tm_put (by omega) (by decide), tm_vn _ (by decide)]
  · obtain ⟨v1, v2, v3⟩ := tp_A8v (F := F) t hm
    generalize tp_A8 F m t = G at v1 v2 v3 ⊢
    have lo : ∀ j, j ≠ 8 → (j < 103 ∨ 106 ≤ j) → G j = F j := fun j h1 h2 => v3 j h1 (by omega)
    refine ⟨tp_c1 h (k := 8) (by rw [tm_vn _ (by decide), tm_vs]) v1 (fun j hj q => lo j q (by omega)), tp_c2 h (f _ (by decide) (by decide)) (f _ (by decide) (by decide)) (lo _ (by decide) (by decide)) (fun k hk => ⟨lo _ (by omega) (by omega), lo _ (by omega) (by omega)⟩), tp_c3 h (f _ (by decide) (by decide)) (f _ (by decide) (by decide)) (f _ (by decide) (by decide)) (lo _ (by decide) (by decide)) (lo _ (by decide) (by decide)) a6 (fun p hp => ⟨lo _ (by omega) (by omega), lo _ (by omega) (by omega), lo _ (by omega) (by omega)⟩) (fun p hp => ⟨lo _ (by omega) (by omega), lo _ (by omega) (by omega), lo _ (by omega) (by omega)⟩), tp_c4 h (f _ (by decide) (by decide)) (fun p hp => lo _ (by omega) (by omega)), tp_c5 h (f _ (by decide) (by decide)) (lo _ (by decide) (by decide)) a8 (fun j _ _ => lo j (by omega) (by omega)), fun p hp => ?_, tp_c7 h (f _ (by decide) (by decide)) (f _ (by decide) (by decide)) (lo _ (by decide) (by decide)) (fun k hk => ⟨lo _ (by omega) (by omega), lo _ (by omega) (by omega)⟩)⟩
    rw [tm_vs]
    by_cases q : p = m
    · rw [q, v2, tm_us, tp_o1]
    · rw [tm_un _ q, v3 _ (by omega) (by omega)]
      exact h.2.2.2.2.2.1 p hp
end
