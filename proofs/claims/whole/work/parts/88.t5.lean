/-! MATHEMATICS, 39: the reference's words, names, numbers (by wip/gen/mkt5.py) -/
theorem tp_wv_inj {c d : Nat → Nat} {a b : Nat} : ∀ {m k : Nat}, (∀ j, j < m → 97 ≤ c (a + j) ∧ c (a + j) ≤ 122) → (∀ j, j < k → 97 ≤ d (b + j) ∧ d (b + j) ≤ 122) → tp_wv c a m = tp_wv d b k → m = k ∧ ∀ j, j < m → c (a + j) = d (b + j)
  | 0, 0, _, _, _ => ⟨rfl, fun j hj => absurd hj (Nat.not_lt_zero _)⟩
  | 0, k + 1, _, h2, h => by
    have := h2 k (by omega)
    rw [tp_wv, tp_wv] at h
    omega
  | m + 1, 0, h1, _, h => by
    have := h1 m (by omega)
    rw [tp_wv, tp_wv] at h
    omega
  | m + 1, k + 1, h1, h2, h => by
    have g1 := h1 m (by omega)
    have g2 := h2 k (by omega)
    rw [tp_wv, tp_wv] at h
    obtain ⟨e1, e2⟩ := tp_wv_inj (m := m) (k := k) (fun j hj => h1 j (by omega)) (fun j hj => h2 j (by omega)) (by omega)
    subst e1
    refine ⟨rfl, fun j hj => ?_⟩
    by_cases q : j = m
    · subst q
      have : tp_wv c a j = tp_wv d b j := tp_wv_cong e2
      omega
    · exact e2 j (by omega)
theorem tp_kcB : ∀ i, i < 19 → tp_kl i ≤ 8 ∧ ∀ j, j < tp_kl i → 97 ≤ tp_kc i (0 + j) ∧ tp_kc i (0 + j) ≤ 122 := by decide +kernel
theorem tp_ldS : ∀ i, i < 19 → ∀ j, j < tp_kl i → tw_ldS (1000 + i) (nI j) = some (nI (tp_kc i j)) := by decide +kernel
theorem tp_lnS : ∀ i, i < 19 → Int32.ofNat (tw_lenS (1000 + i)) = nI (tp_kl i) := by decide +kernel
theorem tp_T10_k0 {c : Nat → Nat} {n : Nat} {I : Nat → Int32} {A : Nat → Nat → Int32} {e : Nat} (h : tp_T10 c n I A e) : I 4406 = 0 ↔ tp_kd c n e = 0 := tp_T10_k h (k := 0) (by decide)
theorem tp_T10_k1 {c : Nat → Nat} {n : Nat} {I : Nat → Int32} {A : Nat → Nat → Int32} {e : Nat} (h : tp_T10 c n I A e) : I 4406 = (2 : Int32) ↔ tp_kd c n e = 1 := tp_T10_k h (k := 1) (by decide)
theorem tp_T10_k2 {c : Nat → Nat} {n : Nat} {I : Nat → Int32} {A : Nat → Nat → Int32} {e : Nat} (h : tp_T10 c n I A e) : I 4406 = (3 : Int32) ↔ tp_kd c n e = 2 := tp_T10_k h (k := 2) (by decide)
theorem tp_T10_k3 {c : Nat → Nat} {n : Nat} {I : Nat → Int32} {A : Nat → Nat → Int32} {e : Nat} (h : tp_T10 c n I A e) : I 4406 = (59 : Int32) ↔ tp_kd c n e = 3 := tp_T10_k h (k := 3) (by decide)
theorem tp_T10_len {c : Nat → Nat} {n : Nat} {I : Nat → Int32} {A : Nat → Nat → Int32} {e : Nat} (h : tp_T10 c n I A e) (h1 : tp_kd c n e = 1) : ∃ m, m = tp_wE c n e - tp_at c n e ∧ m ≤ 8 ∧ I 4408 = nI m ∧ (∀ j, j < m → A 46 j = nI (c (tp_at c n e + j))) ∧ ∀ j, j < m → 97 ≤ c (tp_at c n e + j) ∧ c (tp_at c n e + j) ≤ 122 := by
  obtain ⟨k1, k2, k3, k4, k5⟩ := tp_kd1 h1
  obtain ⟨a, b⟩ := h.2.2.2.2.2.2.1 h1
  exact ⟨_, rfl, k3, a, b, fun j hj => k5 _ (by omega) (by omega)⟩
/-- a comparison of letters, one by one -/
theorem tp_isL10 {c : Nat → Nat} {n : Nat} {I : Nat → Int32} {A : Nat → Nat → Int32} {e : Nat} {i m : Nat} (hi : i < 19) (hm : m = tp_kl i) (h1 : I 4408 = nI m) (h2 : ∀ j, j < m → A 46 j = nI (c (e + j))) (h3 : ∀ j, j < m → 97 ≤ c (e + j) ∧ c (e + j) ≤ 122) : g_X10_isWord_L1 I A (1000 + i) 4096 true (0 : Int32) = some (decide (∀ j, j < m → c (e + j) = tp_kc i j)) := by
  have hk := tp_kcB i hi
  have hf : ∀ d k q, m - k = d → d < q → k ≤ m → g_X10_isWord_L1 I A (1000 + i) q false (nI k) = some false := by
    intro d
    induction d with
    | zero =>
      intro k q hd hq hkm
      obtain ⟨q, rfl⟩ : ∃ z, q = z + 1 := ⟨q - 1, by omega⟩
      rw [g_X10_isWord_L1, h1, if_pos (nI_le (by omega) (by omega))]
    | succ d ih =>
      intro k q hd hq hkm
      obtain ⟨q, rfl⟩ : ∃ z, q = z + 1 := ⟨q - 1, by omega⟩
      rw [g_X10_isWord_L1, h1, if_neg (nI_ge (by omega) (by omega)), if_neg (by decide), Option.bind_some, ← nI_succ]
      exact ih (k + 1) q (by omega) (by omega) (by omega)
  have ht : ∀ d k q, m - k = d → d < q → k ≤ m → (∀ j, j < k → c (e + j) = tp_kc i j) → g_X10_isWord_L1 I A (1000 + i) q true (nI k) = some (decide (∀ j, j < m → c (e + j) = tp_kc i j)) := by
    intro d
    induction d with
    | zero =>
      intro k q hd hq hkm hall
      obtain ⟨q, rfl⟩ : ∃ z, q = z + 1 := ⟨q - 1, by omega⟩
      rw [g_X10_isWord_L1, h1, if_pos (nI_le (by omega) (by omega)), decide_eq_true (fun j hj => hall j (by omega))]
    | succ d ih =>
      intro k q hd hq hkm hall
      obtain ⟨q, rfl⟩ : ∃ z, q = z + 1 := ⟨q - 1, by omega⟩
      have hkm2 : k < m := by omega
      have hc := h3 k hkm2
      have hc2 := (hk.2 k (by omega))
      rw [Nat.zero_add] at hc2
      rw [g_X10_isWord_L1, h1, if_neg (nI_ge hkm2 (by omega)), if_pos rfl, tm_ld (by omega) (by decide), Option.bind_some, tp_ldS i hi k (by omega), Option.bind_some, h2 k hkm2, ← nI_succ]
      by_cases g : c (e + k) = tp_kc i k
      · rw [if_pos (by rw [g]), Option.bind_some]
        exact ih (k + 1) q (by omega) (by omega) (by omega) (fun j hj => by
          by_cases w : j = k
          · rw [w]; exact g
          · exact hall j (by omega))
      · rw [if_neg (fun w => g ((nI_eq (by omega) (by omega)).mp w)), Option.bind_some, hf d (k + 1) q (by omega) (by omega) (by omega), decide_eq_false (fun w => g (w k hkm2))]
  exact ht m 0 4096 rfl (by omega) (Nat.zero_le _) (fun j hj => absurd hj (Nat.not_lt_zero _))
theorem tp_isW10 {c : Nat → Nat} {n : Nat} {I : Nat → Int32} {A : Nat → Nat → Int32} {e : Nat} {i : Nat} (h : tp_T10 c n I A e) (hz : I 4413 = 0) (hi : i < 19) : g_X10_isWord I A (1000 + i) = some (tp_is c n e i) := by
  have hk := tp_kcB i hi
  unfold g_X10_isWord
  rw [if_pos hz]
  by_cases g : tp_kd c n e = 1
  · rw [if_pos ((tp_T10_k1 h).mpr g), tp_lnS i hi]
    obtain ⟨m, hm, m8, l1, l2, l3⟩ := tp_T10_len h g
    have hv : tp_v c n e = tp_wv c (tp_at c n e) m := by unfold tp_v; rw [hm]
    rw [l1]
    by_cases g2 : m = tp_kl i
    · rw [if_pos (by rw [g2]), tp_isL10 (n := n) hi g2 l1 l2 l3, Option.bind_some]
      congr 1
      unfold tp_is
      by_cases g3 : ∀ j, j < m → c (tp_at c n e + j) = tp_kc i j
      · rw [decide_eq_true g3, decide_eq_true]
        refine ⟨g, ?_⟩
        rw [hv, g2]
        exact tp_wv_cong (fun j hj => by rw [Nat.zero_add]; exact g3 j (by omega))
      · rw [decide_eq_false g3, decide_eq_false]
        intro q
        refine g3 fun j hj => ?_
        have := (tp_wv_inj l3 hk.2 (hv.symm.trans q.2)).2 j hj
        rw [Nat.zero_add] at this
        exact this
    · rw [if_neg (fun q => g2 ((nI_eq (by omega) (by omega)).mp q)), show tp_is c n e i = false from decide_eq_false (fun q => g2 (tp_wv_inj l3 hk.2 (hv.symm.trans q.2)).1)]
  · rw [if_neg (fun q => g ((tp_T10_k1 h).mp q)), show tp_is c n e i = false from decide_eq_false (fun q => g q.1)]
theorem tp_w10_0 {c : Nat → Nat} {n : Nat} {I : Nat → Int32} {A : Nat → Nat → Int32} {e : Nat} (h : tp_T10 c n I A e) (hz : I 4413 = 0) : g_X10_isWord I A 1000 = some (tp_is c n e 0) := tp_isW10 h hz (i := 0) (by decide)
theorem tp_w10_1 {c : Nat → Nat} {n : Nat} {I : Nat → Int32} {A : Nat → Nat → Int32} {e : Nat} (h : tp_T10 c n I A e) (hz : I 4413 = 0) : g_X10_isWord I A 1001 = some (tp_is c n e 1) := tp_isW10 h hz (i := 1) (by decide)
theorem tp_w10_2 {c : Nat → Nat} {n : Nat} {I : Nat → Int32} {A : Nat → Nat → Int32} {e : Nat} (h : tp_T10 c n I A e) (hz : I 4413 = 0) : g_X10_isWord I A 1002 = some (tp_is c n e 2) := tp_isW10 h hz (i := 2) (by decide)
theorem tp_w10_3 {c : Nat → Nat} {n : Nat} {I : Nat → Int32} {A : Nat → Nat → Int32} {e : Nat} (h : tp_T10 c n I A e) (hz : I 4413 = 0) : g_X10_isWord I A 1003 = some (tp_is c n e 3) := tp_isW10 h hz (i := 3) (by decide)
theorem tp_w10_4 {c : Nat → Nat} {n : Nat} {I : Nat → Int32} {A : Nat → Nat → Int32} {e : Nat} (h : tp_T10 c n I A e) (hz : I 4413 = 0) : g_X10_isWord I A 1004 = some (tp_is c n e 4) := tp_isW10 h hz (i := 4) (by decide)
theorem tp_w10_5 {c : Nat → Nat} {n : Nat} {I : Nat → Int32} {A : Nat → Nat → Int32} {e : Nat} (h : tp_T10 c n I A e) (hz : I 4413 = 0) : g_X10_isWord I A 1005 = some (tp_is c n e 5) := tp_isW10 h hz (i := 5) (by decide)
theorem tp_w10_6 {c : Nat → Nat} {n : Nat} {I : Nat → Int32} {A : Nat → Nat → Int32} {e : Nat} (h : tp_T10 c n I A e) (hz : I 4413 = 0) : g_X10_isWord I A 1006 = some (tp_is c n e 6) := tp_isW10 h hz (i := 6) (by decide)
theorem tp_w10_7 {c : Nat → Nat} {n : Nat} {I : Nat → Int32} {A : Nat → Nat → Int32} {e : Nat} (h : tp_T10 c n I A e) (hz : I 4413 = 0) : g_X10_isWord I A 1007 = some (tp_is c n e 7) := tp_isW10 h hz (i := 7) (by decide)
theorem tp_w10_8 {c : Nat → Nat} {n : Nat} {I : Nat → Int32} {A : Nat → Nat → Int32} {e : Nat} (h : tp_T10 c n I A e) (hz : I 4413 = 0) : g_X10_isWord I A 1008 = some (tp_is c n e 8) := tp_isW10 h hz (i := 8) (by decide)
theorem tp_w10_9 {c : Nat → Nat} {n : Nat} {I : Nat → Int32} {A : Nat → Nat → Int32} {e : Nat} (h : tp_T10 c n I A e) (hz : I 4413 = 0) : g_X10_isWord I A 1009 = some (tp_is c n e 9) := tp_isW10 h hz (i := 9) (by decide)
theorem tp_w10_10 {c : Nat → Nat} {n : Nat} {I : Nat → Int32} {A : Nat → Nat → Int32} {e : Nat} (h : tp_T10 c n I A e) (hz : I 4413 = 0) : g_X10_isWord I A 1010 = some (tp_is c n e 10) := tp_isW10 h hz (i := 10) (by decide)
theorem tp_w10_11 {c : Nat → Nat} {n : Nat} {I : Nat → Int32} {A : Nat → Nat → Int32} {e : Nat} (h : tp_T10 c n I A e) (hz : I 4413 = 0) : g_X10_isWord I A 1011 = some (tp_is c n e 11) := tp_isW10 h hz (i := 11) (by decide)
theorem tp_w10_12 {c : Nat → Nat} {n : Nat} {I : Nat → Int32} {A : Nat → Nat → Int32} {e : Nat} (h : tp_T10 c n I A e) (hz : I 4413 = 0) : g_X10_isWord I A 1012 = some (tp_is c n e 12) := tp_isW10 h hz (i := 12) (by decide)
theorem tp_w10_13 {c : Nat → Nat} {n : Nat} {I : Nat → Int32} {A : Nat → Nat → Int32} {e : Nat} (h : tp_T10 c n I A e) (hz : I 4413 = 0) : g_X10_isWord I A 1013 = some (tp_is c n e 13) := tp_isW10 h hz (i := 13) (by decide)
theorem tp_w10_14 {c : Nat → Nat} {n : Nat} {I : Nat → Int32} {A : Nat → Nat → Int32} {e : Nat} (h : tp_T10 c n I A e) (hz : I 4413 = 0) : g_X10_isWord I A 1014 = some (tp_is c n e 14) := tp_isW10 h hz (i := 14) (by decide)
theorem tp_w10_15 {c : Nat → Nat} {n : Nat} {I : Nat → Int32} {A : Nat → Nat → Int32} {e : Nat} (h : tp_T10 c n I A e) (hz : I 4413 = 0) : g_X10_isWord I A 1015 = some (tp_is c n e 15) := tp_isW10 h hz (i := 15) (by decide)
theorem tp_w10_16 {c : Nat → Nat} {n : Nat} {I : Nat → Int32} {A : Nat → Nat → Int32} {e : Nat} (h : tp_T10 c n I A e) (hz : I 4413 = 0) : g_X10_isWord I A 1016 = some (tp_is c n e 16) := tp_isW10 h hz (i := 16) (by decide)
theorem tp_w10_17 {c : Nat → Nat} {n : Nat} {I : Nat → Int32} {A : Nat → Nat → Int32} {e : Nat} (h : tp_T10 c n I A e) (hz : I 4413 = 0) : g_X10_isWord I A 1017 = some (tp_is c n e 17) := tp_isW10 h hz (i := 17) (by decide)
theorem tp_w10_18 {c : Nat → Nat} {n : Nat} {I : Nat → Int32} {A : Nat → Nat → Int32} {e : Nat} (h : tp_T10 c n I A e) (hz : I 4413 = 0) : g_X10_isWord I A 1018 = some (tp_is c n e 18) := tp_isW10 h hz (i := 18) (by decide)
/-- faults -/
def tp_F10 (I : Nat → Int32) (x : Nat × Nat) : Prop := I 4413 = 1 ∧ I 4409 = nI x.1 ∧ I 4410 = nI x.2
def tp_w10 (I : Nat → Int32) (f p : Nat) : Nat → Int32 := upd (upd (upd I 4413 (1 : Int32)) 4409 (nI f)) 4410 (nI p)
theorem tp_wr10 {I : Nat → Int32} (hz : I 4413 = 0) (f p : Nat) : g_X10_wrong I (nI f) (nI p) = tp_w10 I f p := if_pos hz
theorem tp_wr10F {I : Nat → Int32} (f p : Nat) : tp_F10 (tp_w10 I f p) (f, p) := by
  unfold tp_w10
  refine ⟨?_, ?_, ?_⟩
  · rw [tm_un _ (by decide), tm_un _ (by decide), tm_us]
  · rw [tm_un _ (by decide), tm_us]
  · rw [tm_us]
theorem tp_wr10g {I : Nat → Int32} (f p : Nat) : ∀ k, (k < 4403 ∨ 4413 < k ∨ k = 4411) → tp_w10 I f p k = I k := fun k hk => by
  unfold tp_w10
  rw [tm_un _ (by omega), tm_un _ (by omega), tm_un _ (by omega)]
/-- what a failed reference does no more -/
def tp_N10 (I : Nat → Int32) : Prop := ¬ I 4413 = 0
theorem tp_F10_N {I : Nat → Int32} {x : Nat × Nat} (h : tp_F10 I x) : tp_N10 I := by
  unfold tp_N10
  rw [h.1]
  decide
theorem tp_n_is {I : Nat → Int32} (h : tp_N10 I) (A : Nat → Nat → Int32) (q : Nat) : g_X10_isWord I A q = some false := if_neg h
theorem tp_n_pass {I : Nat → Int32} (h : tp_N10 I) (A : Nat → Nat → Int32) : g_X10_pass I A = some (I, A) := if_neg h
theorem tp_n_must {I : Nat → Int32} (h : tp_N10 I) (A : Nat → Nat → Int32) (q : Nat) : g_X10_must I A q = some (I, A) := if_neg h
theorem tp_n_nh {I : Nat → Int32} (h : tp_N10 I) (a b : Int32) : g_X10_numberHere I a b = (a, I) := if_neg h
theorem tp_n_num {I : Nat → Int32} (h : tp_N10 I) (A : Nat → Nat → Int32) (a b : Int32) : g_X10_number I A a b = some (a, I, A) := by
  unfold g_X10_number
  dsimp only [tw_let]
  rw [tp_n_nh h]
  dsimp only
  rw [tp_n_pass h, Option.bind_some]
theorem tp_n_aft {I : Nat → Int32} (h : tp_N10 I) (A : Nat → Nat → Int32) (q : Nat) (a b : Int32) : g_X10_after I A q a b = some (a, I, A) := by
  unfold g_X10_after
  rw [tp_n_must h, Option.bind_some]
  dsimp only
  rw [tp_n_num h, Option.bind_some]
theorem tp_n_nam {I : Nat → Int32} (h : tp_N10 I) (A : Nat → Nat → Int32) (a b : Int32) : g_X10_named I A a b = some (0, I) := if_neg h
theorem tp_n_pla {I : Nat → Int32} (h : tp_N10 I) (A : Nat → Nat → Int32) : g_X10_placeHere I A = some (0, I) := by
  unfold g_X10_placeHere
  rw [tp_n_nam h, Option.bind_some]
theorem tp_n_per {I : Nat → Int32} (h : tp_N10 I) (A : Nat → Nat → Int32) : g_X10_personHere I A = some (0, I) := by
  unfold g_X10_personHere
  rw [tp_n_nam h, Option.bind_some]
theorem tp_n_pp {I : Nat → Int32} (h : tp_N10 I) (A : Nat → Nat → Int32) : g_X10_placePassed I A = some (0, I, A) := by
  unfold g_X10_placePassed
  rw [tp_n_pla h, Option.bind_some]
  dsimp only
  rw [tp_n_pass h, Option.bind_some]
theorem tp_n_wr {I : Nat → Int32} (h : tp_N10 I) (a b : Int32) : g_X10_wrong I a b = I := if_neg h
/-- what holds of the reference beside its tokens -/
def tp_Z10 (I0 : Nat → Int32) (A0 : Nat → Nat → Int32) (I : Nat → Int32) (A : Nat → Nat → Int32) : Prop := (∀ k, (k < 4403 ∨ 4413 < k ∨ k = 4411) → k ≠ 4409 → I k = I0 k) ∧ ∀ d, d ≠ 46 → d ≠ 48 → A d = A0 d
def tp_Q10 (I0 : Nat → Int32) (A0 : Nat → Nat → Int32) (I : Nat → Int32) (A : Nat → Nat → Int32) (F : Nat → Nat) : Prop := tp_Z10 I0 A0 I A ∧ I 4413 = 0 ∧ I 4409 = 0 ∧ ∀ j, j < 241 → A 48 j = nI (F j)
theorem tp_Q10_of {I0 : Nat → Int32} {A0 : Nat → Nat → Int32} {I I1 : Nat → Int32} {A A1 : Nat → Nat → Int32} {F : Nat → Nat} (h : tp_Q10 I0 A0 I A F) (h1 : tp_g10 I I1) (h2 : ∀ d, d ≠ 46 → A1 d = A d) : tp_Q10 I0 A0 I1 A1 F := by
  obtain ⟨⟨a, b⟩, z, f, g⟩ := h
  refine ⟨⟨fun k hk hk2 => (h1 k (by omega)).trans (a k hk hk2), fun d d1 d2 => (h2 d d1).trans (b d d1 d2)⟩, ?_, ?_, fun j hj => ?_⟩
  · rw [h1 _ (by decide)]; exact z
  · rw [h1 _ (by decide)]; exact f
  · rw [h2 _ (by decide)]; exact g j hj
theorem tp_Z10_w {I0 : Nat → Int32} {A0 : Nat → Nat → Int32} {I : Nat → Int32} {A : Nat → Nat → Int32} (h : tp_Z10 I0 A0 I A) (f p : Nat) : tp_Z10 I0 A0 (tp_w10 I f p) A := ⟨fun k hk hk2 => (tp_wr10g f p k hk).trans (h.1 k hk hk2), h.2⟩
theorem tp_mn10 {c : Nat → Nat} {n : Nat} {I : Nat → Int32} {A : Nat → Nat → Int32} {e : Nat} (h : tp_T10 c n I A e) (hz : I 4413 = 0) : g_X10_mustName I A = some (if tp_kd c n e = 1 ∧ tp_ls c n e = 9 then I else tp_w10 I 1 (tp_at c n e)) := by
  have hw : g_X10_wrong I (1 : Int32) (I 4404) = tp_w10 I 1 (tp_at c n e) := by rw [h.2.2.2.1]; exact tp_wr10 hz 1 _
  unfold g_X10_mustName
  dsimp only [tw_let]
  rw [hw]
  by_cases g : tp_kd c n e = 1
  · rw [if_pos ((tp_T10_k1 h).mpr g)]
    unfold tp_ls
    rw [tp_w10_16 h hz, Option.bind_some]
    by_cases g16 : tp_is c n e 16 = true
    · rw [if_pos g16, if_pos g16, if_neg (fun q => absurd q.2 (by decide))]
    · rw [if_neg g16, if_neg g16]
      rw [tp_w10_12 h hz, Option.bind_some]
      by_cases g12 : tp_is c n e 12 = true
      · rw [if_pos g12, if_pos g12, if_neg (fun q => absurd q.2 (by decide))]
      · rw [if_neg g12, if_neg g12]
        rw [tp_w10_15 h hz, Option.bind_some]
        by_cases g15 : tp_is c n e 15 = true
        · rw [if_pos g15, if_pos g15, if_neg (fun q => absurd q.2 (by decide))]
        · rw [if_neg g15, if_neg g15]
          rw [tp_w10_11 h hz, Option.bind_some]
          by_cases g11 : tp_is c n e 11 = true
          · rw [if_pos g11, if_pos g11, if_neg (fun q => absurd q.2 (by decide))]
          · rw [if_neg g11, if_neg g11]
            rw [tp_w10_8 h hz, Option.bind_some]
            by_cases g8 : tp_is c n e 8 = true
            · rw [if_pos g8, if_pos g8, if_neg (fun q => absurd q.2 (by decide))]
            · rw [if_neg g8, if_neg g8]
              rw [tp_w10_14 h hz, Option.bind_some]
              by_cases g14 : tp_is c n e 14 = true
              · rw [if_pos g14, if_pos g14, if_neg (fun q => absurd q.2 (by decide))]
              · rw [if_neg g14, if_neg g14]
                rw [tp_w10_9 h hz, Option.bind_some]
                by_cases g9 : tp_is c n e 9 = true
                · rw [if_pos g9, if_pos g9, if_neg (fun q => absurd q.2 (by decide))]
                · rw [if_neg g9, if_neg g9]
                  rw [tp_w10_17 h hz, Option.bind_some]
                  by_cases g17 : tp_is c n e 17 = true
                  · rw [if_pos g17, if_pos g17, if_neg (fun q => absurd q.2 (by decide))]
                  · rw [if_neg g17, if_neg g17]
                    rw [tp_w10_5 h hz, Option.bind_some]
                    by_cases g5 : tp_is c n e 5 = true
                    · rw [if_pos g5, if_pos g5, if_neg (fun q => absurd q.2 (by decide))]
                    · rw [if_neg g5, if_neg g5]
                      rw [if_pos ⟨g, rfl⟩]
  · rw [if_neg (fun q => g ((tp_T10_k1 h).mp q)), if_neg (fun q => g q.1)]
/-- the search for a name -/
theorem tp_fdL10 {c : Nat → Nat} {n : Nat} {I : Nat → Int32} {A : Nat → Nat → Int32} {e : Nat} {F : Nat → Nat} {s m : Nat} (hs : s < 15) (hF : ∀ j, j < 241 → A 48 j = nI (F j)) (h1 : I 4408 = nI m) (m8 : m ≤ 8) (h2 : ∀ j, j < m → A 46 j = nI (c (e + j))) (h3 : ∀ j, j < m → 97 ≤ c (e + j) ∧ c (e + j) ≤ 122) (h4 : ∀ j, j < m → F (121 + 8 * s + j) ≤ 122) : g_X10_find_L2 I A (nI s) 4096 (1 : Int32) (0 : Int32) = some (if ∀ j, j < m → F (121 + 8 * s + j) = c (e + j) then 1 else 0) := by
  have hf : ∀ k q, k ≤ m → g_X10_find_L2 I A (nI s) (q + 1) (0 : Int32) (nI k) = some 0 := by
    intro k q hkm
    rw [g_X10_find_L2, h1]
    by_cases g : m ≤ k
    · rw [if_pos (nI_le g (by omega))]
    · rw [if_neg (nI_ge (by omega) (by omega)), if_pos rfl]
  have ht : ∀ d k q, m - k = d → d + 1 < q → k ≤ m → (∀ j, j < k → F (121 + 8 * s + j) = c (e + j)) → g_X10_find_L2 I A (nI s) q (1 : Int32) (nI k) = some (if ∀ j, j < m → F (121 + 8 * s + j) = c (e + j) then 1 else 0) := by
    intro d
    induction d with
    | zero =>
      intro k q hd hq hkm hall
      obtain ⟨q, rfl⟩ : ∃ z, q = z + 1 := ⟨q - 1, by omega⟩
      rw [g_X10_find_L2, h1, if_pos (nI_le (by omega) (by omega)), if_pos (fun j hj => hall j (by omega))]
    | succ d ih =>
      intro k q hd hq hkm hall
      obtain ⟨q, rfl⟩ : ∃ z, q = z + 1 := ⟨q - 1, by omega⟩
      have hkm2 : k < m := by omega
      have hc := h3 k hkm2
      have hc2 := h4 k hkm2
      rw [g_X10_find_L2, h1, if_neg (nI_ge hkm2 (by omega)), if_neg (by decide), tm_l_l0 _ hs (by omega), Option.bind_some, tm_ld (by omega) (by decide), Option.bind_some, h2 k hkm2, hF _ (by omega), ← nI_succ]
      by_cases g : F (121 + 8 * s + k) = c (e + k)
      · rw [if_pos (by rw [g]), Option.bind_some]
        exact ih (k + 1) q (by omega) (by omega) (by omega) (fun j hj => by
          by_cases w : j = k
          · rw [w]; exact g
          · exact hall j (by omega))
      · rw [if_neg (fun w => g ((nI_eq (by omega) (by omega)).mp w)), Option.bind_some]
        obtain ⟨q, rfl⟩ : ∃ z, q = z + 1 := ⟨q - 1, by omega⟩
        rw [hf (k + 1) q (by omega), if_neg (fun w => g (w k hkm2))]
  exact ht m 0 4096 rfl (by omega) (Nat.zero_le _) (fun j hj => absurd hj (Nat.not_lt_zero _))
theorem tp_find10 {c : Nat → Nat} {n : Nat} {I : Nat → Int32} {A : Nat → Nat → Int32} {e : Nat} {F : Nat → Nat} (h : tp_T10 c n I A e) (h1 : tp_kd c n e = 1) (hF : ∀ j, j < 241 → A 48 j = nI (F j)) (hW : tp_WN F) : g_X10_find I A = some (if tp_fd c n e F = 15 then (-1 : Int32) else nI (tp_fd c n e F)) := by
  obtain ⟨m, hm, m8, l1, l2, l3⟩ := tp_T10_len h h1
  have hle := tp_fd_le c n e F
  have hv : tp_v c n e = tp_wv c (tp_at c n e) m := by unfold tp_v; rw [hm]
  have m0 : 0 < m := by have := (tp_kd1 h1).2.2.2.1; omega
  have one : ∀ s q, s < 15 → g_X10_find_L1 I A (fun _ => some (-1 : Int32)) (q + 1) (nI s) = if (0 < F (106 + s) ∧ tp_fv F s = tp_v c n e) then some (nI s) else g_X10_find_L1 I A (fun _ => some (-1 : Int32)) q (nI (s + 1)) := by
    intro s q hs
    obtain ⟨w1, w2⟩ := hW.1 s hs
    rw [g_X10_find_L1, if_neg (show ¬ (15 : Int32) ≤ nI s from nI_ge (b := 15) hs (by decide)), tm_l_n0 _ hs, Option.bind_some, hF _ (by omega), Option.bind_some, l1, ← nI_succ]
    have zero : ∀ q, g_X10_find_L2 I A (nI s) (q + 1) (0 : Int32) (0 : Int32) = some 0 := by
      intro q
      rw [g_X10_find_L2, l1, if_neg (show ¬ nI m ≤ (0 : Int32) from nI_nle m0 (by omega)), if_pos rfl]
    by_cases g0 : F (106 + s) = 0
    · rw [g0, if_pos (show nI 0 ≤ (0 : Int32) by decide), Option.bind_some, zero 4095, Option.bind_some, if_pos rfl, if_neg (fun q => absurd q.1 (Nat.lt_irrefl 0))]
    · rw [if_neg (nI_nle (by omega) (by omega))]
      by_cases g1 : F (106 + s) = m
      · rw [if_pos (by rw [g1]), Option.bind_some, tp_fdL10 (n := n) hs hF l1 m8 l2 l3 (fun j hj => (w2 j (by omega)).2), Option.bind_some]
        by_cases g2 : ∀ j, j < m → F (121 + 8 * s + j) = c (tp_at c n e + j)
        · rw [if_pos g2, if_neg (by decide), if_pos ⟨by omega, by rw [hv]; unfold tp_fv; rw [g1]; exact tp_wv_cong g2⟩]
        · rw [if_neg g2, if_pos rfl, if_neg (fun q => g2 (fun j hj => (tp_wv_inj (m := F (106 + s)) w2 l3 (by rw [← hv]; exact q.2)).2 j (by omega)))]
      · rw [if_neg (fun q => g1 ((nI_eq (by omega) (by omega)).mp q)), Option.bind_some, zero 4095, Option.bind_some, if_pos rfl, if_neg (fun q => g1 (tp_wv_inj w2 l3 (by rw [← hv]; exact q.2)).1)]
  have key : ∀ d s q, tp_fd c n e F - s = d → d < q → s ≤ tp_fd c n e F → g_X10_find_L1 I A (fun _ => some (-1 : Int32)) q (nI s) = some (if tp_fd c n e F = 15 then (-1 : Int32) else nI (tp_fd c n e F)) := by
    intro d
    induction d with
    | zero =>
      intro s q hd hq hsm
      obtain ⟨q, rfl⟩ : ∃ z, q = z + 1 := ⟨q - 1, by omega⟩
      have hs : s = tp_fd c n e F := by omega
      by_cases g : s < 15
      · rw [one s q g, hs, if_pos (tp_fd_mt (by omega)), if_neg (by omega)]
      · rw [if_pos (by omega), g_X10_find_L1, if_pos (show (15 : Int32) ≤ nI s from nI_le (a := 15) (by omega) (by omega))]
    | succ d ih =>
      intro s q hd hq hsm
      obtain ⟨q, rfl⟩ : ∃ z, q = z + 1 := ⟨q - 1, by omega⟩
      rw [one s q (by omega), if_neg (tp_fd_no (by omega))]
      exact ih (s + 1) q (by omega) (by omega) (by omega)
  exact key (tp_fd c n e F) 0 4096 rfl (by omega) (Nat.zero_le _)
theorem tp_in3 {x : Nat} {b m : Nat} (hx : x < 1000) (hb : b < 1000) (hm : m < 1000) : g_X10_in (nI x) (nI b) (nI m) = decide (b ≤ x ∧ x ≤ m) := by
  unfold g_X10_in
  by_cases g : x < b
  · rw [if_pos (nI_lt g (by omega)), decide_eq_false (by omega)]
  · rw [if_neg (nI_nlt (by omega) (by omega))]
    by_cases g2 : m < x
    · rw [if_pos (nI_lt g2 (by omega)), decide_eq_false (by omega)]
    · rw [if_neg (nI_nlt (by omega) (by omega)), decide_eq_true (by omega)]
theorem tp_inm : ∀ b, b < 16 → ∀ m, m < 16 → g_X10_in (-1 : Int32) (nI b) (nI m) = false := by decide +kernel
theorem tp_named10 {c : Nat → Nat} {n : Nat} {I : Nat → Int32} {A : Nat → Nat → Int32} {e : Nat} {F : Nat → Nat} {a b m : Nat} (h : tp_T10 c n I A e) (hz : I 4413 = 0) (hF : ∀ j, j < 241 → A 48 j = nI (F j)) (hW : tp_WN F) (ht : tp_tr a b m) : match tp_to c n e F b m with
    | .inl x => ∃ v, g_X10_named I A (nI b) (nI (b + m - 1)) = some (v, tp_w10 I x.1 x.2)
    | .inr v => g_X10_named I A (nI b) (nI (b + m - 1)) = some (nI v, I) := by
  have hb : b < 13 ∧ b + m ≤ 15 ∧ 0 < m := by rcases ht with q | q | q <;> omega
  have hle := tp_fd_le c n e F
  unfold g_X10_named tp_to
  rw [if_pos hz, tp_mn10 h hz, Option.bind_some]
  by_cases g : tp_kd c n e = 1 ∧ tp_ls c n e = 9
  · rw [if_pos g, if_pos g, if_pos hz, tp_find10 h g.1 hF hW, Option.bind_some]
    dsimp only [tw_let]
    have hw : g_X10_wrong I (2 : Int32) (I 4404) = tp_w10 I 2 (tp_at c n e) := by rw [h.2.2.2.1]; exact tp_wr10 hz 2 _
    rw [hw]
    have N := tp_F10_N (tp_wr10F (I := I) 2 (tp_at c n e))
    by_cases g2 : b ≤ tp_fd c n e F ∧ tp_fd c n e F < b + m
    · rw [if_pos g2, if_neg (show ¬ tp_fd c n e F = 15 by omega), if_pos (by rw [tp_in3 (by omega) (by omega) (by omega)]; exact decide_eq_true (by omega)), Option.bind_some, if_pos hz, pk_sub g2.1]
    · rw [if_neg g2]
      refine ⟨0, ?_⟩
      dsimp only
      have e1 : ¬ g_X10_in (if tp_fd c n e F = 15 then (-1 : Int32) else nI (tp_fd c n e F)) (nI b) (nI (b + m - 1)) = true := by
        by_cases q : tp_fd c n e F = 15
        · rw [if_pos q, tp_inm b (by omega) (b + m - 1) (by omega)]
          decide
        · rw [if_neg q, tp_in3 (by omega) (by omega) (by omega)]
          exact fun z => g2 (by have := of_decide_eq_true z; omega)
      rw [if_neg e1, Option.bind_some, if_neg N]
  · rw [if_neg g, if_neg g]
    refine ⟨0, ?_⟩
    dsimp only
    rw [if_neg (tp_F10_N (tp_wr10F (I := I) 1 (tp_at c n e)))]
theorem tp_pla10 {c : Nat → Nat} {n : Nat} {I : Nat → Int32} {A : Nat → Nat → Int32} {e : Nat} {F : Nat → Nat} (h : tp_T10 c n I A e) (hz : I 4413 = 0) (hF : ∀ j, j < 241 → A 48 j = nI (F j)) (hW : tp_WN F) : match tp_to c n e F 0 6 with
    | .inl x => ∃ v, g_X10_placeHere I A = some (v, tp_w10 I x.1 x.2)
    | .inr v => g_X10_placeHere I A = some (nI v, I) := by
  have k := tp_named10 h hz hF hW (a := 1) (b := 0) (m := 6) (Or.inl ⟨rfl, rfl, rfl⟩)
  unfold g_X10_placeHere
  cases hc : tp_to c n e F 0 6 with
  | inl x =>
    rw [hc] at k
    obtain ⟨v, k⟩ := k
    exact ⟨v, by rw [show g_X10_named I A (0 : Int32) (5 : Int32) = _ from k, Option.bind_some]⟩
  | inr v =>
    rw [hc] at k
    show _ = _
    rw [show g_X10_named I A (0 : Int32) (5 : Int32) = _ from k, Option.bind_some]
theorem tp_per10 {c : Nat → Nat} {n : Nat} {I : Nat → Int32} {A : Nat → Nat → Int32} {e : Nat} {F : Nat → Nat} (h : tp_T10 c n I A e) (hz : I 4413 = 0) (hF : ∀ j, j < 241 → A 48 j = nI (F j)) (hW : tp_WN F) : match tp_to c n e F 6 6 with
    | .inl x => ∃ v, g_X10_personHere I A = some (v, tp_w10 I x.1 x.2)
    | .inr v => g_X10_personHere I A = some (nI v, I) := by
  have k := tp_named10 h hz hF hW (a := 3) (b := 6) (m := 6) (Or.inr (Or.inl ⟨rfl, rfl, rfl⟩))
  unfold g_X10_personHere
  cases hc : tp_to c n e F 6 6 with
  | inl x =>
    rw [hc] at k
    obtain ⟨v, k⟩ := k
    exact ⟨v, by rw [show g_X10_named I A (6 : Int32) (11 : Int32) = _ from k, Option.bind_some]⟩
  | inr v =>
    rw [hc] at k
    show _ = _
    rw [show g_X10_named I A (6 : Int32) (11 : Int32) = _ from k, Option.bind_some]
theorem tp_pass10 {c : Nat → Nat} {n : Nat} {I : Nat → Int32} {A : Nat → Nat → Int32} {e : Nat} (h : tp_T10 c n I A e) (hz : I 4413 = 0) (hk : tp_kd c n e ≠ 4) : ∃ I1 A1, g_X10_pass I A = some (I1, A1) ∧ tp_T10 c n I1 A1 (tp_st c n e) ∧ tp_g10 I I1 ∧ ∀ d, d ≠ 46 → A1 d = A d := by
  obtain ⟨I1, A1, a1, a2, a3, a4⟩ := tp_nxt10 h hk
  refine ⟨I1, A1, ?_, a2, a3, a4⟩
  unfold g_X10_pass
  rw [if_pos hz, a1, Option.bind_some]
theorem tp_to_kd {c : Nat → Nat} {n e : Nat} {F : Nat → Nat} {b m v : Nat} (h : tp_to c n e F b m = .inr v) : tp_kd c n e ≠ 4 := by
  unfold tp_to at h
  split at h
  · next g => omega
  · cases h
theorem tp_pp10 {c : Nat → Nat} {n : Nat} {I : Nat → Int32} {A : Nat → Nat → Int32} {e : Nat} {F : Nat → Nat} (h : tp_T10 c n I A e) (hz : I 4413 = 0) (hF : ∀ j, j < 241 → A 48 j = nI (F j)) (hW : tp_WN F) : match tp_to c n e F 0 6 with
    | .inl x => ∃ v, g_X10_placePassed I A = some (v, tp_w10 I x.1 x.2, A)
    | .inr v => ∃ I1 A1, g_X10_placePassed I A = some (nI v, I1, A1) ∧ tp_T10 c n I1 A1 (tp_st c n e) ∧ tp_g10 I I1 ∧ ∀ d, d ≠ 46 → A1 d = A d := by
  have k := tp_pla10 h hz hF hW
  unfold g_X10_placePassed
  cases hc : tp_to c n e F 0 6 with
  | inl x =>
    rw [hc] at k
    obtain ⟨v, k⟩ := k
    refine ⟨v, ?_⟩
    rw [k, Option.bind_some]
    dsimp only
    rw [tp_n_pass (tp_F10_N (tp_wr10F _ _)), Option.bind_some]
  | inr v =>
    rw [hc] at k
    have k' : g_X10_placeHere I A = some (nI v, I) := k
    obtain ⟨I1, A1, a1, a2, a3, a4⟩ := tp_pass10 h hz (tp_to_kd hc)
    refine ⟨I1, A1, ?_, a2, a3, a4⟩
    rw [k', Option.bind_some]
    dsimp only
    rw [a1, Option.bind_some]
theorem tp_must10 {c : Nat → Nat} {n : Nat} {I : Nat → Int32} {A : Nat → Nat → Int32} {e : Nat} {i q : Nat} (h : tp_T10 c n I A e) (hz : I 4413 = 0) (hi : i < 19) (hq : q = 1000 + i) : match tp_wo c n e i with
    | .inl x => g_X10_must I A q = some (tp_w10 I x.1 x.2, A)
    | .inr _ => ∃ I1 A1, g_X10_must I A q = some (I1, A1) ∧ tp_T10 c n I1 A1 (tp_st c n e) ∧ tp_g10 I I1 ∧ ∀ d, d ≠ 46 → A1 d = A d := by
  subst hq
  unfold g_X10_must g_X10_takesWord tp_wo
  rw [if_pos hz, tp_isW10 h hz hi, Option.bind_some]
  by_cases g : tp_is c n e i = true
  · rw [if_pos g, if_pos g]
    have gk := (of_decide_eq_true g).1
    obtain ⟨I1, A1, a1, a2, a3, a4⟩ := tp_nxt10 h (by omega)
    refine ⟨I1, A1, ?_, a2, a3, a4⟩
    rw [a1, Option.bind_some, Option.bind_some]
    dsimp only
    rw [if_pos rfl]
  · rw [if_neg g, if_neg g, Option.bind_some]
    show (if false = true then some (I, A) else tw_let (g_X10_wrong I (1 : Int32) (I 4404)) fun I7 => some (I7, A)) = some (tp_w10 I 1 (tp_at c n e), A)
    rw [if_neg (by decide), h.2.2.2.1]
    show some (g_X10_wrong I (nI 1) (nI (tp_at c n e)), A) = _
    rw [tp_wr10 hz]
theorem tp_nh10 {c : Nat → Nat} {n : Nat} {I : Nat → Int32} {A : Nat → Nat → Int32} {e : Nat} {lo hi : Nat} (h : tp_T10 c n I A e) (hz : I 4413 = 0) (hl : lo < 1000) (hh : hi < 1000) : match tp_wh c n e lo hi with
    | .inl x => g_X10_numberHere I (nI lo) (nI hi) = (nI lo, tp_w10 I x.1 x.2)
    | .inr v => g_X10_numberHere I (nI lo) (nI hi) = (nI v, I) := by
  unfold g_X10_numberHere tp_wh
  dsimp only [tw_let]
  rw [if_pos hz, h.2.2.2.1, show (4 : Int32) = nI 4 from rfl, show (1 : Int32) = nI 1 from rfl, tp_wr10 hz, tp_wr10 hz]
  by_cases g : tp_kd c n e = 2
  · have hw := tp_w_lt g
    rw [if_pos ((tp_T10_k2 h).mpr g), if_pos g, h.2.2.2.2.2.2.2 g, tp_in3 hw hl hh]
    by_cases g1 : tp_w c n e < lo ∨ hi < tp_w c n e
    · rw [if_pos g1, if_neg (show ¬ decide (lo ≤ tp_w c n e ∧ tp_w c n e ≤ hi) = true from fun q => by have := of_decide_eq_true q; omega)]
      show (if (tp_w10 I 4 (tp_at c n e)) 4413 = 0 then _ else _) = _
      rw [if_neg (tp_F10_N (tp_wr10F (I := I) 4 (tp_at c n e)))]
    · rw [if_neg g1, if_pos (decide_eq_true (by omega)), if_pos hz]
      show (I 4407, I) = _
      rw [h.2.2.2.2.2.2.2 g]
  · rw [if_neg (fun q => g ((tp_T10_k2 h).mp q)), if_neg g]
    show (if (tp_w10 I 1 (tp_at c n e)) 4413 = 0 then _ else _) = _
    rw [if_neg (tp_F10_N (tp_wr10F (I := I) 1 (tp_at c n e)))]
theorem tp_wh_kd {c : Nat → Nat} {n e lo hi v : Nat} (h : tp_wh c n e lo hi = .inr v) : tp_kd c n e ≠ 4 ∧ lo ≤ v ∧ v ≤ hi := by
  unfold tp_wh at h
  split at h
  · next g =>
    split at h
    · cases h
    · next g2 =>
      cases h
      omega
  · cases h
theorem tp_num10 {c : Nat → Nat} {n : Nat} {I : Nat → Int32} {A : Nat → Nat → Int32} {e : Nat} {lo hi : Nat} (h : tp_T10 c n I A e) (hz : I 4413 = 0) (hl : lo < 1000) (hh : hi < 1000) : match tp_wh c n e lo hi with
    | .inl x => g_X10_number I A (nI lo) (nI hi) = some (nI lo, tp_w10 I x.1 x.2, A)
    | .inr v => ∃ I1 A1, g_X10_number I A (nI lo) (nI hi) = some (nI v, I1, A1) ∧ tp_T10 c n I1 A1 (tp_st c n e) ∧ tp_g10 I I1 ∧ ∀ d, d ≠ 46 → A1 d = A d := by
  have k := tp_nh10 h hz hl hh
  unfold g_X10_number
  dsimp only [tw_let]
  cases hc : tp_wh c n e lo hi with
  | inl x =>
    rw [hc] at k
    have k' : g_X10_numberHere I (nI lo) (nI hi) = (nI lo, tp_w10 I x.1 x.2) := k
    show _ = _
    rw [k']
    dsimp only
    rw [tp_n_pass (tp_F10_N (tp_wr10F _ _)), Option.bind_some]
  | inr v =>
    rw [hc] at k
    have k' : g_X10_numberHere I (nI lo) (nI hi) = (nI v, I) := k
    obtain ⟨I1, A1, a1, a2, a3, a4⟩ := tp_pass10 h hz (tp_wh_kd hc).1
    refine ⟨I1, A1, ?_, a2, a3, a4⟩
    rw [k']
    dsimp only
    rw [a1, Option.bind_some]
/-- a word and a number -/
def tp_af (c : Nat → Nat) (n e i lo hi : Nat) : (Nat × Nat) ⊕ Nat := tp_b (tp_wo c n e i) fun _ => tp_wh c n (tp_st c n e) lo hi
theorem tp_aft10 {c : Nat → Nat} {n : Nat} {I : Nat → Int32} {A : Nat → Nat → Int32} {e : Nat} {i q lo hi : Nat} (h : tp_T10 c n I A e) (hz : I 4413 = 0) (hi' : i < 19) (hq : q = 1000 + i) (hl : lo < 1000) (hh : hi < 1000) : match tp_af c n e i lo hi with
    | .inl x => ∃ v I1 A1, g_X10_after I A q (nI lo) (nI hi) = some (v, I1, A1) ∧ tp_F10 I1 x ∧ (∀ k, (k < 4403 ∨ 4413 < k ∨ k = 4411) → I1 k = I k) ∧ ∀ d, d ≠ 46 → A1 d = A d
    | .inr v => ∃ I1 A1, g_X10_after I A q (nI lo) (nI hi) = some (nI v, I1, A1) ∧ tp_T10 c n I1 A1 (tp_st c n (tp_st c n e)) ∧ tp_g10 I I1 ∧ ∀ d, d ≠ 46 → A1 d = A d := by
  have k := tp_must10 h hz hi' hq
  unfold g_X10_after tp_af
  cases hc : tp_wo c n e i with
  | inl x =>
    rw [hc] at k
    have k' : g_X10_must I A q = some (tp_w10 I x.1 x.2, A) := k
    refine ⟨nI lo, tp_w10 I x.1 x.2, A, ?_, tp_wr10F _ _, tp_wr10g _ _, fun _ _ => rfl⟩
    rw [k', Option.bind_some]
    dsimp only
    rw [tp_n_num (tp_F10_N (tp_wr10F _ _)), Option.bind_some]
  | inr u =>
    rw [hc] at k
    obtain ⟨I1, A1, a1, a2, a3, a4⟩ := k
    have hz1 : I1 4413 = 0 := (a3 _ (by decide)).trans hz
    have k2 := tp_num10 (lo := lo) (hi := hi) a2 hz1 hl hh
    rw [tp_b_r]
    cases hc2 : tp_wh c n (tp_st c n e) lo hi with
    | inl x =>
      rw [hc2] at k2
      have k2' : g_X10_number I1 A1 (nI lo) (nI hi) = some (nI lo, tp_w10 I1 x.1 x.2, A1) := k2
      refine ⟨nI lo, tp_w10 I1 x.1 x.2, A1, ?_, tp_wr10F _ _, fun j hj => (tp_wr10g _ _ j hj).trans (a3 j (by omega)), a4⟩
      rw [a1, Option.bind_some]
      dsimp only
      rw [k2', Option.bind_some]
    | inr v =>
      rw [hc2] at k2
      obtain ⟨I2, A2, b1, b2, b3, b4⟩ := k2
      refine ⟨I2, A2, ?_, b2, fun j hj => (b3 j hj).trans (a3 j hj), fun d hd => (b4 d hd).trans (a4 d hd)⟩
      rw [a1, Option.bind_some]
      dsimp only
      rw [b1, Option.bind_some]
/-- a new name -/
theorem tp_nn10L {c : Nat → Nat} {n : Nat} {I : Nat → Int32} {A : Nat → Nat → Int32} {e : Nat} {F : Nat → Nat} {s m : Nat} (hs : s < 15) (h1 : I 4408 = nI m) (m8 : m ≤ 8) (h2 : ∀ j, j < m → A 46 j = nI (c (e + j))) : ∀ d k q B, m - k = d → d < q → k ≤ m → B 46 = A 46 → (∀ d, d ≠ 48 → B d = A d) → (∀ j, B 48 j = if 121 + 8 * s ≤ j ∧ j < 121 + 8 * s + k then nI (c (e + (j - (121 + 8 * s)))) else A 48 j) → ∃ A1, g_X10_newName_L1 (nI s) I q (nI k) B = some A1 ∧ (∀ d, d ≠ 48 → A1 d = A d) ∧ ∀ j, A1 48 j = if 121 + 8 * s ≤ j ∧ j < 121 + 8 * s + m then nI (c (e + (j - (121 + 8 * s)))) else A 48 j := by
  intro d
  induction d with
  | zero =>
    intro k q B hd hq hkm hB hB2 hB3
    obtain ⟨q, rfl⟩ : ∃ z, q = z + 1 := ⟨q - 1, by omega⟩
    have : k = m := by omega
    subst this
    exact ⟨B, by rw [g_X10_newName_L1, h1, if_pos (nI_le (Nat.le_refl _) (by omega))], hB2, hB3⟩
  | succ d ih =>
    intro k q B hd hq hkm hB hB2 hB3
    obtain ⟨q, rfl⟩ : ∃ z, q = z + 1 := ⟨q - 1, by omega⟩
    rw [g_X10_newName_L1, h1, if_neg (nI_ge (by omega) (by omega)), hB, tm_ld (by omega) (by decide), Option.bind_some, h2 k (by omega), tm_i_l0 hs (by omega), tm_st (by omega) (by decide), Option.bind_some, ← nI_succ]
    refine ih (k + 1) q _ (by omega) (by omega) (by omega) ((tm_vn _ (by decide)).trans hB) (fun d hd => (tm_vn _ hd).trans (hB2 d hd)) (fun j => ?_)
    rw [tm_vs]
    by_cases g : j = 121 + 8 * s + k
    · rw [g, tm_us, if_pos (by omega), show 121 + 8 * s + k - (121 + 8 * s) = k by omega]
    · rw [tm_un _ g, hB3]
      by_cases g2 : 121 + 8 * s ≤ j ∧ j < 121 + 8 * s + k
      · rw [if_pos g2, if_pos (by omega)]
      · rw [if_neg g2, if_neg (by omega)]
theorem tp_new10 {c : Nat → Nat} {n : Nat} {I : Nat → Int32} {A : Nat → Nat → Int32} {e : Nat} {I0 : Nat → Int32} {A0 : Nat → Nat → Int32} {F : Nat → Nat} {s : Nat} (h : tp_T10 c n I A e) (hQ : tp_Q10 I0 A0 I A F) (hW : tp_WN F) (hs : s < 15) : match tp_na c n e F with
    | .inl x => ∃ I1, g_X10_newName I A (nI s) = some (I1, A) ∧ tp_F10 I1 x ∧ tp_Z10 I0 A0 I1 A
    | .inr _ => ∃ I1 A1, g_X10_newName I A (nI s) = some (I1, A1) ∧ tp_T10 c n I1 A1 (tp_st c n e) ∧ tp_Q10 I0 A0 I1 A1 (tp_nf c n e F s) := by
  have hz := hQ.2.1
  have hle := tp_fd_le c n e F
  unfold g_X10_newName tp_na
  rw [if_pos hz, tp_mn10 h hz, Option.bind_some]
  by_cases g : tp_kd c n e = 1 ∧ tp_ls c n e = 9
  · rw [if_pos g, if_pos g, if_pos hz, tp_find10 h g.1 hQ.2.2.2 hW, Option.bind_some]
    dsimp only [tw_let]
    by_cases g2 : tp_fd c n e F = 15
    · rw [if_pos g2, if_pos g2, if_pos (by decide), Option.bind_some, if_pos hz]
      obtain ⟨m, hm, m8, l1, l2, l3⟩ := tp_T10_len h g.1
      obtain ⟨A1, a1, a2, a3⟩ := tp_nn10L (n := n) (F := F) hs l1 m8 l2 m 0 4096 A rfl (by omega) (Nat.zero_le _) rfl (fun _ _ => rfl) (fun j => by rw [if_neg (by omega)])
      rw [show g_X10_newName_L1 (nI s) I 4096 (0 : Int32) A = _ from a1, Option.bind_some, tm_i_n0 hs, tm_st (by omega) (by decide), Option.bind_some, l1]
      have hT : tp_T10 c n I (va_up A1 48 (upd (A1 48) (106 + s) (nI m))) e := tp_T10_of h (fun _ _ _ => rfl) (by rw [tm_vn _ (by decide)]; exact a2 _ (by decide)) (by rw [tm_vn _ (by decide)]; exact a2 _ (by decide))
      obtain ⟨I2, A2, b1, b2, b3, b4⟩ := tp_nxt10 hT (by omega)
      refine ⟨I2, A2, ?_, b2, ?_⟩
      · rw [b1, Option.bind_some]
      · refine tp_Q10_of (I := I) (A := va_up A1 48 (upd (A1 48) (106 + s) (nI m))) ⟨⟨hQ.1.1, fun d d1 d2 => by rw [tm_vn _ d2, a2 d d2]; exact hQ.1.2 d d1 d2⟩, hz, hQ.2.2.1, fun j hj => ?_⟩ b3 b4
        rw [tm_vs]
        unfold tp_nf
        by_cases q : j = 106 + s
        · rw [q, tm_us, if_pos rfl, hm]
        · rw [tm_un _ q, if_neg q, a3 j, ← hm]
          by_cases q2 : 121 + 8 * s ≤ j ∧ j < 121 + 8 * s + m
          · rw [if_pos q2, if_pos q2]
          · rw [if_neg q2, if_neg q2]
            exact hQ.2.2.2 j hj
    · rw [if_neg g2, if_neg g2, if_neg (nI_pos (by omega)), Option.bind_some]
      have hw : g_X10_wrong I (3 : Int32) (I 4404) = tp_w10 I 3 (tp_at c n e) := by rw [h.2.2.2.1]; exact tp_wr10 hz 3 _
      rw [hw, if_neg (tp_F10_N (tp_wr10F (I := I) 3 (tp_at c n e)))]
      exact ⟨_, rfl, tp_wr10F _ _, tp_Z10_w hQ.1 _ _⟩
  · rw [if_neg g, if_neg g, if_neg (tp_F10_N (tp_wr10F (I := I) 1 (tp_at c n e))), Option.bind_some, if_neg (tp_F10_N (tp_wr10F (I := I) 1 (tp_at c n e)))]
    exact ⟨_, rfl, tp_wr10F _ _, tp_Z10_w hQ.1 _ _⟩
