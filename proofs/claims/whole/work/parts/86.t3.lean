/-! MATHEMATICS, 37: names that are told, in both; the class's name and told -/
theorem tp_wv_cong {c d : Nat → Nat} {a b : Nat} : ∀ {m : Nat}, (∀ j, j < m → c (a + j) = d (b + j)) → tp_wv c a m = tp_wv d b m
  | 0, _ => rfl
  | m + 1, h => by
    rw [tp_wv, tp_wv, tp_wv_cong (fun j hj => h j (by omega)), h m (by omega)]
/-- the letters of a name's place, as a number; the place that the token names (15: none) -/
def tp_fv (F : Nat → Nat) (s : Nat) : Nat := tp_wv F (121 + 8 * s) (F (106 + s))
def tp_mt (c : Nat → Nat) (n e : Nat) (F : Nat → Nat) (s : Nat) : Bool := decide (0 < F (106 + s) ∧ tp_fv F s = tp_v c n e)
def tp_fd (c : Nat → Nat) (n e : Nat) (F : Nat → Nat) : Nat := tp_en (fun s => !tp_mt c n e F s) (fun s => s) 15 0
theorem tp_fd_le (c : Nat → Nat) (n e : Nat) (F : Nat → Nat) : tp_fd c n e F ≤ 15 := tp_en_le (by decide)
theorem tp_fd_mt {c : Nat → Nat} {n e : Nat} {F : Nat → Nat} (h : tp_fd c n e F < 15) : 0 < F (106 + tp_fd c n e F) ∧ tp_fv F (tp_fd c n e F) = tp_v c n e := by
  have h1 := tp_en_no (fun s => !tp_mt c n e F s) (fun s => s) 15 0
  have h2 : tp_mt c n e F (tp_fd c n e F) = true := by
    cases h3 : tp_mt c n e F (tp_fd c n e F) with
    | true => rfl
    | false => exact absurd ⟨h, by show (!tp_mt c n e F (tp_fd c n e F)) = true; rw [h3]; rfl⟩ h1
  exact of_decide_eq_true h2
theorem tp_fd_no {c : Nat → Nat} {n e : Nat} {F : Nat → Nat} {s : Nat} (h : s < tp_fd c n e F) : ¬ (0 < F (106 + s) ∧ tp_fv F s = tp_v c n e) := by
  have h1 : (!tp_mt c n e F s) = true := tp_en_in (f := fun s => !tp_mt c n e F s) (c := fun s => s) (n := 15) (p := 0) (Nat.zero_le _) h
  intro q
  rw [show tp_mt c n e F s = true from decide_eq_true q] at h1
  cases h1
def tp_so (s : Nat) : Nat := if s < 6 then 1 else if s < 12 then 3 else 5
def tp_ba (s : Nat) : Nat := if s < 6 then 0 else if s < 12 then 6 else 12
def tp_no (s : Nat) : Nat := s - tp_ba s
def tp_WN (F : Nat → Nat) : Prop := (∀ s, s < 15 → F (106 + s) ≤ 8 ∧ ∀ j, j < F (106 + s) → 97 ≤ F (121 + 8 * s + j) ∧ F (121 + 8 * s + j) ≤ 122) ∧ ∀ s t, s < 15 → t < 15 → 0 < F (106 + s) → 0 < F (106 + t) → tp_fv F s = tp_fv F t → s = t
theorem tp_fv_lt {F : Nat → Nat} (h : tp_WN F) {s : Nat} (hs : s < 15) : tp_fv F s < 2 ^ 40 := by
  obtain ⟨h1, h2⟩ := h.1 s hs
  have h6 : tp_fv F s < 27 ^ (F (106 + s)) := tp_wv_lt (fun j g1 g2 => by
    have := h2 (j - (121 + 8 * s)) (by omega)
    rw [show 121 + 8 * s + (j - (121 + 8 * s)) = j by omega] at this
    exact this)
  have h7 : 27 ^ (F (106 + s)) ≤ 27 ^ 8 := Nat.pow_le_pow_right (by decide) h1
  have h8 : 27 ^ 8 < 2 ^ 40 := by decide
  omega
def tp_NM (I : Nat → Int32) (A : Nat → Nat → Int32) (J : Nat → Nat → Int64) (F : Nat → Nat) (k : Nat) : Prop := I 2606 = nI k ∧ k ≤ 15 ∧ ∃ ns : Nat → Nat, (∀ i, i < k → ns i < 15 ∧ 0 < F (106 + ns i) ∧ J 27 i = lN (tp_fv F (ns i)) ∧ A 28 i = nI (tp_so (ns i)) ∧ A 29 i = nI (tp_no (ns i))) ∧ ∀ s, s < 15 → 0 < F (106 + s) → ∃ i, i < k ∧ ns i = s
theorem tp_NM_of {I I1 : Nat → Int32} {A A1 : Nat → Nat → Int32} {J : Nat → Nat → Int64} {F F1 : Nat → Nat} {k : Nat} (h : tp_NM I A J F k) (h1 : I1 2606 = I 2606) (h2 : A1 28 = A 28) (h3 : A1 29 = A 29) (h4 : ∀ j, 106 ≤ j → F1 j = F j) : tp_NM I1 A1 J F1 k := by
  obtain ⟨a, b, ns, c, d⟩ := h
  have hf : ∀ s, tp_fv F1 s = tp_fv F s := fun s => by
    unfold tp_fv
    rw [h4 _ (by omega)]
    exact tp_wv_cong fun j _ => h4 _ (by omega)
  refine ⟨h1.trans a, b, ns, fun i hi => ?_, fun s hs h => d s hs (by rw [← h4 _ (by omega)]; exact h)⟩
  obtain ⟨c1, c2, c3, c4, c5⟩ := c i hi
  exact ⟨c1, by rw [h4 _ (by omega)]; exact c2, by rw [hf]; exact c3, by rw [h2]; exact c4, by rw [h3]; exact c5⟩
theorem tp_ldJ {N i : Nat} {f : Nat → Int64} (h : i < N) (hN : N < 2 ^ 31) : tw_ldJ N f (nI i) = some (f i) := by
  unfold tw_ldJ
  rw [if_neg (nI_in h hN), nI_clamp (by omega)]
theorem tp_stJ {N i : Nat} {f : Nat → Int64} {v : Int64} (h : i < N) (hN : N < 2 ^ 31) : tw_stJ N f (nI i) v = some (vp_updL f i v) := by
  unfold tw_stJ
  rw [if_neg (nI_in h hN), nI_clamp (by omega)]
theorem tp_nidx9 {c : Nat → Nat} {n : Nat} {I : Nat → Int32} {L : Nat → Int64} {A : Nat → Nat → Int32} {J : Nat → Nat → Int64} {F : Nat → Nat} {e k : Nat} (h : tp_T9 c n I L A e) (h1 : tp_kd c n e = 1) (hN : tp_NM I A J F k) (hW : tp_WN F) : ∃ x, g_X4_nameIndex I L J = some x ∧ ((tp_fd c n e F = 15 ∧ x = (-1 : Int32)) ∨ (tp_fd c n e F < 15 ∧ ∃ i, i < k ∧ x = nI i ∧ A 28 i = nI (tp_so (tp_fd c n e F)) ∧ A 29 i = nI (tp_no (tp_fd c n e F)))) := by
  obtain ⟨a, hk, ns, hc, hd⟩ := hN
  have hv := h.2.2.2.2.2.2.1 h1
  have hvl := tp_v_lt h1
  have key : ∀ d i m, k - i = d → d < m → i ≤ k → (∀ j, j < i → tp_fv F (ns j) ≠ tp_v c n e) → ∃ x, g_X4_nameIndex_L1 I L J (fun _ => some (-1 : Int32)) m (nI i) = some x ∧ ((tp_fd c n e F = 15 ∧ x = (-1 : Int32)) ∨ (tp_fd c n e F < 15 ∧ ∃ i, i < k ∧ x = nI i ∧ A 28 i = nI (tp_so (tp_fd c n e F)) ∧ A 29 i = nI (tp_no (tp_fd c n e F)))) := by
    intro d
    induction d with
    | zero =>
      intro i m hd0 hm hi hno
      obtain ⟨m, rfl⟩ : ∃ q, m = q + 1 := ⟨m - 1, by omega⟩
      rw [g_X4_nameIndex_L1, a, if_pos (nI_le (by omega) (by omega))]
      refine ⟨_, rfl, Or.inl ⟨?_, rfl⟩⟩
      have hle := tp_fd_le c n e F
      by_cases g : tp_fd c n e F = 15
      · exact g
      · obtain ⟨q1, q2⟩ := tp_fd_mt (c := c) (n := n) (e := e) (F := F) (by omega)
        obtain ⟨j, j1, j2⟩ := hd _ (by omega) q1
        exact absurd (by rw [j2]; exact q2) (hno j (by omega))
    | succ d ih =>
      intro i m hd0 hm hi hno
      obtain ⟨m, rfl⟩ : ∃ q, m = q + 1 := ⟨m - 1, by omega⟩
      obtain ⟨c1, c2, c3, c4, c5⟩ := hc i (by omega)
      have hl := tp_fv_lt hW c1
      rw [g_X4_nameIndex_L1, a, if_neg (nI_ge (by omega) (by omega)), if_neg (show ¬ (15 : Int32) ≤ nI i from nI_ge (b := 15) (by omega) (by decide)), tp_ldJ (by omega) (by decide), Option.bind_some, c3, hv]
      by_cases g : tp_fv F (ns i) = tp_v c n e
      · rw [if_pos (by rw [lg_cmp_eq, g])]
        have hfd : tp_fd c n e F < 15 := by
          have hle := tp_fd_le c n e F
          by_cases q : tp_fd c n e F = 15
          · exact absurd ⟨c2, g⟩ (tp_fd_no (c := c) (n := n) (e := e) (F := F) (s := ns i) (by omega))
          · omega
        obtain ⟨q1, q2⟩ := tp_fd_mt hfd
        have hs : ns i = tp_fd c n e F := hW.2 _ _ c1 hfd c2 q1 (by rw [g, q2])
        exact ⟨_, rfl, Or.inr ⟨hfd, i, by omega, rfl, by rw [← hs]; exact c4, by rw [← hs]; exact c5⟩⟩
      · rw [if_neg (by rw [lg_cmp_eq, pk_lEQ (by omega) (by omega)]; exact g), ← nI_succ]
        exact ih (i + 1) m (by omega) (by omega) (by omega) (fun j hj => by
          by_cases q : j = i
          · rw [q]; exact g
          · exact hno j (by omega))
  exact key k 0 4096 rfl (by omega) (Nat.zero_le _) (fun j hj => absurd hj (Nat.not_lt_zero _))
/-- a name told ahead, of one sort -/
def tp_to (c : Nat → Nat) (n e : Nat) (F : Nat → Nat) (b m : Nat) : (Nat × Nat) ⊕ Nat := if tp_kd c n e = 1 ∧ tp_ls c n e = 9 then (if b ≤ tp_fd c n e F ∧ tp_fd c n e F < b + m then .inr (tp_fd c n e F - b) else .inl (2, tp_at c n e)) else .inl (1, tp_at c n e)
def tp_tr (a b m : Nat) : Prop := (a = 1 ∧ b = 0 ∧ m = 6) ∨ (a = 3 ∧ b = 6 ∧ m = 6) ∨ (a = 5 ∧ b = 12 ∧ m = 3)
theorem tp_sob {a b m s : Nat} (h : tp_tr a b m) (hs : s < 15) : (tp_so s = a ↔ b ≤ s ∧ s < b + m) ∧ (b ≤ s ∧ s < b + m → tp_no s = s - b) := by
  unfold tp_no tp_ba tp_so
  rcases h with ⟨rfl, rfl, rfl⟩ | ⟨rfl, rfl, rfl⟩ | ⟨rfl, rfl, rfl⟩ <;> (repeat' split) <;> refine ⟨⟨fun q => ?_, fun q => ?_⟩, fun q => ?_⟩ <;> omega
theorem tp_so5 (s : Nat) : tp_so s ≤ 5 := by
  unfold tp_so
  repeat' split
  all_goals omega
theorem tp_told9 {c : Nat → Nat} {n : Nat} {I : Nat → Int32} {L : Nat → Int64} {A : Nat → Nat → Int32} {J : Nat → Nat → Int64} {F : Nat → Nat} {e k kn a b m : Nat} (h : tp_T9 c n I L A e) (hN : tp_NM I A J F kn) (hW : tp_WN F) (hr : I 2609 = nI k) (hk8 : k < 8) (ht : tp_tr a b m) : ∃ b' I1 L1 A1, g_X4_told I L A J (nI a) = some (b', I1, L1, A1) ∧ tp_g9 I I1 ∧ match tp_to c n e F b m with
    | .inl x => b' = false ∧ A1 = A ∧ tp_F9 I1 x
    | .inr v => b' = true ∧ v < m ∧ 0 < F (106 + (b + v)) ∧ A1 = va_up A 31 (upd (A 31) k (nI v)) ∧ tp_T9 c n I1 L1 A1 (tp_st c n e) ∧ I1 2609 = nI (k + 1) ∧ I1 2610 = I 2610 ∧ I1 3202 = nI (tp_at c n e) := by
  have ha : a < 6 := by rcases ht with ⟨q, _⟩ | ⟨q, _⟩ | ⟨q, _⟩ <;> omega
  unfold g_X4_told tp_to
  by_cases g : tp_kd c n e = 1
  · rw [if_pos ((tp_T9_k1 h).mpr g), tp_lsort9 h, Option.bind_some]
    by_cases g1 : tp_ls c n e = 9
    · rw [if_pos ((tp_lsI9 (tp_ls9 c n e)).mpr g1), if_pos ⟨g, g1⟩]
      obtain ⟨x, e1, e2⟩ := tp_nidx9 h g hN hW
      rw [e1, Option.bind_some]
      rcases e2 with ⟨f1, rfl⟩ | ⟨f1, i, i1, rfl, i3, i4⟩
      · rw [if_pos rfl, if_neg (by rcases ht with q | q | q <;> omega)]
        obtain ⟨I1, a1, a2, a3⟩ := tp_fail9 h 2
        rw [show g_X4_fail I (2 : Int32) = _ from a1]
        exact ⟨false, I1, L, A, rfl, fun k _ _ k2 k3 => a3 k k2 k3, rfl, rfl, a2⟩
      · have hk := hN.2.1
        have hb := tp_sob ht f1
        have h5 := tp_so5 (tp_fd c n e F)
        rw [if_neg (tm_nm1 (by omega)), tm_get (by omega) (by decide), i3, tm_get (by omega) (by decide), i4]
        by_cases g2 : b ≤ tp_fd c n e F ∧ tp_fd c n e F < b + m
        · rw [if_pos g2, if_pos (by rw [hb.1.mpr g2]), hb.2 g2]
          obtain ⟨I1, L1, a1, a2, a3, a4, a5, a6⟩ := tp_note9 h (by omega) hr hk8 (nI (tp_fd c n e F - b))
          rw [a1, Option.bind_some]
          refine ⟨true, I1, L1, _, rfl, a6, rfl, by omega, ?_, rfl, a2, a3, a4, a5⟩
          rw [show b + (tp_fd c n e F - b) = tp_fd c n e F by omega]
          exact (tp_fd_mt f1).1
        · rw [if_neg g2, if_neg (fun q => g2 (hb.1.mp ((nI_eq (by omega) (by omega)).mp q)))]
          obtain ⟨I1, a1, a2, a3⟩ := tp_fail9 h 2
          rw [show g_X4_fail I (2 : Int32) = _ from a1]
          exact ⟨false, I1, L, A, rfl, fun k _ _ k2 k3 => a3 k k2 k3, rfl, rfl, a2⟩
    · rw [if_neg (fun q => g1 ((tp_lsI9 (tp_ls9 c n e)).mp q)), if_neg (fun q => g1 q.2)]
      obtain ⟨I1, a1, a2, a3⟩ := tp_fail9 h 1
      rw [show g_X4_fail I (1 : Int32) = _ from a1]
      exact ⟨false, I1, L, A, rfl, fun k _ _ k2 k3 => a3 k k2 k3, rfl, rfl, a2⟩
  · rw [if_neg (fun q => g ((tp_T9_k1 h).mp q)), if_neg (fun q => g q.1)]
    obtain ⟨I1, a1, a2, a3⟩ := tp_fail9 h 1
    rw [show g_X4_fail I (1 : Int32) = _ from a1]
    exact ⟨false, I1, L, A, rfl, fun k _ _ k2 k3 => a3 k k2 k3, rfl, rfl, a2⟩
/-- a new name, at its place -/
def tp_na (c : Nat → Nat) (n e : Nat) (F : Nat → Nat) : (Nat × Nat) ⊕ Unit := if tp_kd c n e = 1 ∧ tp_ls c n e = 9 then (if tp_fd c n e F = 15 then .inr () else .inl (3, tp_at c n e)) else .inl (1, tp_at c n e)
def tp_nf (c : Nat → Nat) (n e : Nat) (F : Nat → Nat) (s : Nat) : Nat → Nat := fun j => if j = 106 + s then tp_wE c n e - tp_at c n e else if 121 + 8 * s ≤ j ∧ j < 121 + 8 * s + (tp_wE c n e - tp_at c n e) then c (tp_at c n e + (j - (121 + 8 * s))) else F j
theorem tp_nf_lo {c : Nat → Nat} {n e : Nat} {F : Nat → Nat} {s j : Nat} (h : j < 106) : tp_nf c n e F s j = F j := by
  unfold tp_nf
  rw [if_neg (by omega), if_neg (by omega)]
theorem tp_nf_sz {c : Nat → Nat} {n e : Nat} {F : Nat → Nat} {s : Nat} : tp_nf c n e F s (106 + s) = tp_wE c n e - tp_at c n e := if_pos rfl
theorem tp_nf_so {c : Nat → Nat} {n e : Nat} {F : Nat → Nat} {s t : Nat} (ht : t < 15) (h : t ≠ s) : tp_nf c n e F s (106 + t) = F (106 + t) := by
  unfold tp_nf
  rw [if_neg (by omega), if_neg (by omega)]
theorem tp_nf_le {c : Nat → Nat} {n e : Nat} {F : Nat → Nat} {s j : Nat} (h : j < tp_wE c n e - tp_at c n e) (hs : s < 15) : tp_nf c n e F s (121 + 8 * s + j) = c (tp_at c n e + j) := by
  unfold tp_nf
  rw [if_neg (by omega), if_pos (by omega), show 121 + 8 * s + j - (121 + 8 * s) = j by omega]
theorem tp_nf_lo2 {c : Nat → Nat} {n e : Nat} {F : Nat → Nat} {s t j : Nat} (hs : s < 15) (h : t ≠ s) (hj : j < 8) (h8 : tp_wE c n e - tp_at c n e ≤ 8) : tp_nf c n e F s (121 + 8 * t + j) = F (121 + 8 * t + j) := by
  unfold tp_nf
  rw [if_neg (by omega), if_neg (by omega)]
theorem tp_nf_fv {c : Nat → Nat} {n e : Nat} {F : Nat → Nat} {s : Nat} (hs : s < 15) : tp_fv (tp_nf c n e F s) s = tp_v c n e := by
  unfold tp_fv tp_v
  rw [tp_nf_sz]
  exact tp_wv_cong fun j hj => tp_nf_le hj hs
theorem tp_nf_fo {c : Nat → Nat} {n e : Nat} {F : Nat → Nat} {s t : Nat} (hs : s < 15) (ht : t < 15) (h : t ≠ s) (hW : tp_WN F) (h8 : tp_wE c n e - tp_at c n e ≤ 8) : tp_fv (tp_nf c n e F s) t = tp_fv F t := by
  unfold tp_fv
  rw [tp_nf_so ht h]
  have := (hW.1 t ht).1
  exact tp_wv_cong fun j hj => tp_nf_lo2 hs h (by omega) h8
theorem tp_WN_nf {c : Nat → Nat} {n e : Nat} {F : Nat → Nat} {s : Nat} (hs : s < 15) (hW : tp_WN F) (h1 : tp_kd c n e = 1) (hf : tp_fd c n e F = 15) : tp_WN (tp_nf c n e F s) := by
  obtain ⟨k1, k2, k3, k4, k5⟩ := tp_kd1 h1
  have hne : ∀ t, t < 15 → 0 < F (106 + t) → tp_fv F t ≠ tp_v c n e := fun t ht h0 q => tp_fd_no (c := c) (n := n) (e := e) (F := F) (s := t) (by omega) ⟨h0, q⟩
  refine ⟨fun t ht => ?_, fun t u ht hu h3 h4 h5 => ?_⟩
  · by_cases g : t = s
    · subst g
      rw [tp_nf_sz]
      refine ⟨k3, fun j hj => ?_⟩
      rw [tp_nf_le hj hs]
      exact k5 _ (by omega) (by omega)
    · rw [tp_nf_so ht g]
      obtain ⟨q1, q2⟩ := hW.1 t ht
      refine ⟨q1, fun j hj => ?_⟩
      rw [tp_nf_lo2 hs g (by omega) k3]
      exact q2 j hj
  · by_cases g : t = s
    · by_cases g2 : u = s
      · rw [g, g2]
      · exfalso
        subst g
        rw [tp_nf_fv hs, tp_nf_fo hs hu g2 hW k3] at h5
        rw [tp_nf_so hu g2] at h4
        exact hne u hu h4 h5.symm
    · by_cases g2 : u = s
      · exfalso
        subst g2
        rw [tp_nf_fv hs, tp_nf_fo hs ht g hW k3] at h5
        rw [tp_nf_so ht g] at h3
        exact hne t ht h3 h5
      · rw [tp_nf_fo hs ht g hW k3, tp_nf_fo hs hu g2 hW k3] at h5
        rw [tp_nf_so ht g] at h3
        rw [tp_nf_so hu g2] at h4
        exact hW.2 t u ht hu h3 h4 h5
theorem tp_name9 {c : Nat → Nat} {n : Nat} {I : Nat → Int32} {L : Nat → Int64} {A : Nat → Nat → Int32} {J : Nat → Nat → Int64} {F : Nat → Nat} {e k s a m : Nat} (h : tp_T9 c n I L A e) (hN : tp_NM I A J F k) (hk : k < 15) (hW : tp_WN F) (hs : s < 15) (hf : F (106 + s) = 0) (h1 : tp_so s = a) (h2 : tp_no s = m) (hc : tw_get0 9 (A 15) (nI a) = nI m) : ∃ b I1 L1 A1 J1, g_X4_name I L A J (nI a) = some (b, I1, L1, A1, J1) ∧ (∀ k, (k < 3202 ∨ 3205 < k) → k ≠ 2606 → k ≠ 2610 → k ≠ 2611 → I1 k = I k) ∧ (∀ c, c ≠ 28 → c ≠ 29 → A1 c = A c) ∧ match tp_na c n e F with
    | .inl x => b = false ∧ tp_F9 I1 x
    | .inr _ => b = true ∧ tp_NM I1 A1 J1 (tp_nf c n e F s) (k + 1) ∧ tp_T9 c n I1 L1 A1 (tp_st c n e) ∧ I1 2610 = I 2610 := by
  unfold g_X4_name tp_na
  by_cases g : tp_kd c n e = 1
  · rw [if_pos ((tp_T9_k1 h).mpr g), tp_lsort9 h, Option.bind_some]
    by_cases g1 : tp_ls c n e = 9
    · rw [if_pos ((tp_lsI9 (tp_ls9 c n e)).mpr g1), if_pos (show tp_kd c n e = 1 ∧ tp_ls c n e = 9 from ⟨g, g1⟩)]
      obtain ⟨x, e1, e2⟩ := tp_nidx9 h g hN hW
      rw [e1, Option.bind_some]
      rcases e2 with ⟨f1, rfl⟩ | ⟨f1, i, i1, rfl, i3, i4⟩
      · rw [if_pos rfl, if_pos (show tp_fd c n e F = 15 from f1)]
        obtain ⟨k1, k2, k3, k4, k5⟩ := tp_kd1 g
        obtain ⟨n1, n2, ns, n3, n4⟩ := id hN
        rw [n1, if_neg (nI_pos (by omega)), if_neg (show ¬ (15 : Int32) ≤ nI k from nI_ge (b := 15) hk (by decide)), tp_stJ hk (by decide), Option.bind_some]
        dsimp only [tw_let]
        rw [tm_put hk (by decide), tm_put hk (by decide), Option.bind_some, ← nI_succ]
        dsimp only
        have hA : g_X8_count_14 (va_up A 28 (upd (A 28) k (nI a))) (nI a) = nI m := by
          unfold g_X8_count_14
          rw [tm_vn _ (by decide)]
          exact hc
        rw [hA]
        have h2' : tp_T9 c n (upd I 2606 (nI (k + 1))) L (va_up (va_up A 28 (upd (A 28) k (nI a))) 29 (upd (A 29) k (nI m))) e := tp_T9_A (tp_T9_I h (fun j j1 j2 => tm_un _ (by omega))) (by rw [tm_vn _ (by decide), tm_vn _ (by decide)])
        obtain ⟨I1, L1, a1, a2, a3, a4⟩ := tp_nxt9 h2' (by omega)
        rw [a1, Option.bind_some]
        refine ⟨true, I1, L1, _, _, rfl, fun j j1 j2 _ _ => by rw [a4 j j1, tm_un _ j2], fun d d1 d2 => by rw [tm_vn _ d2, tm_vn _ d1], rfl, ⟨?_, by omega, fun i => if i = k then s else ns i, fun i hi => ?_, fun t ht h0 => ?_⟩, a2, by rw [a4 _ (by decide), tm_un _ (by decide)]⟩
        · rw [a4 _ (by decide), tm_us]
        · dsimp only
          rw [tm_vs, tm_vs, tm_vn _ (show (28 : Nat) ≠ 29 by decide), tm_vs]
          by_cases gi : i = k
          · rw [if_pos gi, gi, tp_nf_sz, tp_nf_fv hs, h1, h2, tm_us, tm_us]
            refine ⟨hs, by omega, ?_, rfl, rfl⟩
            exact (if_pos rfl).trans (h.2.2.2.2.2.2.1 g)
          · obtain ⟨q1, q2, q3, q4, q5⟩ := n3 i (by omega)
            have hne : ns i ≠ s := fun q => by rw [q, hf] at q2; exact absurd q2 (Nat.lt_irrefl 0)
            rw [if_neg gi, tp_nf_so q1 hne, tp_nf_fo hs q1 hne hW k3, tm_un _ gi, tm_un _ gi]
            refine ⟨q1, q2, ?_, q4, q5⟩
            exact (if_neg gi).trans q3
        · by_cases gt : t = s
          · exact ⟨k, by omega, (if_pos rfl).trans gt.symm⟩
          · rw [tp_nf_so ht gt] at h0
            obtain ⟨i, i1, i2⟩ := n4 t ht h0
            exact ⟨i, by omega, (if_neg (by omega)).trans i2⟩
      · rw [if_neg (tm_nm1 (by have := hN.2.1; omega)), if_neg (show ¬ tp_fd c n e F = 15 by omega)]
        obtain ⟨I1, a1, a2, a3⟩ := tp_fail9 h 3
        rw [show g_X4_fail I (3 : Int32) = _ from a1]
        exact ⟨false, I1, L, A, J, rfl, fun k _ _ k2 k3 => a3 k k2 k3, fun _ _ _ => rfl, rfl, a2⟩
    · rw [if_neg (fun q => g1 ((tp_lsI9 (tp_ls9 c n e)).mp q)), if_neg (fun q => g1 q.2)]
      obtain ⟨I1, a1, a2, a3⟩ := tp_fail9 h 1
      rw [show g_X4_fail I (1 : Int32) = _ from a1]
      exact ⟨false, I1, L, A, J, rfl, fun k _ _ k2 k3 => a3 k k2 k3, fun _ _ _ => rfl, rfl, a2⟩
  · rw [if_neg (fun q => g ((tp_T9_k1 h).mp q)), if_neg (fun q => g q.1)]
    obtain ⟨I1, a1, a2, a3⟩ := tp_fail9 h 1
    rw [show g_X4_fail I (1 : Int32) = _ from a1]
    exact ⟨false, I1, L, A, J, rfl, fun k _ _ k2 k3 => a3 k k2 k3, fun _ _ _ => rfl, rfl, a2⟩
