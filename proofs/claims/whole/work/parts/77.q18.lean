/-! MATHEMATICS, 28: the sets that fit: the reference -/
def tm_lor (l : List Nat) : Nat := l.foldl (fun a b => a ||| b) 0
def tm_lan (a : Nat) (l : List Nat) : Nat := l.foldl (fun a b => a &&& b) a
def tm_cb (k : Nat) (l : List Nat) : Nat := l.foldl (fun a b => a + (b.testBit k).toNat) 0
theorem tm_lor_s (l : List Nat) (v : Nat) : tm_lor (l ++ [v]) = tm_lor l ||| v := by
  unfold tm_lor
  rw [List.foldl_append]
  rfl
theorem tm_lan_s (a : Nat) (l : List Nat) (v : Nat) : tm_lan a (l ++ [v]) = tm_lan a l &&& v := by
  unfold tm_lan
  rw [List.foldl_append]
  rfl
theorem tm_cb_s (k : Nat) (l : List Nat) (v : Nat) : tm_cb k (l ++ [v]) = tm_cb k l + (v.testBit k).toNat := by
  unfold tm_cb
  rw [List.foldl_append]
  rfl
theorem tm_fl_cb (T : Nat → Nat) (k : Nat) : ∀ n, tm_cb k (tm_fl T n) ≤ (tm_fl T n).length
  | 0 => Nat.le_refl _
  | n + 1 => by
    have h := tm_fl_cb T k n
    rw [tm_fl]
    split
    · rw [tm_cb_s, List.length_append, List.length_singleton]
      have := tm_tb (n.testBit k)
      omega
    · exact h
def tm_XA (l : List Nat) (a x : Int32) : Prop := (∀ j v, l[j]? = some v → a = nI j → x = nI v) ∧ ((∀ j, j < l.length → a ≠ nI j) → x = -1)
def tm_FM (I : Nat → Int32) (A : Nat → Nat → Int32) (T : Nat → Nat) (e : Nat) (l : List Nat) : Prop := I 4433 = nI l.length ∧ I 4434 = nI (tm_lor l) ∧ I 4435 = nI e ∧ ∀ k, k < T 7 → A 55 k = nI (tm_cb k l)
theorem tm_sz10 (A : Nat → Nat → Int32) : ∃ A1, g_X10_seekSets_L1 4096 (0 : Int32) A = some A1 ∧ (∀ j, j < 4 → A1 55 j = 0) ∧ ∀ c, c ≠ 55 → A1 c = A c := by
  refine tm_lr (fun n i (s : Nat → Nat → Int32) => g_X10_seekSets_L1 n i s) 4 0 (Nat.zero_le _) (fun i s => (∀ j, j < i → s 55 j = 0) ∧ ∀ c, c ≠ 55 → s c = A c) _ ?_ ?_ (s := A) ⟨fun p hp => absurd hp (Nat.not_lt_zero p), fun _ _ => rfl⟩ (m := 4096) (by omega)
  · rintro n s ⟨a, b⟩
    refine ⟨s, ?_, a, b⟩
    show g_X10_seekSets_L1 (n + 1) (nI 4) s = _
    rw [g_X10_seekSets_L1, if_pos (by decide)]
  · rintro n i s _ hi _ ⟨a, b⟩
    refine Or.inr ⟨va_up s 55 (upd (s 55) i 0), ⟨fun p hp => ?_, fun d hd => (tm_vn _ hd).trans (b d hd)⟩, ?_⟩
    · rw [tm_vs]
      by_cases g : p = i
      · rw [g, tm_us]
      · rw [tm_un _ g]
        exact a p (by omega)
    · rw [g_X10_seekSets_L1, if_neg (tm_ge4 hi), tm_st (by omega) (by decide), Option.bind_some, ← nI_succ]
theorem tm_sc10 {A : Nat → Nat → Int32} {T : Nat → Nat} (hW : tm_W T) (hR : tm_R A T) {f : Nat → Nat} (hf : ∀ k, k < T 7 → A 55 k = nI (f k)) {set : Nat} (hs : set < 2 ^ T 7) : ∃ A1, g_X10_seekSets_L3 (nI set) 4096 (0 : Int32) A = some A1 ∧ (∀ k, k < T 7 → A1 55 k = nI (f k + (set.testBit k).toNat)) ∧ ∀ c, c ≠ 55 → A1 c = A c := by
  have h7 := tm_W_b7 hW
  have h24 : (2 : Nat) ^ T 7 ≤ 16 := Nat.pow_le_pow_right (n := 2) (by decide) h7
  refine tm_lr (fun n i (s : Nat → Nat → Int32) => g_X10_seekSets_L3 (nI set) n i s) (T 7) 0 (Nat.zero_le _) (fun i s => (∀ k, k < i → s 55 k = nI (f k + (set.testBit k).toNat)) ∧ (∀ k, i ≤ k → s 55 k = A 55 k) ∧ ∀ c, c ≠ 55 → s c = A c) _ ?_ ?_ (s := A) ⟨fun p hp => absurd hp (Nat.not_lt_zero p), fun _ _ => rfl, fun _ _ => rfl⟩ (m := 4096) (by omega)
  · rintro n s ⟨a, b, c⟩
    refine ⟨s, ?_, a, c⟩
    show g_X10_seekSets_L3 (nI set) (n + 1) (nI (T 7)) s = _
    rw [g_X10_seekSets_L3, tm_r_c7 (tm_R_of hR (c 47 (by decide))), Option.bind_some, if_pos (nI_le (Nat.le_refl _) (by omega))]
  · rintro n i s _ hi _ ⟨a, b, c⟩
    refine Or.inr ⟨va_up s 55 (upd (s 55) i (nI (f i + (set.testBit i).toNat))), ⟨fun p hp => ?_, fun p hp => ?_, fun d hd => (tm_vn _ hd).trans (c d hd)⟩, ?_⟩
    · rw [tm_vs]
      by_cases g : p = i
      · rw [g, tm_us]
      · rw [tm_un _ g]
        exact a p (by omega)
    · rw [tm_vs, tm_un _ (by omega)]
      exact b p (by omega)
    · rw [g_X10_seekSets_L3, tm_r_c7 (tm_R_of hR (c 47 (by decide))), Option.bind_some, if_neg (nI_ge hi (by omega)), tm_ld (by omega) (by decide), Option.bind_some, b i (Nat.le_refl _), hf i hi, tm_bit (by omega) (by omega), nI_add, tm_st (by omega) (by decide), Option.bind_some, ← nI_succ]
theorem tm_ss10 {I : Nat → Int32} {A : Nat → Nat → Int32} {T s : Nat → Nat} (hW : tm_W T) (hR : tm_R A T) {x y z : Int32} (hrow : tm_row T x y z (A 49) s) (a1 : Int32) : ∃ w I1 A1, g_X10_seekSets I A a1 = some (w, I1, A1) ∧ tm_XA (tm_fl T (2 ^ T 7)) a1 w ∧ tm_FM I1 A1 T (if (tm_fl T (2 ^ T 7)).length = 0 then 0 else tm_lan (2 ^ T 7 - 1) (tm_fl T (2 ^ T 7))) (tm_fl T (2 ^ T 7)) ∧ tm_R A1 T ∧ (∀ k, k < 4425 → I1 k = I k) ∧ ∀ c, c < 52 → A1 c = A c := by
  have h5 := tm_W_b5 hW
  have h7 := tm_W_b7 hW
  have h24 : (2 : Nat) ^ T 7 ≤ 16 := Nat.pow_le_pow_right (n := 2) (by decide) h7
  have h20 : 0 < (2 : Nat) ^ T 7 := Nat.two_pow_pos _
  obtain ⟨A0, e0, m0, f0⟩ := tm_sz10 A
  have L : ∃ r, g_X10_seekSets_L2 a1 4096 (-1 : Int32) (nI 0) (upd (upd (upd I 4433 0) 4434 0) 4435 (((1 : Int32) <<< (nI (T 7) &&& 31)) - 1)) A0 = some r ∧ (tm_XA (tm_fl T (2 ^ T 7)) a1 r.1 ∧ tm_FM r.2.1 r.2.2 T (tm_lan (2 ^ T 7 - 1) (tm_fl T (2 ^ T 7))) (tm_fl T (2 ^ T 7)) ∧ (∀ k, k < 4425 → r.2.1 k = I k) ∧ ∀ c, c < 52 → r.2.2 c = A c) := by
    refine tm_lr (fun n i (v : Int32 × (Nat → Int32) × (Nat → Nat → Int32)) => g_X10_seekSets_L2 a1 n v.1 i v.2.1 v.2.2) (2 ^ T 7) 0 (Nat.zero_le _) (fun i r => tm_XA (tm_fl T i) a1 r.1 ∧ tm_FM r.2.1 r.2.2 T (tm_lan (2 ^ T 7 - 1) (tm_fl T i)) (tm_fl T i) ∧ (∀ k, k < 4425 → r.2.1 k = I k) ∧ ∀ c, c < 52 → r.2.2 c = A c) _ ?_ ?_ (s := ((-1 : Int32), upd (upd (upd I 4433 0) 4434 0) 4435 (((1 : Int32) <<< (nI (T 7) &&& 31)) - 1), A0)) ⟨⟨fun j v q => (by rw [tm_fl] at q; cases q), fun _ => rfl⟩, ⟨?_, ?_, ?_, fun k hk => ?_⟩, fun k hk => ?_, fun c hc => f0 c (by omega)⟩ (m := 4096) (by omega)
    · rintro n ⟨v, I1, A1⟩ ⟨a, b, c, d⟩
      dsimp only at a b c d
      refine ⟨(v, I1, A1), ?_, a, b, c, d⟩
      show g_X10_seekSets_L2 a1 (n + 1) v (nI (2 ^ T 7)) I1 A1 = _
      rw [g_X10_seekSets_L2, tm_r_c7 (tm_R_of hR (d 47 (by decide))), Option.bind_some, tm_shl1 (by omega), if_pos (nI_le (Nat.le_refl _) (by omega))]
    · rintro n i ⟨v, I1, A1⟩ _ hi _ ⟨a, b, c, d⟩
      dsimp only at a b c d
      have hR1 := tm_R_of hR (d 47 (by decide))
      have hrow1 : tm_row T x y z (A1 49) s := by rw [d 49 (by decide)]; exact hrow
      have hl := tm_fl_len T i
      obtain ⟨I2, A2, e2, f2, g2⟩ := tm_wy10 (I := I1) hW hR1 hrow1 hi
      have hR2 := tm_R_of hR1 (g2 47 (by decide) (by decide) (by decide))
      by_cases q : tm_fi T i = true
      · obtain ⟨A3, e3, m3, f3⟩ := tm_sc10 (f := fun k => tm_cb k (tm_fl T i)) hW hR2 (fun k hk => by rw [g2 55 (by decide) (by decide) (by decide)]; exact b.2.2.2 k hk) hi
        refine Or.inr ⟨(if nI (tm_fl T i).length = a1 then nI i else v, upd (upd (upd I2 4433 (nI ((tm_fl T i).length + 1))) 4434 (nI (tm_lor (tm_fl T i) ||| i))) 4435 (nI (tm_lan (2 ^ T 7 - 1) (tm_fl T i) &&& i)), A3), ⟨?_, ?_, fun k hk => ?_, fun c hc => ?_⟩, ?_⟩
        · rw [tm_fl, if_pos q]
          dsimp only
          refine ⟨fun j w hj ha => ?_, fun hn => ?_⟩
          · by_cases z : j = (tm_fl T i).length
            · rw [z, List.getElem?_concat_length] at hj
              cases hj
              rw [if_pos (by rw [ha, z])]
            · have hjl : j < (tm_fl T i).length := by
                have := (List.getElem?_eq_some_iff.mp hj).1
                rw [List.length_append, List.length_singleton] at this
                omega
              rw [List.getElem?_append_left hjl] at hj
              rw [if_neg (fun r => z ((nI_eq (by omega) (by omega)).mp (ha.symm.trans r.symm)))]
              exact a.1 j w hj ha
          · rw [List.length_append, List.length_singleton] at hn
            rw [if_neg (fun r => hn _ (Nat.lt_succ_self _) r.symm)]
            exact a.2 fun j hj => hn j (by omega)
        · rw [tm_fl, if_pos q]
          refine ⟨?_, ?_, ?_, fun k hk => ?_⟩
          · rw [List.length_append, List.length_singleton]
            dsimp only
            rw [tm_un _ (by decide), tm_un _ (by decide), tm_us]
          · rw [tm_lor_s]
            dsimp only
            rw [tm_un _ (by decide), tm_us]
          · rw [tm_lan_s]
            dsimp only
            rw [tm_us]
          · rw [tm_cb_s]
            exact m3 k hk
        · dsimp only
          rw [tm_un _ (by omega), tm_un _ (by omega), tm_un _ (by omega), f2 k (by omega)]
          exact c k hk
        · dsimp only
          rw [f3 c (by omega), g2 c (by omega) (by omega) (by omega)]
          exact d c hc
        · show g_X10_seekSets_L2 a1 (n + 1) v (nI i) I1 A1 = g_X10_seekSets_L2 a1 n _ (nI (i + 1)) _ _
          rw [g_X10_seekSets_L2, tm_r_c7 hR1, Option.bind_some, tm_shl1 (by omega), if_neg (nI_ge hi (by omega)), e2, Option.bind_some]
          dsimp only
          rw [if_pos ((tm_fi_iff T i h5).mpr q), tm_ifs, Option.bind_some, e3, Option.bind_some, Option.bind_some, f2 4433 (by decide), f2 4434 (by decide), f2 4435 (by decide), b.1, b.2.1, b.2.2.1, ← nI_succ, ← nI_succ, tm_or, tm_and]
      · refine Or.inr ⟨(v, I2, A2), ⟨?_, ?_, fun k hk => (f2 k (by omega)).trans (c k hk), fun c hc => (g2 c (by omega) (by omega) (by omega)).trans (d c hc)⟩, ?_⟩
        · rw [tm_fl, if_neg q]
          exact a
        · rw [tm_fl, if_neg q]
          exact ⟨(f2 4433 (by decide)).trans b.1, (f2 4434 (by decide)).trans b.2.1, (f2 4435 (by decide)).trans b.2.2.1, fun k hk => by dsimp only; rw [g2 55 (by decide) (by decide) (by decide)]; exact b.2.2.2 k hk⟩
        · show g_X10_seekSets_L2 a1 (n + 1) v (nI i) I1 A1 = g_X10_seekSets_L2 a1 n _ (nI (i + 1)) _ _
          rw [g_X10_seekSets_L2, tm_r_c7 hR1, Option.bind_some, tm_shl1 (by omega), if_neg (nI_ge hi (by omega)), e2, Option.bind_some]
          dsimp only
          rw [if_neg (fun z => q ((tm_fi_iff T i h5).mp z)), Option.bind_some, ← nI_succ]
    · dsimp only
      rw [tm_un _ (by decide), tm_un _ (by decide), tm_us]
      rfl
    · dsimp only
      rw [tm_un _ (by decide), tm_us]
      rfl
    · dsimp only
      rw [tm_us, tm_shl1 (by omega)]
      exact pk_sub (a := 2 ^ T 7) (b := 1) h20
    · exact m0 k (by omega)
    · dsimp only
      rw [tm_un _ (by omega), tm_un _ (by omega), tm_un _ (by omega)]
  obtain ⟨⟨w, I1, A1⟩, e, a, b, c, d⟩ := L
  dsimp only at a b c d
  have hl := tm_fl_len T (2 ^ T 7)
  have S0 : g_X10_seekSets I A a1 = (if I1 4433 = 0 then (some (w, (upd I1 4435 (0 : Int32)), A1)) else (some (w, I1, A1))) := by
    unfold g_X10_seekSets
    rw [tm_r_c7 hR, Option.bind_some, e0, Option.bind_some, show g_X10_seekSets_L2 a1 4096 (-1 : Int32) (0 : Int32) (upd (upd (upd I 4433 0) 4434 0) 4435 (((1 : Int32) <<< (nI (T 7) &&& 31)) - 1)) A0 = _ from e, Option.bind_some]
  by_cases g : (tm_fl T (2 ^ T 7)).length = 0
  · refine ⟨w, upd I1 4435 0, A1, ?_, a, ?_, tm_R_of hR (d 47 (by decide)), fun k hk => by rw [tm_un _ (by omega)]; exact c k hk, d⟩
    · rw [S0, b.1, if_pos ((tm_z (by omega)).mpr g)]
    · rw [if_pos g]
      exact ⟨(tm_un _ (by decide)).trans b.1, (tm_un _ (by decide)).trans b.2.1, tm_us _ _ _, b.2.2.2⟩
  · refine ⟨w, I1, A1, ?_, a, ?_, tm_R_of hR (d 47 (by decide)), c, d⟩
    · rw [S0, b.1, if_neg (fun q => g ((tm_z (by omega)).mp q))]
    · rw [if_neg g]
      exact b
