/-! MATHEMATICS, 29: fits, could, surely, ask, askLeaves, fitAt -/
theorem tm_doneR {I Ia I2 : Nat → Int32} {A A1 A2 : Nat → Nat → Int32} (h : tm_Inv I A) (f : tm_f9 I A Ia A1) (hs : tm_Sd Ia) {w : Int32} (hw : w ≠ 4) (f3 : ∀ k, k < 4425 → I2 k = upd (upd (upd (upd Ia 12 w) 4400 0) 4411 0) 4411 w k) (f4 : ∀ c, c < 52 → A2 c = A1 c) : tm_Inv I2 A2 := by
  refine tm_keep h (fun k hk => ?_) (fun c hc => ?_) ?_ ?_ ?_
  · rw [f3 k (by omega), tm_un _ (by omega), tm_un _ (by omega), tm_un _ (by omega), tm_un _ (by omega), f.1 k (by omega)]
  · rw [f4 c (by omega), f.2 c (by omega)]
  · rw [f3 12 (by decide), f3 4411 (by decide), tm_us, tm_un _ (by decide), tm_un _ (by decide), tm_un _ (by decide), tm_us]
  · rw [f3 12 (by decide), tm_un _ (by decide), tm_un _ (by decide), tm_un _ (by decide), tm_us]
    exact hw
  · obtain ⟨z, h1, h2⟩ := hs
    refine ⟨z, h1, ?_⟩
    rw [f3 3907 (by decide), tm_un _ (by decide), tm_un _ (by decide), tm_un _ (by decide), tm_un _ (by decide)]
    exact h2
theorem tm_tke (l : List Nat) (i : Nat) (h : i < l.length) : l.take (i + 1) = l.take i ++ [l[i]] := by
  rw [List.take_succ, List.getElem?_eq_getElem h]
  rfl
theorem tm_tka (l : List Nat) : l.take l.length = l := List.take_of_length_le (Nat.le_refl _)
theorem tm_43 {I : Nat → Int32} {A : Nat → Nat → Int32} {l : List Nat} (hF : tm_Fr I A l) (hl : l.length ≤ 16) (i : Nat) (h : i < l.length) : tw_get0 16 (A 43) (nI i) = nI l[i] := by
  rw [tm_get (by omega) (by decide)]
  exact hF.2 i _ (List.getElem?_eq_getElem h)
theorem tm_is9 {I : Nat → Int32} {A : Nat → Nat → Int32} {l : List Nat} (hF : tm_Fr I A l) (hl : l.length ≤ 16) : g_X2_inSome I A = some (nI (tm_lor l)) := by
  unfold g_X2_inSome
  rw [show g_X2_inSome_L1 I A 4096 (0 : Int32) (0 : Int32) = some (nI (tm_lor l)) from ?_, Option.bind_some]
  refine tm_lp (fun n i (v : Int32) => g_X2_inSome_L1 I A n v i) l.length 0 (fun i => nI (tm_lor (l.take i))) _ (Nat.zero_le _) ?_ ?_ (m := 4096) (by omega)
  · intro n
    show g_X2_inSome_L1 I A (n + 1) (nI (tm_lor (l.take l.length))) (nI l.length) = _
    rw [g_X2_inSome_L1, hF.1, if_pos (nI_le (Nat.le_refl _) (by omega)), tm_tka]
  · intro n i _ hi
    show g_X2_inSome_L1 I A (n + 1) (nI (tm_lor (l.take i))) (nI i) = g_X2_inSome_L1 I A n (nI (tm_lor (l.take (i + 1)))) (nI (i + 1))
    rw [g_X2_inSome_L1, hF.1, if_neg (nI_ge hi (by omega)), tm_43 hF hl i hi, tm_or, tm_tke l i hi, tm_lor_s, nI_succ]
theorem tm_lanB (l : List Nat) (i : Nat) : ∀ a, (tm_lan a l).testBit i = (a.testBit i && l.all fun v => v.testBit i) := by
  induction l with
  | nil => intro a; rw [List.all_nil, Bool.and_true]; rfl
  | cons x t ih =>
    intro a
    show (tm_lan (a &&& x) t).testBit i = _
    rw [ih, Nat.testBit_and, List.all_cons, Bool.and_assoc]
theorem tm_lan_eq {l : List Nat} {n m : Nat} (hnm : n ≤ m) (h0 : l.length ≠ 0) (h : ∀ x, x ∈ l → x < 2 ^ n) : tm_lan (2 ^ m - 1) l = tm_lan (2 ^ n - 1) l := by
  apply Nat.eq_of_testBit_eq
  intro i
  rw [tm_lanB, tm_lanB, Nat.testBit_two_pow_sub_one, Nat.testBit_two_pow_sub_one]
  by_cases g : i < n
  · rw [decide_eq_true g, decide_eq_true (Nat.lt_of_lt_of_le g hnm)]
  · have e : (l.all fun v => v.testBit i) = false := by
      cases l with
      | nil => exact absurd rfl h0
      | cons x t =>
        rw [List.all_cons, tm_hi (h x (List.mem_cons_self ..)) (by omega)]
        rfl
    rw [e, Bool.and_false, Bool.and_false]
theorem tm_ia9 {I : Nat → Int32} {A : Nat → Nat → Int32} {l : List Nat} (hF : tm_Fr I A l) (hl : l.length ≤ 16) {n : Nat} (hn : n ≤ 4) (hm : ∀ x, x ∈ l → x < 2 ^ n) : g_X2_inAll I A = some (nI (if l.length = 0 then 0 else tm_lan (2 ^ n - 1) l)) := by
  have L : ∀ a, g_X2_inAll_L1 I A 4096 (nI a) (0 : Int32) = some (nI (tm_lan a l)) := by
    intro a
    refine tm_lp (fun n i (v : Int32) => g_X2_inAll_L1 I A n v i) l.length 0 (fun i => nI (tm_lan a (l.take i))) _ (Nat.zero_le _) ?_ ?_ (m := 4096) (by omega)
    · intro n
      show g_X2_inAll_L1 I A (n + 1) (nI (tm_lan a (l.take l.length))) (nI l.length) = _
      rw [g_X2_inAll_L1, hF.1, if_pos (nI_le (Nat.le_refl _) (by omega)), tm_tka]
    · intro n i _ hi
      show g_X2_inAll_L1 I A (n + 1) (nI (tm_lan a (l.take i))) (nI i) = g_X2_inAll_L1 I A n (nI (tm_lan a (l.take (i + 1)))) (nI (i + 1))
      rw [g_X2_inAll_L1, hF.1, if_neg (nI_ge hi (by omega)), tm_43 hF hl i hi, tm_and, tm_tke l i hi, tm_lan_s, nI_succ]
  unfold g_X2_inAll
  rw [hF.1]
  by_cases g : l.length = 0
  · rw [if_pos (show nI l.length ≤ (0 : Int32) from nI_le (b := 0) (by omega) (by decide)), Option.bind_some, show (0 : Int32) = nI 0 from rfl, show g_X2_inAll_L1 I A 4096 (nI 0) (nI 0) = _ from L 0, Option.bind_some, if_pos g]
    have e : l = [] := List.eq_nil_of_length_eq_zero g
    rw [e]
    rfl
  · rw [if_neg (show ¬ nI l.length ≤ (0 : Int32) from nI_ge (b := l.length) (a := 0) (by omega) (by omega)), Option.bind_some, show (15 : Int32) = nI (2 ^ 4 - 1) from rfl, L, Option.bind_some, if_neg g, tm_lan_eq hn g hm]
/-- how many are left at most -/
def tm_lv (l : List Nat) (k : Nat) : Nat := if tm_cb k l < l.length - tm_cb k l then l.length - tm_cb k l else tm_cb k l
theorem tm_cb_le (k : Nat) : ∀ (l : List Nat) (a : Nat), l.foldl (fun a b => a + (b.testBit k).toNat) a ≤ a + l.length
  | [], _ => Nat.le_refl _
  | x :: t, a => by
    have h := tm_cb_le k t (a + (x.testBit k).toNat)
    have := tm_tb (x.testBit k)
    rw [List.foldl_cons, List.length_cons]
    omega
theorem tm_cbl (k : Nat) (l : List Nat) : tm_cb k l ≤ l.length := by
  have := tm_cb_le k l 0
  unfold tm_cb
  omega
theorem tm_lv_le (l : List Nat) (k : Nat) : tm_lv l k ≤ l.length := by
  have := tm_cbl k l
  unfold tm_lv
  split <;> omega
theorem tm_lef9 {I : Nat → Int32} {A : Nat → Nat → Int32} {l : List Nat} (hF : tm_Fr I A l) (hl : l.length ≤ 16) (hm : ∀ x, x ∈ l → x < 16) {k : Nat} (hk : k < 4) : g_X2_leftBy I A (nI k) = some (nI (tm_lv l k)) := by
  have hc := tm_cbl k l
  unfold g_X2_leftBy
  rw [show g_X2_leftBy_L1 I A (nI k) 4096 (0 : Int32) (0 : Int32) = some (nI (tm_cb k l)) from ?_, Option.bind_some, hF.1, pk_sub hc]
  · unfold tw_max tm_lv
    by_cases g : tm_cb k l < l.length - tm_cb k l
    · rw [if_pos g, if_pos (nI_lt g (by omega))]
    · rw [if_neg g, if_neg (nI_nlt (by omega) (by omega))]
  · refine tm_lp (fun n i (v : Int32) => g_X2_leftBy_L1 I A (nI k) n v i) l.length 0 (fun i => nI (tm_cb k (l.take i))) _ (Nat.zero_le _) ?_ ?_ (m := 4096) (by omega)
    · intro n
      show g_X2_leftBy_L1 I A (nI k) (n + 1) (nI (tm_cb k (l.take l.length))) (nI l.length) = _
      rw [g_X2_leftBy_L1, hF.1, if_pos (nI_le (Nat.le_refl _) (by omega)), tm_tka]
    · intro n i _ hi
      have hx := hm l[i] (List.getElem_mem hi)
      show g_X2_leftBy_L1 I A (nI k) (n + 1) (nI (tm_cb k (l.take i))) (nI i) = g_X2_leftBy_L1 I A (nI k) n (nI (tm_cb k (l.take (i + 1)))) (nI (i + 1))
      rw [g_X2_leftBy_L1, hF.1, if_neg (nI_ge hi (by omega)), tm_43 hF hl i hi, tm_bit (by omega) (by omega), nI_add, tm_tke l i hi, tm_cb_s, nI_succ]
theorem tm_lv10 {I : Nat → Int32} {A : Nat → Nat → Int32} {T : Nat → Nat} {e : Nat} {l : List Nat} (hW : tm_W T) (hF : tm_FM I A T e l) (hl : l.length ≤ 16) {k : Nat} (hk : k < T 7) : g_X10_leavesOf I A (nI k) = some (nI (tm_lv l k)) := by
  have h7 := tm_W_b7 hW
  have hc := tm_cbl k l
  unfold g_X10_leavesOf
  rw [tm_ld (by omega) (by decide), Option.bind_some, Option.bind_some, Option.bind_some, Option.bind_some, hF.1, hF.2.2.2 k hk, pk_sub hc]
  unfold tm_lv
  by_cases g : tm_cb k l < l.length - tm_cb k l
  · rw [if_pos g, if_pos (nI_le (by omega) (by omega))]
  · rw [if_neg g]
    by_cases g2 : tm_cb k l ≤ l.length - tm_cb k l
    · rw [if_pos (nI_le g2 (by omega)), show l.length - tm_cb k l = tm_cb k l by omega]
    · rw [if_neg (nI_ge (by omega) (by omega))]
theorem tm_q_fits {I : Nat → Int32} {A : Nat → Nat → Int32} (h : tm_Inv I A) (sc : Nat) : ∃ x I1 A1 sc1, g_X9_fits I A sc = some (x, I1, A1, sc1) ∧ ∃ I2 A2, g_X10_fits I1 A1 = some (x, I2, A2) ∧ tm_Inv I2 A2 := by
  obtain ⟨⟨T, s, U, V, t, hP⟩, hT, hS⟩ := id h
  obtain ⟨hW, hR, hC, hH, hrow, hrest⟩ := id hP
  have hv : ∀ v : Int32, tm_H (upd (upd (upd I 12 v) 4400 0) 4411 0) T := fun v => tm_H_of hH ((tm_g44 0 0).trans (tm_12_44 v))
  have h7 := tm_W_b7 hW
  have h24 : (2 : Nat) ^ T 7 ≤ 16 := Nat.pow_le_pow_right (n := 2) (by decide) h7
  have hl := tm_fl_len T (2 ^ T 7)
  have hm := tm_fl_mem T (2 ^ T 7)
  by_cases h0 : T 1 = 0
  · refine ⟨-1, upd I 12 1, A, sc, ?_, _, A, ?_, tm_ref h (w := 1) (by decide)⟩
    · unfold g_X9_fits g_X9_doubtsNow
      dsimp only [tw_let, g_X9_deny]
      rw [tm_town_f hC h0, if_neg (by decide), Option.bind_some]
      dsimp only
      rw [if_neg (by decide)]
    · unfold g_X10_fits g_X10_good
      dsimp only [tw_let, g_X10_no]
      rw [hv 1, if_pos h0, if_pos rfl]
  · -- town
    obtain ⟨I1, A1, e1, k1, f1, s1⟩ := tm_told9 hP hS
    obtain ⟨I2, A2, e2, fr, c2, z2, f2⟩ := tm_ff9 hW k1
    have f12 := tm_f9_t f1 f2
    obtain ⟨r1, r2, r3⟩ := tm_hand hP f12 0
    obtain ⟨w, I4, A4, e4, x4, fm, r4, f4, f5⟩ := tm_ss10 (I := upd (upd (upd I2 12 0) 4400 0) 4411 0) hW r1 r2 (-1)
    refine ⟨nI (tm_fl T (2 ^ T 7)).length, upd I2 12 0, A2, 2, ?_, I4, A4, ?_, tm_done h f12 z2 f4 f5⟩
    · unfold g_X9_fits g_X9_doubtsNow
      dsimp only [tw_let, g_X9_grant]
      rw [tm_town_t hC hW h0, if_pos rfl, e1, Option.bind_some]
      dsimp only
      rw [e2, Option.bind_some, Option.bind_some]
      dsimp only
      rw [if_pos rfl, fr.1]
    · unfold g_X10_fits g_X10_good
      dsimp only [tw_let, g_X10_no]
      rw [r3, if_neg h0, if_neg (by decide), e4, Option.bind_some]
      dsimp only
      rw [fm.1]
theorem tm_q_could {I : Nat → Int32} {A : Nat → Nat → Int32} (h : tm_Inv I A) (sc : Nat) : ∃ x I1 A1 sc1, g_X9_could I A sc = some (x, I1, A1, sc1) ∧ ∃ I2 A2, g_X10_could I1 A1 = some (x, I2, A2) ∧ tm_Inv I2 A2 := by
  obtain ⟨⟨T, s, U, V, t, hP⟩, hT, hS⟩ := id h
  obtain ⟨hW, hR, hC, hH, hrow, hrest⟩ := id hP
  have hv : ∀ v : Int32, tm_H (upd (upd (upd I 12 v) 4400 0) 4411 0) T := fun v => tm_H_of hH ((tm_g44 0 0).trans (tm_12_44 v))
  have h7 := tm_W_b7 hW
  have h24 : (2 : Nat) ^ T 7 ≤ 16 := Nat.pow_le_pow_right (n := 2) (by decide) h7
  have hl := tm_fl_len T (2 ^ T 7)
  have hm := tm_fl_mem T (2 ^ T 7)
  by_cases h0 : T 1 = 0
  · refine ⟨-1, upd I 12 1, A, sc, ?_, _, A, ?_, tm_ref h (w := 1) (by decide)⟩
    · unfold g_X9_could g_X9_doubtsNow
      dsimp only [tw_let, g_X9_deny]
      rw [tm_town_f hC h0, if_neg (by decide), Option.bind_some]
      dsimp only
      rw [if_neg (by decide)]
    · unfold g_X10_could g_X10_good
      dsimp only [tw_let, g_X10_no]
      rw [hv 1, if_pos h0, if_pos rfl]
  · -- town
    obtain ⟨I1, A1, e1, k1, f1, s1⟩ := tm_told9 hP hS
    obtain ⟨I2, A2, e2, fr, c2, z2, f2⟩ := tm_ff9 hW k1
    have f12 := tm_f9_t f1 f2
    obtain ⟨r1, r2, r3⟩ := tm_hand hP f12 0
    obtain ⟨w, I4, A4, e4, x4, fm, r4, f4, f5⟩ := tm_ss10 (I := upd (upd (upd I2 12 0) 4400 0) 4411 0) hW r1 r2 (-1)
    refine ⟨nI (tm_lor (tm_fl T (2 ^ T 7))), upd I2 12 0, A2, 2, ?_, I4, A4, ?_, tm_done h f12 z2 f4 f5⟩
    · unfold g_X9_could g_X9_doubtsNow
      dsimp only [tw_let, g_X9_grant]
      rw [tm_town_t hC hW h0, if_pos rfl, e1, Option.bind_some]
      dsimp only
      rw [e2, Option.bind_some, Option.bind_some]
      dsimp only
      rw [if_pos rfl, tm_is9 fr (by omega), Option.bind_some]
    · unfold g_X10_could g_X10_good
      dsimp only [tw_let, g_X10_no]
      rw [r3, if_neg h0, if_neg (by decide), e4, Option.bind_some]
      dsimp only
      rw [fm.2.1]
theorem tm_q_surely {I : Nat → Int32} {A : Nat → Nat → Int32} (h : tm_Inv I A) (sc : Nat) : ∃ x I1 A1 sc1, g_X9_surely I A sc = some (x, I1, A1, sc1) ∧ ∃ I2 A2, g_X10_surely I1 A1 = some (x, I2, A2) ∧ tm_Inv I2 A2 := by
  obtain ⟨⟨T, s, U, V, t, hP⟩, hT, hS⟩ := id h
  obtain ⟨hW, hR, hC, hH, hrow, hrest⟩ := id hP
  have hv : ∀ v : Int32, tm_H (upd (upd (upd I 12 v) 4400 0) 4411 0) T := fun v => tm_H_of hH ((tm_g44 0 0).trans (tm_12_44 v))
  have h7 := tm_W_b7 hW
  have h24 : (2 : Nat) ^ T 7 ≤ 16 := Nat.pow_le_pow_right (n := 2) (by decide) h7
  have hl := tm_fl_len T (2 ^ T 7)
  have hm := tm_fl_mem T (2 ^ T 7)
  by_cases h0 : T 1 = 0
  · refine ⟨-1, upd I 12 1, A, sc, ?_, _, A, ?_, tm_ref h (w := 1) (by decide)⟩
    · unfold g_X9_surely g_X9_doubtsNow
      dsimp only [tw_let, g_X9_deny]
      rw [tm_town_f hC h0, if_neg (by decide), Option.bind_some]
      dsimp only
      rw [if_neg (by decide)]
    · unfold g_X10_surely g_X10_good
      dsimp only [tw_let, g_X10_no]
      rw [hv 1, if_pos h0, if_pos rfl]
  · -- town
    obtain ⟨I1, A1, e1, k1, f1, s1⟩ := tm_told9 hP hS
    obtain ⟨I2, A2, e2, fr, c2, z2, f2⟩ := tm_ff9 hW k1
    have f12 := tm_f9_t f1 f2
    obtain ⟨r1, r2, r3⟩ := tm_hand hP f12 0
    obtain ⟨w, I4, A4, e4, x4, fm, r4, f4, f5⟩ := tm_ss10 (I := upd (upd (upd I2 12 0) 4400 0) 4411 0) hW r1 r2 (-1)
    refine ⟨nI (if (tm_fl T (2 ^ T 7)).length = 0 then 0 else tm_lan (2 ^ T 7 - 1) (tm_fl T (2 ^ T 7))), upd I2 12 0, A2, 2, ?_, I4, A4, ?_, tm_done h f12 z2 f4 f5⟩
    · unfold g_X9_surely g_X9_doubtsNow
      dsimp only [tw_let, g_X9_grant]
      rw [tm_town_t hC hW h0, if_pos rfl, e1, Option.bind_some]
      dsimp only
      rw [e2, Option.bind_some, Option.bind_some]
      dsimp only
      rw [if_pos rfl, tm_ia9 fr (by omega) h7 hm, Option.bind_some]
    · unfold g_X10_surely g_X10_good
      dsimp only [tw_let, g_X10_no]
      rw [r3, if_neg h0, if_neg (by decide), e4, Option.bind_some]
      dsimp only
      rw [fm.2.2.1]
def tm_aw (T : Nat → Nat) (l : List Nat) : Option Nat := if l.length = 0 then none else tm_bm (fun _ => true) (tm_lv l) (T 7)
def tm_fw (l : List Nat) : Option Nat → Nat
  | none => l.length + 1
  | some b => tm_lv l b
theorem tm_wh9 {I : Nat → Int32} {A : Nat → Nat → Int32} {T : Nat → Nat} {l : List Nat} (hF : tm_Fr I A l) (hC : tm_C A T) (hW : tm_W T) (hl : l.length ≤ 16) (hm : ∀ x, x ∈ l → x < 16) : g_X2_whomToAsk I A = some (tm_oi (tm_aw T l)) := by
  have h7 := tm_W_b7 hW
  unfold g_X2_whomToAsk
  rw [show g_X2_whomToAsk_L1 I A 4096 (-2 : Int32) (I 4203 + 1) (0 : Int32) = some (tm_oi (tm_aw T l)) from ?_, Option.bind_some]
  rw [hF.1, ← nI_succ]
  by_cases g : l.length = 0
  · unfold tm_aw
    rw [if_pos g, tm_oi_n]
    show g_X2_whomToAsk_L1 I A (4095 + 1) (-2 : Int32) (nI (l.length + 1)) (0 : Int32) = _
    rw [g_X2_whomToAsk_L1, hF.1]
    split
    · rfl
    · exact if_pos (show nI l.length ≤ (0 : Int32) from nI_le (b := 0) (by omega) (by decide))
  · unfold tm_aw
    rw [if_neg g]
    have hlv := tm_lv_le l
    refine tm_lp (fun n i (v : Int32 × Int32) => g_X2_whomToAsk_L1 I A n v.1 v.2 i) (T 7) 0 (fun i => (tm_oi (tm_bm (fun _ => true) (tm_lv l) i), nI (tm_fw l (tm_bm (fun _ => true) (tm_lv l) i)))) _ (Nat.zero_le _) ?_ ?_ (m := 4096) (by omega)
    · intro n
      show g_X2_whomToAsk_L1 I A (n + 1) (tm_oi (tm_bm (fun _ => true) (tm_lv l) (T 7))) _ (nI (T 7)) = _
      rw [g_X2_whomToAsk_L1, tm_cn7 hC, if_pos (nI_le (Nat.le_refl _) (by omega))]
    · intro n i _ hi
      have hli := hlv i
      show g_X2_whomToAsk_L1 I A (n + 1) (tm_oi (tm_bm (fun _ => true) (tm_lv l) i)) (nI (tm_fw l (tm_bm (fun _ => true) (tm_lv l) i))) (nI i) = g_X2_whomToAsk_L1 I A n (tm_oi (tm_bm (fun _ => true) (tm_lv l) (i + 1))) (nI (tm_fw l (tm_bm (fun _ => true) (tm_lv l) (i + 1)))) (nI (i + 1))
      rw [g_X2_whomToAsk_L1, tm_cn7 hC, if_neg (nI_ge hi (by omega)), hF.1, if_neg (show ¬ nI l.length ≤ (0 : Int32) from nI_ge (b := l.length) (a := 0) (by omega) (by omega)), tm_lef9 hF hl hm (by omega), Option.bind_some, Option.bind_some, ← nI_succ i, tm_bm]
      cases e : tm_bm (fun _ => true) (tm_lv l) i with
      | none =>
        rw [show tm_fw l none = l.length + 1 from rfl, if_neg (nI_ge (by omega) (by omega)), Option.bind_some]
        rfl
      | some b =>
        have hlb := hlv b
        rw [show tm_fw l (some b) = tm_lv l b from rfl]
        by_cases g2 : tm_lv l i < tm_lv l b
        · rw [if_neg (nI_ge g2 (by omega)), Option.bind_some]
          dsimp only
          rw [if_pos ⟨rfl, g2⟩]
          rfl
        · rw [if_pos (nI_le (by omega) (by omega)), Option.bind_some]
          dsimp only
          rw [if_neg (fun q => g2 q.2)]
          rfl
theorem tm_ao10 {I : Nat → Int32} {A : Nat → Nat → Int32} {T s : Nat → Nat} (hW : tm_W T) (hR : tm_R A T) {x y z : Int32} (hrow : tm_row T x y z (A 49) s) : ∃ I1 A1, g_X10_askOf I A = some (tm_oi (tm_aw T (tm_fl T (2 ^ T 7))), I1, A1) ∧ (∃ e, tm_FM I1 A1 T e (tm_fl T (2 ^ T 7))) ∧ (∀ k, k < 4425 → I1 k = I k) ∧ ∀ c, c < 52 → A1 c = A c := by
  have h7 := tm_W_b7 hW
  have h24 : (2 : Nat) ^ T 7 ≤ 16 := Nat.pow_le_pow_right (n := 2) (by decide) h7
  have hl0 := tm_fl_len T (2 ^ T 7)
  obtain ⟨w, I1, A1, e1, -, fm, r1, f1, f2⟩ := tm_ss10 (I := I) hW hR hrow (-1)
  refine ⟨I1, A1, ?_, ⟨_, fm⟩, f1, f2⟩
  unfold g_X10_askOf
  rw [e1, Option.bind_some]
  dsimp only
  generalize tm_fl T (2 ^ T 7) = l at *
  have hl : l.length ≤ 16 := by omega
  have hlv := tm_lv_le l
  rw [show g_X10_askOf_L1 I1 A1 4096 (-2 : Int32) (0 : Int32) = some (tm_oi (tm_aw T l)) from ?_, Option.bind_some]
  by_cases g : l.length = 0
  · unfold tm_aw
    rw [if_pos g, tm_oi_n]
    show g_X10_askOf_L1 I1 A1 (4095 + 1) (-2 : Int32) (0 : Int32) = _
    rw [g_X10_askOf_L1, tm_r_c7 r1, Option.bind_some, fm.1]
    split
    · rfl
    · exact if_pos (show nI l.length ≤ (0 : Int32) from nI_le (b := 0) (by omega) (by decide))
  · unfold tm_aw
    rw [if_neg g]
    refine tm_lp (fun n i (v : Int32) => g_X10_askOf_L1 I1 A1 n v i) (T 7) 0 (fun i => tm_oi (tm_bm (fun _ => true) (tm_lv l) i)) _ (Nat.zero_le _) ?_ ?_ (m := 4096) (by omega)
    · intro n
      show g_X10_askOf_L1 I1 A1 (n + 1) (tm_oi (tm_bm (fun _ => true) (tm_lv l) (T 7))) (nI (T 7)) = _
      rw [g_X10_askOf_L1, tm_r_c7 r1, Option.bind_some, if_pos (nI_le (Nat.le_refl _) (by omega))]
    · intro n i _ hi
      have hli := hlv i
      show g_X10_askOf_L1 I1 A1 (n + 1) (tm_oi (tm_bm (fun _ => true) (tm_lv l) i)) (nI i) = g_X10_askOf_L1 I1 A1 n (tm_oi (tm_bm (fun _ => true) (tm_lv l) (i + 1))) (nI (i + 1))
      rw [g_X10_askOf_L1, tm_r_c7 r1, Option.bind_some, if_neg (nI_ge hi (by omega)), fm.1, if_neg (show ¬ nI l.length ≤ (0 : Int32) from nI_ge (b := l.length) (a := 0) (by omega) (by omega)), ← nI_succ i, tm_bm]
      cases e : tm_bm (fun _ => true) (tm_lv l) i with
      | none =>
        rw [tm_oi_n, if_pos (by decide), Option.bind_some]
        rfl
      | some b =>
        have hb := tm_bm_lt _ _ _ _ e
        have hlb := hlv b
        rw [tm_oi_s, if_neg (nI_pos (by omega)), tm_lv10 hW fm hl hi, Option.bind_some, tm_lv10 hW fm hl (by omega : b < T 7), Option.bind_some]
        dsimp only
        by_cases g2 : tm_lv l i < tm_lv l b
        · rw [if_neg (nI_ge g2 (by omega)), Option.bind_some, if_pos ⟨rfl, g2⟩]
          rfl
        · rw [if_pos (nI_le (by omega) (by omega)), Option.bind_some, if_neg (fun q => g2 q.2)]
          rfl
theorem tm_q_ask {I : Nat → Int32} {A : Nat → Nat → Int32} (h : tm_Inv I A) (sc : Nat) : ∃ x I1 A1 sc1, g_X9_ask I A sc = some (x, I1, A1, sc1) ∧ ∃ I2 A2, g_X10_ask I1 A1 = some (x, I2, A2) ∧ tm_Inv I2 A2 := by
  obtain ⟨⟨T, s, U, V, t, hP⟩, hT, hS⟩ := id h
  obtain ⟨hW, hR, hC, hH, hrow, hrest⟩ := id hP
  have hv : ∀ v : Int32, tm_H (upd (upd (upd I 12 v) 4400 0) 4411 0) T := fun v => tm_H_of hH ((tm_g44 0 0).trans (tm_12_44 v))
  have h7 := tm_W_b7 hW
  have h24 : (2 : Nat) ^ T 7 ≤ 16 := Nat.pow_le_pow_right (n := 2) (by decide) h7
  have hl := tm_fl_len T (2 ^ T 7)
  have hm := tm_fl_mem T (2 ^ T 7)
  by_cases h0 : T 1 = 0
  · refine ⟨-1, upd I 12 1, A, sc, ?_, _, A, ?_, tm_ref h (w := 1) (by decide)⟩
    · unfold g_X9_ask g_X9_doubtsNow
      dsimp only [tw_let, g_X9_deny]
      rw [tm_town_f hC h0, if_neg (by decide), Option.bind_some]
      dsimp only
      rw [if_neg (by decide)]
    · unfold g_X10_ask g_X10_good
      dsimp only [tw_let, g_X10_no]
      rw [hv 1, if_pos h0, if_pos rfl]
  · -- town
    obtain ⟨I1, A1, e1, k1, f1, s1⟩ := tm_told9 hP hS
    obtain ⟨I2, A2, e2, fr, c2, z2, f2⟩ := tm_ff9 hW k1
    have f12 := tm_f9_t f1 f2
    obtain ⟨r1, r2, r3⟩ := tm_hand hP f12 0
    obtain ⟨I4, A4, e4, ⟨ee, fm⟩, f4, f5⟩ := tm_ao10 (I := upd (upd (upd I2 12 0) 4400 0) 4411 0) hW r1 r2
    refine ⟨tm_oi (tm_aw T (tm_fl T (2 ^ T 7))), upd I2 12 0, A2, 2, ?_, I4, A4, ?_, tm_done h f12 z2 f4 f5⟩
    · unfold g_X9_ask g_X9_doubtsNow
      dsimp only [tw_let, g_X9_grant]
      rw [tm_town_t hC hW h0, if_pos rfl, e1, Option.bind_some]
      dsimp only
      rw [e2, Option.bind_some, Option.bind_some]
      dsimp only
      rw [if_pos rfl, tm_wh9 fr c2 hW (by omega) (fun x hx => by have := hm x hx; omega), Option.bind_some]
    · unfold g_X10_ask g_X10_good
      dsimp only [tw_let, g_X10_no]
      rw [r3, if_neg h0, if_neg (by decide), e4, Option.bind_some]
theorem tm_aw_lt {T : Nat → Nat} {l : List Nat} {b : Nat} (h : tm_aw T l = some b) : b < T 7 := by
  unfold tm_aw at h
  split at h
  · cases h
  · exact tm_bm_lt _ _ _ _ h
def tm_lva (l : List Nat) : Option Nat → Int32
  | none => -2
  | some b => nI (tm_lv l b)
theorem tm_q_askLeaves {I : Nat → Int32} {A : Nat → Nat → Int32} (h : tm_Inv I A) (sc : Nat) : ∃ x I1 A1 sc1, g_X9_askLeaves I A sc = some (x, I1, A1, sc1) ∧ ∃ I2 A2, g_X10_askLeaves I1 A1 = some (x, I2, A2) ∧ tm_Inv I2 A2 := by
  obtain ⟨⟨T, s, U, V, t, hP⟩, hT, hS⟩ := id h
  obtain ⟨hW, hR, hC, hH, hrow, hrest⟩ := id hP
  have hv : ∀ v : Int32, tm_H (upd (upd (upd I 12 v) 4400 0) 4411 0) T := fun v => tm_H_of hH ((tm_g44 0 0).trans (tm_12_44 v))
  have h7 := tm_W_b7 hW
  have h24 : (2 : Nat) ^ T 7 ≤ 16 := Nat.pow_le_pow_right (n := 2) (by decide) h7
  have hl := tm_fl_len T (2 ^ T 7)
  have hm := tm_fl_mem T (2 ^ T 7)
  by_cases h0 : T 1 = 0
  · refine ⟨-1, upd I 12 1, A, sc, ?_, _, A, ?_, tm_ref h (w := 1) (by decide)⟩
    · unfold g_X9_askLeaves g_X9_doubtsNow
      dsimp only [tw_let, g_X9_deny]
      rw [tm_town_f hC h0, if_neg (by decide), Option.bind_some]
      dsimp only
      rw [if_neg (by decide)]
    · unfold g_X10_askLeaves g_X10_good
      dsimp only [tw_let, g_X10_no]
      rw [hv 1, if_pos h0, if_pos rfl]
  · -- town
    obtain ⟨I1, A1, e1, k1, f1, s1⟩ := tm_told9 hP hS
    obtain ⟨I2, A2, e2, fr, c2, z2, f2⟩ := tm_ff9 hW k1
    have f12 := tm_f9_t f1 f2
    obtain ⟨r1, r2, r3⟩ := tm_hand hP f12 0
    obtain ⟨I4, A4, e4, ⟨ee, fm⟩, f4, f5⟩ := tm_ao10 (I := upd (upd (upd I2 12 0) 4400 0) 4411 0) hW r1 r2
    refine ⟨tm_lva (tm_fl T (2 ^ T 7)) (tm_aw T (tm_fl T (2 ^ T 7))), upd I2 12 0, A2, 2, ?_, I4, A4, ?_, tm_done h f12 z2 f4 f5⟩
    · unfold g_X9_askLeaves g_X9_doubtsNow
      dsimp only [tw_let, g_X9_grant]
      rw [tm_town_t hC hW h0, if_pos rfl, e1, Option.bind_some]
      dsimp only
      rw [e2, Option.bind_some, Option.bind_some]
      dsimp only
      rw [if_pos rfl, tm_wh9 fr c2 hW (by omega) (fun x hx => by have := hm x hx; omega), Option.bind_some]
      cases eq : tm_aw T (tm_fl T (2 ^ T 7)) with
      | none =>
        rw [tm_oi_n, if_pos rfl, Option.bind_some]
        rfl
      | some b =>
        have hb := tm_aw_lt eq
        rw [tm_oi_s, if_neg (tm_nm2 (by omega)), tm_lef9 fr (by omega) (fun x hx => by have := hm x hx; omega) (by omega), Option.bind_some, Option.bind_some]
        rfl
    · unfold g_X10_askLeaves g_X10_good
      dsimp only [tw_let, g_X10_no]
      rw [r3, if_neg h0, if_neg (by decide), e4, Option.bind_some]
      dsimp only
      cases eq : tm_aw T (tm_fl T (2 ^ T 7)) with
      | none =>
        rw [tm_oi_n, if_neg (by decide)]
        rfl
      | some b =>
        have hb := tm_aw_lt eq
        rw [tm_oi_s, if_pos (show (0 : Int32) ≤ nI b from nI_le (a := 0) (Nat.zero_le _) (by omega)), tm_lv10 hW fm (by omega) hb, Option.bind_some]
        rfl
theorem tm_q_fitAt {I : Nat → Int32} {A : Nat → Nat → Int32} (h : tm_Inv I A) (sc : Nat) (a : Int32) : ∃ x I1 A1 sc1, g_X9_fitAt I A sc a = some (x, I1, A1, sc1) ∧ ∃ I2 A2, g_X10_fitAt I1 A1 a = some (x, I2, A2) ∧ tm_Inv I2 A2 := by
  obtain ⟨⟨T, s, U, V, t, hP⟩, hT, hS⟩ := id h
  obtain ⟨hW, hR, hC, hH, hrow, hrest⟩ := id hP
  have hv : ∀ v : Int32, tm_H (upd (upd (upd I 12 v) 4400 0) 4411 0) T := fun v => tm_H_of hH ((tm_g44 0 0).trans (tm_12_44 v))
  have h7 := tm_W_b7 hW
  have h24 : (2 : Nat) ^ T 7 ≤ 16 := Nat.pow_le_pow_right (n := 2) (by decide) h7
  have hl := tm_fl_len T (2 ^ T 7)
  have hm := tm_fl_mem T (2 ^ T 7)
  by_cases h0 : T 1 = 0
  · refine ⟨-1, upd I 12 1, A, sc, ?_, _, A, ?_, tm_ref h (w := 1) (by decide)⟩
    · unfold g_X9_fitAt g_X9_doubtsNow
      dsimp only [tw_let, g_X9_deny]
      rw [tm_town_f hC h0, if_neg (by decide), Option.bind_some]
      dsimp only
      rw [if_neg (by decide)]
    · unfold g_X10_fitAt g_X10_good
      dsimp only [tw_let, g_X10_no]
      rw [hv 1, if_pos h0, if_pos rfl]
  · -- town
    obtain ⟨I1, A1, e1, k1, f1, s1⟩ := tm_told9 hP hS
    obtain ⟨I2, A2, e2, fr, c2, z2, f2⟩ := tm_ff9 hW k1
    have f12 := tm_f9_t f1 f2
    have hcl : g_X9_doubtsNow I A = some (true, I2, A2) := by
      unfold g_X9_doubtsNow
      rw [tm_town_t hC hW h0, if_pos rfl, e1, Option.bind_some]
      dsimp only
      rw [e2, Option.bind_some]
    by_cases ka : tm_ok (tm_fl T (2 ^ T 7)).length a
    · obtain ⟨j, hj, rfl⟩ := ka
      obtain ⟨r1, r2, r3⟩ := tm_hand hP f12 0
      obtain ⟨w, I4, A4, e4, x4, fm, r4, f4, f5⟩ := tm_ss10 (I := upd (upd (upd I2 12 0) 4400 0) 4411 0) hW r1 r2 (nI j)
      have hw : w = nI (tm_fl T (2 ^ T 7))[j] := x4.1 j _ (List.getElem?_eq_getElem hj) rfl
      have hx := hm (tm_fl T (2 ^ T 7))[j] (List.getElem_mem hj)
      refine ⟨nI (tm_fl T (2 ^ T 7))[j], upd I2 12 0, A2, 2, ?_, I4, A4, ?_, tm_done h f12 z2 f4 f5⟩
      · unfold g_X9_fitAt
        dsimp only [tw_let, g_X9_grant]
        rw [hcl, Option.bind_some]
        dsimp only
        rw [if_pos rfl, if_neg (nI_pos (by omega)), if_pos (show nI j < I2 4203 by rw [fr.1]; exact nI_lt hj (by omega)), tm_43 fr (by omega) j hj]
      · unfold g_X10_fitAt g_X10_good
        dsimp only [tw_let, g_X10_no]
        rw [r3, if_neg h0, if_neg (by decide), if_pos (show (0 : Int32) ≤ nI j from nI_le (a := 0) (Nat.zero_le _) (by omega)), e4, Option.bind_some]
        dsimp only
        rw [hw, if_pos (show (0 : Int32) ≤ nI (tm_fl T (2 ^ T 7))[j] from nI_le (a := 0) (Nat.zero_le _) (by omega))]
    · obtain ⟨r1, r2, r3⟩ := tm_hand hP f12 1
      have hno : g_X9_fitAt I A sc a = some (-1, upd I2 12 1, A2, 2) := by
        unfold g_X9_fitAt
        dsimp only [tw_let, g_X9_grant, g_X9_refuse]
        rw [hcl, Option.bind_some]
        dsimp only
        rw [if_pos rfl]
        by_cases g : a < 0
        · rw [if_pos g]
        · rw [if_neg g, if_neg (show ¬ a < I2 4203 by rw [fr.1]; exact tm_nlt (tm_ok_f (by omega) ka g))]
      by_cases g : a < 0
      · refine ⟨-1, upd I2 12 1, A2, 2, hno, _, A2, ?_, tm_doneR h f12 z2 (w := 1) (by decide) (fun k hk => rfl) (fun c hc => rfl)⟩
        unfold g_X10_fitAt g_X10_good
        dsimp only [tw_let, g_X10_no]
        rw [r3, if_neg h0, if_neg (by decide), if_neg (tm_nle g)]
      · obtain ⟨w, I4, A4, e4, x4, fm, r4, f4, f5⟩ := tm_ss10 (I := upd (upd (upd I2 12 1) 4400 0) 4411 0) hW r1 r2 a
        have hw : w = -1 := x4.2 fun j hj e => ka ⟨j, hj, e⟩
        refine ⟨-1, upd I2 12 1, A2, 2, hno, upd I4 4411 1, A4, ?_, tm_doneR h f12 z2 (w := 1) (by decide) (fun k hk => ?_) f5⟩
        · unfold g_X10_fitAt g_X10_good
          dsimp only [tw_let, g_X10_no]
          rw [r3, if_neg h0, if_neg (by decide), if_pos (Int32.not_lt.mp g), e4, Option.bind_some]
          dsimp only
          rw [hw, if_neg (by decide)]
        · by_cases q : k = 4411
          · rw [q, tm_us, tm_us]
          · rw [tm_un _ q, tm_un _ q]
            exact f4 k hk
