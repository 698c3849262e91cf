set_option maxRecDepth 16000
/-! led: the law's own case of it -/
theorem tw_lessL {p : Program} {l : Launch} {e0 : Env} {s : State} {m : MethodId} {args : Array Value} {below : List Frame} {meth : Method} {c : Code} {n0 b0 L0 : Nat} {xs : Nat → Int32} {adK : Nat → Nat} {dC : Nat → ClassId} {dI : Nat → Nat → Nat} {cy : tw_Y} {Q : State → Prop} {x y k : Nat} {st : List Value} {σ : tw_S} {v0 v1 v2 v3 v4 u5 u6 : Option Value} (h : tw_MW p l e0 s m args below meth c n0 b0 L0 xs adK dC dI cy Q x y (k, [v0, v1, v2, v3, v4, none, none], st, σ)) : tw_MW p l e0 s m args below meth c n0 b0 L0 xs adK dC dI cy Q x y (k, [v0, v1, v2, v3, v4, u5, u6], st, σ) := by
  intro hlen ad H locs lsA hr hl
  refine h rfl ad H locs lsA hr (tw_lv_sub hl fun q hq => ?_)
  obtain ⟨j, v, h1, h2⟩ := (tw_lv_mem _ 0 q).mp hq
  refine (tw_lv_mem _ 0 q).mpr ⟨j, v, ?_, h2⟩
  match j, h1 with
  | 0, h1 => exact h1
  | 1, h1 => exact h1
  | 2, h1 => exact h1
  | 3, h1 => exact h1
  | 4, h1 => exact h1
  | 5, h1 => cases h1
  | 6, h1 => cases h1
  | j + 7, h1 => cases h1
theorem tw_ldM5 {M : tw_C → Prop} {L0 : Nat} {xs : Nat → Int32} (hM : tw_Cl M L0 xs) {k k5 p0 p1 p2 p3 p4 i j : Nat} {z : Int} {v : Int32} {u5 : Option Value} (hd : (tw_c323.drop k).take 5 = [(p0, .aload_n 0, 1, 0, 0, 0, 0, 0), (p1, .iload 4, 2, 0, 0, 0, 0, 0), (p2, .iconst z, 1, 0, 0, 0, v, 0), (p3, .iadd, 1, 0, 0, 0, 0, 0), (p4, .iaload, 1, 0, 0, 0, 0, 0)]) (hk : k5 = k + 5) (hv : v = nI j) (hj : 6 * i + j < L0) (hL : L0 < 2 ^ 31) {st : List Value} {I : Nat → Int32} {L : Nat → Int64} {P : Nat → Nat → Nat} {A : Nat → Nat → Int32} {J : Nat → Nat → Int64} (h : M (k5, [some (.ref 900), some (.ref 0), some (.ref 44), some (.ref 56), some (.int (nI (6 * i))), u5, none], .int (xs (6 * i + j)) :: st, (I, L, P, A, J, 57))) : M (k, [some (.ref 900), some (.ref 0), some (.ref 44), some (.ref 56), some (.int (nI (6 * i))), u5, none], st, (I, L, P, A, J, 57)) := by
  subst hk
  subst hv
  refine hM.2.2 _ _ _ _ _ _ _ _ _ (fun h1 h2 => ?_)
  refine hM.1 _ _ _ _ _ (k + 1, _, .ref 900 :: st, (I, L, P, A, J, 57)) (tw_gt hd (j := 0) rfl (by decide)) rfl rfl ?_
  refine hM.1 _ _ _ _ _ (k + 1 + 1, _, .int (nI (6 * i)) :: .ref 900 :: st, (I, L, P, A, J, 57)) (tw_gt hd (j := 1) rfl (by decide)) rfl rfl ?_
  refine hM.1 _ _ _ _ _ (k + 2 + 1, _, .int (nI j) :: .int (nI (6 * i)) :: .ref 900 :: st, (I, L, P, A, J, 57)) (tw_gt hd (j := 2) rfl (by decide)) rfl rfl ?_
  refine hM.1 _ _ _ _ _ (k + 3 + 1, _, .int (nI (6 * i) + nI j) :: .ref 900 :: st, (I, L, P, A, J, 57)) (tw_gt hd (j := 3) rfl (by decide)) rfl rfl ?_
  rw [nI_add]
  exact hM.1 _ _ _ _ _ _ (tw_gt hd (j := 4) rfl (by decide)) (tw_xld h1 h2 hj hL) rfl h
/-- what the law's frame needs for it -/
def tw_X54 (l : Launch) (n0 sa : Nat) (args : Array Value) (s : State) : Prop := l.stackTraces = false ∧ tw_X9 n0 sa s ∧ (∀ w ∈ tw_wsH, w.before args s = true) ∧ (Cond.methodLink "ThirdWitnessLaw" 244 yL_led).before args s = true ∧ (Cond.static yL_led).before args s = true ∧ (Cond.initialized "ThirdWitnessLaw").before args s = true
theorem tw_wsH_good : ∀ w ∈ tw_wsH, goodWord w = true := by
  intro w hw
  unfold tw_wsH at hw
  rcases List.mem_cons.mp hw with h | h
  · rw [h]; rfl
  · rcases List.mem_cons.mp h with h | h
    · rw [h]; rfl
    · unfold tw_wT wsV tw_ws9 at h
      rcases List.mem_append.mp h with h | h
      · exact List.all_eq_true.mp (show ([.methodLink "ThirdWitnessLaw" 7 (tw_nm 170), .instanceMethod (tw_nm 170), .selects RX9 (tw_nm 170) (tw_nm 170), .initialized RX9] : List Cond).all goodWord = true by decide +kernel) w h
      · rcases List.mem_cons.mp h with h | h
        · rw [h]; rfl
        · rcases List.mem_cons.mp h with h | h
          · rw [h]; rfl
          · rcases List.mem_cons.mp h with h | h
            · rw [h]; rfl
            · rcases List.mem_append.mp h with h | h
              · exact (List.mem_filter.mp h).2
              · exact tw_ok.2.1 w h
theorem tw_sH_J {I : Nat → Int32} {L : Nat → Int64} {P : Nat → Nat → Nat} {A : Nat → Nat → Int32} {J : Nat → Nat → Int64} (r : Option Int32) : ∃ J2, tw_sH r (I, L, P, A, J, 57) = (I, L, P, A, J2, 57) ∧ ∀ q, r = some q → J2 56 (0 : Int32).toNatClampNeg = q.toInt64 := by
  cases r with
  | none => exact ⟨J, rfl, fun q h => nomatch h⟩
  | some q =>
    refine ⟨_, rfl, fun q' h => ?_⟩
    cases h
    show va_up J 56 _ 56 _ = _
    unfold va_up
    rw [if_pos rfl]
    unfold vp_updL
    rw [if_pos rfl]
set_option maxHeartbeats 4000000 in
theorem tw_case_54 {p : Program} {l : Launch} {e0 : Env} {s : State} {m : MethodId} {args : Array Value} {below : List Frame} {meth : Method} {c : Code} {n0 b0 L0 sa : Nat} {xs : Nat → Int32} {adK adV : Nat → Nat} {dC : Nat → ClassId} {dI : Nat → Nat → Nat} {cy : tw_Y} {Q : State → Prop} {x y : Nat} (C : tw_Cx p room_1 s m args meth c 323 n0 b0 L0 xs adK adV dC dI cy) (hX : tw_X54 l n0 sa args s) (hxy : 57 + (x + 1) ≤ 1082 ∧ tw_sl 57 + (y + 6) ≤ 11854) {i : Nat} (hi : 6 * i + 5 < L0) (hL : L0 < 2 ^ 31) {I : Nat → Int32} {L : Nat → Int64} {A : Nat → Nat → Int32} {J : Nat → Nat → Int64} {rt sc : Nat} (h : tm_Inv I A) (K : ∀ (I : Nat → Int32) (L : Nat → Int64) (A : Nat → Nat → Int32) (J : Nat → Nat → Int64) (rt sc : Nat), tm_Inv I A → tw_MW p l e0 s m args below meth c n0 b0 L0 xs adK dC dI cy Q (x + 1) (y + 6) (1164, tw_l6 i, [], (I, L, tw_P 2 14 rt sc, A, J, 57))) : tw_MW p l e0 s m args below meth c n0 b0 L0 xs adK dC dI cy Q x y (1105, tw_l6 i, [], (I, L, tw_P 2 14 rt sc, A, J, 57)) := by
  obtain ⟨r, I1, A1, hr1, b, I2, A2, hr2, hI, hmt⟩ := tm_q_led h (xs (6 * i + 1))
  have hMP := tw_led I L A J rt sc (xs (6 * i + 1)) hr1
  have hM : tw_Cl (tw_MW p l e0 s m args below meth c n0 b0 L0 xs adK dC dI cy Q x y) L0 xs := tw_MW_Cl C ⟨by omega, by omega⟩
  have hM2 : tw_Cl (tw_MW p l e0 s m args below meth c n0 b0 L0 xs adK dC dI cy Q (x + 1) (y + 6)) L0 xs := tw_MW_Cl C hxy
  refine hM.1 _ _ _ _ _ (1106, tw_l6 i, [.ref 0], (I, L, tw_P 2 14 rt sc, A, J, 57)) (show tw_c323[1105]? = some (1860, .aload_n 1, 1, 0, 0, 0, 0, 0) from rfl) rfl rfl ?_
  refine tw_ldM hM (k := 1106) (k5 := 1111) (show (tw_c323.drop 1106).take 5 = [(1861, .aload_n 0, 1, 0, 0, 0, 0, 0), (1862, .iload 4, 2, 0, 0, 0, 0, 0), (1864, .iconst 1, 1, 0, 0, 0, 1, 0), (1865, .iadd, 1, 0, 0, 0, 0, 0), (1866, .iaload, 1, 0, 0, 0, 0, 0)] from rfl) rfl (j := 1) rfl (by omega) hL ?_
  refine hM.1 _ _ _ _ _ (1112, tw_l6 i, [.ref 56, .int (xs (6 * i + 1)), .ref 0], (I, L, tw_P 2 14 rt sc, A, J, 57)) (show tw_c323[1111]? = some (1867, .aload_n 3, 1, 0, 0, 0, 0, 0) from rfl) rfl rfl ?_
  obtain ⟨J2, hJ2, hJv⟩ := tw_sH_J (I := I1) (L := L) (P := tw_P 2 14 rt 2) (A := A1) (J := J) r
  have key : tw_MW p l e0 s m args below meth c n0 b0 L0 xs adK dC dI cy Q (x + 1) (y + 6) (1113, tw_l6 i, [.int (tw_bH r)], (I1, L, tw_P 2 14 rt 2, A1, J2, 57)) := by
    refine hM2.1 _ _ _ _ _ (1114, [some (.ref 900), some (.ref 0), some (.ref 44), some (.ref 56), some (.int (nI (6 * i))), some (.int (tw_bH r)), none], [], (I1, L, tw_P 2 14 rt 2, A1, J2, 57)) (show tw_c323[1113]? = some (1871, .istore 5, 2, 0, 0, 0, 0, 0) from rfl) rfl rfl ?_
    refine hM2.1 _ _ _ _ _ (1115, _, [.ref 44], (I1, L, tw_P 2 14 rt 2, A1, J2, 57)) (show tw_c323[1114]? = some (1873, .aload_n 2, 1, 0, 0, 0, 0, 0) from rfl) rfl rfl ?_
    refine tw_ldM5 hM2 (k := 1115) (k5 := 1120) (show (tw_c323.drop 1115).take 5 = [(1874, .aload_n 0, 1, 0, 0, 0, 0, 0), (1875, .iload 4, 2, 0, 0, 0, 0, 0), (1877, .iconst 1, 1, 0, 0, 0, 1, 0), (1878, .iadd, 1, 0, 0, 0, 0, 0), (1879, .iaload, 1, 0, 0, 0, 0, 0)] from rfl) rfl (j := 1) rfl (by omega) hL ?_
    refine hM2.2.1 1120 _ _ _ _ _ _ _ _ (show tw_c323[1120]? = some (1880, .invokevirtual 249, 3, 318, 1, 91, 0, 0) from rfl) rfl rfl rfl (e_X10_led I1 L A1 J2 2 14 rt 2 (xs (6 * i + 1)) _ hr2) rfl (Or.inl rfl) ?_
    refine hM2.1 _ _ _ _ _ (1122, [some (.ref 900), some (.ref 0), some (.ref 44), some (.ref 56), some (.int (nI (6 * i))), some (.int (tw_bH r)), some (.int b)], [], (I2, L, tw_P 2 14 rt 2, A2, J2, 57)) (show tw_c323[1121]? = some (1883, .istore 6, 2, 0, 0, 0, 0, 0) from rfl) rfl rfl ?_
    refine hM2.1 _ _ _ _ _ (1123, _, [.ref 44], (I2, L, tw_P 2 14 rt 2, A2, J2, 57)) (show tw_c323[1122]? = some (1885, .aload_n 2, 1, 0, 0, 0, 0, 0) from rfl) rfl rfl ?_
    refine hM2.2.1 1123 _ _ _ _ _ _ _ _ (show tw_c323[1123]? = some (1886, .invokevirtual 250, 3, 192, 0, 91, 0, 0) from rfl) rfl rfl rfl (e_X10_thrown I2 L A2 J2 2 14 rt 2 _ rfl) rfl (Or.inl rfl) ?_
    refine hM2.1 _ _ _ _ _ (1125, _, [.int (tw_bH r), .int (g_X10_thrown I2)], (I2, L, tw_P 2 14 rt 2, A2, J2, 57)) (show tw_c323[1124]? = some (1889, .iload 5, 2, 0, 0, 0, 0, 0) from rfl) rfl rfl ?_
    have ht : g_X10_thrown I2 = tw_bH r := by
      cases r with
      | none => exact hmt
      | some q => exact hmt.2
    refine hM2.1 _ _ _ _ _ (1128, _, [], (I2, L, tw_P 2 14 rt 2, A2, J2, 57)) (show tw_c323[1125]? = some (1891, .if_icmp .eq 5, 3, 1128, 0, 0, 0, 0) from rfl) (by exact if_pos ht) rfl ?_
    refine hM2.1 _ _ _ _ _ (1129, _, [.int (tw_bH r)], (I2, L, tw_P 2 14 rt 2, A2, J2, 57)) (show tw_c323[1128]? = some (1896, .iload 5, 2, 0, 0, 0, 0, 0) from rfl) rfl rfl ?_
    have fin : tw_MW p l e0 s m args below meth c n0 b0 L0 xs adK dC dI cy Q (x + 1) (y + 6) (1139, [some (.ref 900), some (.ref 0), some (.ref 44), some (.ref 56), some (.int (nI (6 * i))), some (.int (tw_bH r)), some (.int b)], [], (I2, L, tw_P 2 14 rt 2, A2, J2, 57)) := by
      refine hM2.1 _ _ _ _ _ (1164, _, [], (I2, L, tw_P 2 14 rt 2, A2, J2, 57)) (show tw_c323[1139]? = some (1913, .goto 41, 3, 1164, 0, 0, 0, 0) from rfl) rfl rfl ?_
      exact tw_lessL (K _ _ _ _ _ _ hI)
    cases r with
    | none => exact hM2.1 _ _ _ _ _ _ (show tw_c323[1129]? = some (1898, .ifCond .ne 15, 3, 1139, 0, 0, 0, 0) from rfl) rfl rfl fin
    | some q =>
      obtain ⟨hb, -⟩ := hmt
      refine hM2.1 _ _ _ _ _ (1130, _, [], (I2, L, tw_P 2 14 rt 2, A2, J2, 57)) (show tw_c323[1129]? = some (1898, .ifCond .ne 15, 3, 1139, 0, 0, 0, 0) from rfl) rfl rfl ?_
      refine hM2.1 _ _ _ _ _ (1131, _, [.ref 56], (I2, L, tw_P 2 14 rt 2, A2, J2, 57)) (show tw_c323[1130]? = some (1901, .aload_n 3, 1, 0, 0, 0, 0, 0) from rfl) rfl rfl ?_
      refine hM2.1 _ _ _ _ _ (1132, _, [.int 0, .ref 56], (I2, L, tw_P 2 14 rt 2, A2, J2, 57)) (show tw_c323[1131]? = some (1902, .iconst 0, 1, 0, 0, 0, 0, 0) from rfl) rfl rfl ?_
      refine hM2.1 _ _ _ _ _ (1133, _, [.long (J2 56 (0 : Int32).toNatClampNeg)], (I2, L, tw_P 2 14 rt 2, A2, J2, 57)) (show tw_c323[1132]? = some (1903, .laload, 1, 0, 0, 0, 0, 0) from rfl) rfl rfl ?_
      refine hM2.1 _ _ _ _ _ (1134, _, [.int b, .long (J2 56 (0 : Int32).toNatClampNeg)], (I2, L, tw_P 2 14 rt 2, A2, J2, 57)) (show tw_c323[1133]? = some (1904, .iload 6, 2, 0, 0, 0, 0, 0) from rfl) rfl rfl ?_
      refine hM2.1 _ _ _ _ _ (1135, _, [.long b.toInt64, .long (J2 56 (0 : Int32).toNatClampNeg)], (I2, L, tw_P 2 14 rt 2, A2, J2, 57)) (show tw_c323[1134]? = some (1906, .i2l, 1, 0, 0, 0, 0, 0) from rfl) rfl rfl ?_
      refine hM2.1 _ _ _ _ _ (1136, _, [.int (lg_cmp (J2 56 (0 : Int32).toNatClampNeg) b.toInt64)], (I2, L, tw_P 2 14 rt 2, A2, J2, 57)) (show tw_c323[1135]? = some (1907, .lcmp, 1, 0, 0, 0, 0, 0) from rfl) rfl rfl ?_
      have e0 : lg_cmp (J2 56 (0 : Int32).toNatClampNeg) b.toInt64 = 0 := by
        rw [hJv q rfl, hb]
        simp [lg_cmp]
      exact hM2.1 _ _ _ _ _ _ (show tw_c323[1136]? = some (1908, .ifCond .eq 5, 3, 1139, 0, 0, 0, 0) from rfl) (by exact if_pos e0) rfl fin
  obtain ⟨hfl, hX9, hw, hlink, hstat, hini⟩ := id hX
  obtain ⟨hx, hb, hml, hown, -, hF, hK, -⟩ := id C
  intro hlen ad H locs lsA hr hl
  dsimp only at hr hl ⊢
  obtain ⟨hP, hD, hS, hU⟩ := id hr
  refine vx_calli (A0 := tw_A n0) (A1 := tw_A n0) (AX := fun _ => False) (pc := 1868) (vx_runSX (index := 244) (own := "ThirdWitnessLaw") (As := ([.ref 0, .int (xs (6 * i + 1)), .ref 56] : List Value).map (tw_cv ad)) (rest := []) (n := 3) (nL := 7) (cc := tw_by 323) (Ts := []) (hh := [(0, 9, 12, 13)]) (bytes := cL_led) (maxL := 4) (ret := some .int) ⟨hx, hb, hml, hown, fun w hw => nomatch hw⟩ (tw_ledH (adV := adV) (n0 := n0) (dC := dC) (dI := dI) (cy := cy) (sa := sa) hfl hMP rfl hU) ⟨⟨rfl, rfl, by decide, by decide, fun w hw' a' U hW => word_at hW (good_of_word (tw_wsH_good w hw')) (hw w hw'), List.mem_cons_self⟩, hw _ List.mem_cons_self, hini, ⟨by decide +kernel, by decide +kernel⟩, fun sig hs => by rw [show parseMethodDescriptor yL_led.desc = some ⟨[.object "ThirdWitness", .int, .array .long], some .int⟩ by decide +kernel] at hs; cases hs; rfl, hlink, hstat⟩ ⟨tw_blind9 _, fun U hU1 hW => ⟨rfl, ⟨tw_F_next hF hW hU1 hS, va_K.moved hW.alike hK, by rw [hU1]; exact hP, hD⟩, tw_X9_next hX9 hW hU1 hS⟩⟩ rfl rfl hl.1 rfl (show (2 * 0 + 0 : Nat) ≤ 8 by decide) (show decode (tw_by 323) 1868 = .ok (.invokestatic 244, 3) by decide +kernel) ⟨show 57 + x + 1 ≤ 1082 by omega, show tw_sl 57 + y + 6 ≤ 11854 by omega⟩) hS (fun _ _ h => h) (fun _ h => h) (fun _ _ h => h.elim) ?_ ?_
  · intro E ce q9 u t H1 locs1 ht hA hpx
    exact hpx.elim
  · intro z u t H1 locs1 ht hA hp hB hsz hke hS1
    obtain ⟨rfl, hPu⟩ := hp
    obtain ⟨hP1, hD1⟩ := hB
    rw [ht] at hP1
    rw [hJ2] at hP1 hD1 hPu
    exact key rfl ad H1 locs1 lsA ⟨hP1, hD1, hS1, hPu⟩ hl
