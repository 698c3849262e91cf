/-! the law's loop -/
set_option maxRecDepth 16000
def tw_st64 : List Nat := [25, 82, 99, 106, 113, 140, 167, 194, 221, 238, 265, 292, 309, 316, 333, 350, 367, 384, 401, 408, 415, 452, 469, 486, 503, 520, 537, 554, 571, 598, 605, 612, 629, 636, 643, 650, 657, 664, 720, 747, 818, 835, 852, 898, 925, 952, 989, 1006, 1023, 1050, 1067, 1074, 1081, 1088, 1105, 1140, 1157, 1164, 1164, 1164, 1164, 1164, 1164, 1164]
def tw_of57 : Array Int := #[244, 317, 342, 355, 368, 405, 442, 479, 516, 541, 578, 615, 640, 653, 678, 703, 728, 753, 778, 791, 804, 853, 878, 903, 928, 953, 978, 1003, 1028, 1065, 1078, 1091, 1116, 1129, 1142, 1155, 1168, 1181, 1259, 1296, 1405, 1430, 1455, 1521, 1558, 1595, 1644, 1669, 1694, 1731, 1756, 1769, 1782, 1795, 1820, 1876, 1901]
def tw_swT (x : Int32) : Option Nat := if x.toInt < 0 ∨ 56 < x.toInt then some (tw_ix tw_c323 ((40 : Int) + 1914).toNat) else (match tw_of57[(x.toInt - 0).toNat]? with
  | some o => some (tw_ix tw_c323 ((40 : Int) + o).toNat)
  | none => none)
theorem tw_swB : (List.range 64).all (fun n => decide (tw_swT (nI n) = some (tw_st64.getD n 0))) = true := by decide +kernel
theorem tw_sw24 {ls : tw_Ls} {r : List Value} {σ : tw_S} {n : Nat} (hn : n < 64) : tw_s1 tw_c323 (40, Instr.tableswitch 1914 0 56 #[244, 317, 342, 355, 368, 405, 442, 479, 516, 541, 578, 615, 640, 653, 678, 703, 728, 753, 778, 791, 804, 853, 878, 903, 928, 953, 978, 1003, 1028, 1065, 1078, 1091, 1116, 1129, 1142, 1155, 1168, 1181, 1259, 1296, 1405, 1430, 1455, 1521, 1558, 1595, 1644, 1669, 1694, 1731, 1756, 1769, 1782, 1795, 1820, 1876, 1901], 244, 0, 0, 0, 0, 0) 24 ls (.int (nI n) :: r) σ = some (tw_st64.getD n 0, ls, r, σ) := by
  have h := of_decide_eq_true (List.all_eq_true.mp tw_swB n (List.mem_range.mpr hn))
  have key : ∀ (x : Int32) (k : Nat), tw_swT x = some k → tw_s1 tw_c323 (40, Instr.tableswitch 1914 0 56 #[244, 317, 342, 355, 368, 405, 442, 479, 516, 541, 578, 615, 640, 653, 678, 703, 728, 753, 778, 791, 804, 853, 878, 903, 928, 953, 978, 1003, 1028, 1065, 1078, 1091, 1116, 1129, 1142, 1155, 1168, 1181, 1259, 1296, 1405, 1430, 1455, 1521, 1558, 1595, 1644, 1669, 1694, 1731, 1756, 1769, 1782, 1795, 1820, 1876, 1901], 244, 0, 0, 0, 0, 0) 24 ls (.int x :: r) σ = some (k, ls, r, σ) := by
    intro x k hk
    show (if x.toInt < 0 ∨ 56 < x.toInt then some (tw_ix tw_c323 ((40 : Int) + 1914).toNat, ls, r, σ) else (match tw_of57[(x.toInt - 0).toNat]? with
      | some o => some (tw_ix tw_c323 ((40 : Int) + o).toNat, ls, r, σ)
      | none => none)) = _
    unfold tw_swT at hk
    split at hk
    · next hc =>
      rw [if_pos hc]
      injection hk with hk
      rw [hk]
    · next hc =>
      rw [if_neg hc]
      split at hk
      · injection hk with hk
        rw [hk]
      · cases hk
  exact key _ _ h
theorem nI_and63 (a : Int32) : ∃ n, n < 64 ∧ a &&& 63 = nI n := by
  refine ⟨(a.toBitVec &&& 63#32).toNat, ?_, ?_⟩
  · rw [BitVec.toNat_and]
    exact Nat.lt_of_le_of_lt Nat.and_le_right (by decide)
  · apply Int32.toBitVec_inj.mp
    show a.toBitVec &&& 63#32 = BitVec.ofNat 32 (a.toBitVec &&& 63#32).toNat
    rw [BitVec.ofNat_toNat, BitVec.setWidth_eq]
theorem nI_sub6 {L0 i : Nat} (hL : L0 ≤ 3072) (hi : i ≤ 512) : nI L0 - 6 < nI (6 * i) ↔ L0 < 6 * i + 6 := by
  by_cases h6 : 6 ≤ L0
  · obtain ⟨m, rfl⟩ : ∃ m, L0 = m + 6 := ⟨L0 - 6, by omega⟩
    have e : nI (m + 6) - 6 = nI m := by
      rw [← nI_add, show nI 6 = 6 by decide +kernel]
      exact Int32.add_sub_cancel _ _
    rw [e, nI_ltI (by omega) (by omega)]
    omega
  · have e : nI L0 - 6 < 0 := by
      have h1 := of_decide_eq_true (List.all_eq_true.mp (show (List.range 6).all (fun n => decide (nI n - 6 < 0)) = true by decide +kernel) L0 (List.mem_range.mpr (by omega)))
      exact h1
    exact ⟨fun _ => by omega, fun _ => Int32.lt_of_lt_of_le e (nI_pos' (by omega))⟩
set_option maxHeartbeats 8000000 in
theorem tw_loop {p : Program} {l : Launch} {e0 : Env} {s : State} {m : MethodId} {below : List Frame} {meth : Method} {c : Code} {n0 b0 L0 sa : Nat} {xs : Nat → Int32} {adK adV : Nat → Nat} {dC : Nat → ClassId} {dI : Nat → Nat → Nat} {cy : tw_Y} (C : tw_Cx p room_1 s m #[Value.ref b0] meth c 323 n0 b0 L0 xs adK adV dC dI cy) (hX : tw_X54 l n0 sa #[Value.ref b0] s) (hn0 : n0 = s.heap.size) (hr : meth.sig.returnType = ret) (hlocks : meth.locks = false) (hL3 : L0 ≤ 3072) : ∀ (d i x y : Nat) (I : Nat → Int32) (L : Nat → Int64) (A : Nat → Nat → Int32) (J : Nat → Nat → Int64) (rt sc : Nat), 512 ≤ i + d → i ≤ 512 → x ≤ i → y ≤ 6 * x → tm_Inv I A → tw_MW p l e0 s m #[Value.ref b0] below meth c n0 b0 L0 xs adK dC dI cy (lw_Z below #[Value.ref b0] s) x y (13, tw_l6 i, [], (I, L, tw_P 2 14 rt sc, A, J, 57)) := by
  have hL : L0 < 2 ^ 31 := by omega
  have hsl : tw_sl 57 = 3656 := by decide +kernel
  intro d
  induction d with
  | zero =>
    intro i x y I L A J rt sc hd hi hx hy h
    have hxy : 57 + x ≤ 1082 ∧ tw_sl 57 + y ≤ 11854 := ⟨by omega, by rw [hsl]; omega⟩
    have hM : tw_Cl (tw_MW p l e0 s m #[Value.ref b0] below meth c n0 b0 L0 xs adK dC dI cy (lw_Z below #[Value.ref b0] s) x y) L0 xs := tw_MW_Cl C hxy
    have ge : nI L0 - 6 < nI (6 * i) := (nI_sub6 hL3 hi).mpr (by omega)
    refine hM.1 _ _ _ _ _ (14, tw_l6 i, [.int (nI (6 * i))], (I, L, tw_P 2 14 rt sc, A, J, 57)) (show tw_c323[13]? = some (23, .iload 4, 2, 0, 0, 0, 0, 0) from rfl) rfl rfl ?_
    refine hM.1 _ _ _ _ _ (15, tw_l6 i, [.ref 900, .int (nI (6 * i))], (I, L, tw_P 2 14 rt sc, A, J, 57)) (show tw_c323[14]? = some (25, .aload_n 0, 1, 0, 0, 0, 0, 0) from rfl) rfl rfl ?_
    refine hM.2.2 _ _ _ _ _ _ _ _ _ (fun h1 h2 => ?_)
    refine hM.1 _ _ _ _ _ (16, tw_l6 i, [.int (nI L0), .int (nI (6 * i))], (I, L, tw_P 2 14 rt sc, A, J, 57)) (show tw_c323[15]? = some (26, .arraylength, 1, 0, 0, 0, 0, 0) from rfl) (by rw [← h1]; rfl) rfl ?_
    refine hM.1 _ _ _ _ _ (17, tw_l6 i, [.int 6, .int (nI L0), .int (nI (6 * i))], (I, L, tw_P 2 14 rt sc, A, J, 57)) (show tw_c323[16]? = some (27, .bipush 6, 2, 0, 0, 0, 6, 0) from rfl) rfl rfl ?_
    refine hM.1 _ _ _ _ _ (18, tw_l6 i, [.int (nI L0 - 6), .int (nI (6 * i))], (I, L, tw_P 2 14 rt sc, A, J, 57)) (show tw_c323[17]? = some (29, .isub, 1, 0, 0, 0, 0, 0) from rfl) rfl rfl ?_
    refine hM.1 _ _ _ _ _ (1166, tw_l6 i, [], (I, L, tw_P 2 14 rt sc, A, J, 57)) (show tw_c323[18]? = some (30, .if_icmp .gt 1930, 3, 1166, 0, 0, 0, 0) from rfl) (by exact if_pos ge) rfl ?_
    refine hM.1 _ _ _ _ _ (1167, tw_l6 i, [.int 1], (I, L, tw_P 2 14 rt sc, A, J, 57)) (show tw_c323[1166]? = some (1960, .iconst 1, 1, 0, 0, 0, 1, 0) from rfl) rfl rfl ?_
    exact tw_endW C hn0 hr hlocks hxy (Nat.le_refl 57)
  | succ d ih =>
    intro i x y I L A J rt sc hd hi hx hy h
    have hxy : 57 + x ≤ 1082 ∧ tw_sl 57 + y ≤ 11854 := ⟨by omega, by rw [hsl]; omega⟩
    have hM : tw_Cl (tw_MW p l e0 s m #[Value.ref b0] below meth c n0 b0 L0 xs adK dC dI cy (lw_Z below #[Value.ref b0] s) x y) L0 xs := tw_MW_Cl C hxy
    refine hM.1 _ _ _ _ _ (14, tw_l6 i, [.int (nI (6 * i))], (I, L, tw_P 2 14 rt sc, A, J, 57)) (show tw_c323[13]? = some (23, .iload 4, 2, 0, 0, 0, 0, 0) from rfl) rfl rfl ?_
    refine hM.1 _ _ _ _ _ (15, tw_l6 i, [.ref 900, .int (nI (6 * i))], (I, L, tw_P 2 14 rt sc, A, J, 57)) (show tw_c323[14]? = some (25, .aload_n 0, 1, 0, 0, 0, 0, 0) from rfl) rfl rfl ?_
    refine hM.2.2 _ _ _ _ _ _ _ _ _ (fun h1 h2 => ?_)
    refine hM.1 _ _ _ _ _ (16, tw_l6 i, [.int (nI L0), .int (nI (6 * i))], (I, L, tw_P 2 14 rt sc, A, J, 57)) (show tw_c323[15]? = some (26, .arraylength, 1, 0, 0, 0, 0, 0) from rfl) (by rw [← h1]; rfl) rfl ?_
    refine hM.1 _ _ _ _ _ (17, tw_l6 i, [.int 6, .int (nI L0), .int (nI (6 * i))], (I, L, tw_P 2 14 rt sc, A, J, 57)) (show tw_c323[16]? = some (27, .bipush 6, 2, 0, 0, 0, 6, 0) from rfl) rfl rfl ?_
    refine hM.1 _ _ _ _ _ (18, tw_l6 i, [.int (nI L0 - 6), .int (nI (6 * i))], (I, L, tw_P 2 14 rt sc, A, J, 57)) (show tw_c323[17]? = some (29, .isub, 1, 0, 0, 0, 0, 0) from rfl) rfl rfl ?_
    by_cases g : L0 < 6 * i + 6
    · have ge : nI L0 - 6 < nI (6 * i) := (nI_sub6 hL3 hi).mpr g
      refine hM.1 _ _ _ _ _ (1166, tw_l6 i, [], (I, L, tw_P 2 14 rt sc, A, J, 57)) (show tw_c323[18]? = some (30, .if_icmp .gt 1930, 3, 1166, 0, 0, 0, 0) from rfl) (by exact if_pos ge) rfl ?_
      refine hM.1 _ _ _ _ _ (1167, tw_l6 i, [.int 1], (I, L, tw_P 2 14 rt sc, A, J, 57)) (show tw_c323[1166]? = some (1960, .iconst 1, 1, 0, 0, 0, 1, 0) from rfl) rfl rfl ?_
      exact tw_endW C hn0 hr hlocks hxy (Nat.le_refl 57)
    · have ge : ¬ nI L0 - 6 < nI (6 * i) := fun q => g ((nI_sub6 hL3 hi).mp q)
      have hi5 : 6 * i + 5 < L0 := by omega
      have KX : ∀ (x y : Nat), x ≤ i + 1 → y ≤ 6 * x → ∀ (I : Nat → Int32) (L : Nat → Int64) (A : Nat → Nat → Int32) (J : Nat → Nat → Int64) (rt sc : Nat), tm_Inv I A → tw_MW p l e0 s m #[Value.ref b0] below meth c n0 b0 L0 xs adK dC dI cy (lw_Z below #[Value.ref b0] s) x y (1164, tw_l6 i, [], (I, L, tw_P 2 14 rt sc, A, J, 57)) := by
        intro x y hx hy I L A J rt sc h
        have hM : tw_Cl (tw_MW p l e0 s m #[Value.ref b0] below meth c n0 b0 L0 xs adK dC dI cy (lw_Z below #[Value.ref b0] s) x y) L0 xs := tw_MW_Cl C ⟨by omega, by rw [hsl]; omega⟩
        refine hM.1 _ _ _ _ _ (1165, [some (.ref 900), some (.ref 0), some (.ref 44), some (.ref 56), some (.int (nI (6 * i) + 6)), none, none], [], (I, L, tw_P 2 14 rt sc, A, J, 57)) (show tw_c323[1164]? = some (1954, .iinc 4 6, 3, 0, 0, 0, 6, 0) from rfl) rfl rfl ?_
        refine hM.1 _ _ _ _ _ (13, [some (.ref 900), some (.ref 0), some (.ref 44), some (.ref 56), some (.int (nI (6 * i) + 6)), none, none], [], (I, L, tw_P 2 14 rt sc, A, J, 57)) (show tw_c323[1165]? = some (1957, .goto (-1934), 3, 13, 0, 0, 0, 0) from rfl) rfl rfl ?_
        have e : nI (6 * i) + 6 = nI (6 * (i + 1)) := by
          rw [show (6 : Int32) = nI 6 by decide +kernel, nI_add]
          exact congrArg nI (by omega)
        rw [e]
        exact ih (i + 1) x y I L A J rt sc (by omega) (by omega) hx hy h
      have K := KX x y (by omega) hy
      refine hM.1 _ _ _ _ _ (19, tw_l6 i, [], (I, L, tw_P 2 14 rt sc, A, J, 57)) (show tw_c323[18]? = some (30, .if_icmp .gt 1930, 3, 1166, 0, 0, 0, 0) from rfl) (by exact if_neg ge) rfl ?_
      refine hM.2.2 _ _ _ _ _ _ _ _ _ (fun h1 h2 => ?_)
      refine hM.1 _ _ _ _ _ (20, tw_l6 i, [.ref 900], (I, L, tw_P 2 14 rt sc, A, J, 57)) (show tw_c323[19]? = some (33, .aload_n 0, 1, 0, 0, 0, 0, 0) from rfl) rfl rfl ?_
      refine hM.1 _ _ _ _ _ (21, tw_l6 i, [.int (nI (6 * i)), .ref 900], (I, L, tw_P 2 14 rt sc, A, J, 57)) (show tw_c323[20]? = some (34, .iload 4, 2, 0, 0, 0, 0, 0) from rfl) rfl rfl ?_
      refine hM.1 _ _ _ _ _ (22, tw_l6 i, [.int (xs (6 * i))], (I, L, tw_P 2 14 rt sc, A, J, 57)) (show tw_c323[21]? = some (36, .iaload, 1, 0, 0, 0, 0, 0) from rfl) (tw_xld h1 h2 (by omega) hL) rfl ?_
      refine hM.1 _ _ _ _ _ (23, tw_l6 i, [.int 63, .int (xs (6 * i))], (I, L, tw_P 2 14 rt sc, A, J, 57)) (show tw_c323[22]? = some (37, .bipush 63, 2, 0, 0, 0, 63, 0) from rfl) rfl rfl ?_
      refine hM.1 _ _ _ _ _ (24, tw_l6 i, [.int (xs (6 * i) &&& 63)], (I, L, tw_P 2 14 rt sc, A, J, 57)) (show tw_c323[23]? = some (39, .iand, 1, 0, 0, 0, 0, 0) from rfl) rfl rfl ?_
      obtain ⟨n, hn, hv⟩ := nI_and63 (xs (6 * i))
      rw [hv]
      refine hM.1 _ _ _ _ _ _ (show tw_c323[24]? = some (40, .tableswitch 1914 0 56 #[244, 317, 342, 355, 368, 405, 442, 479, 516, 541, 578, 615, 640, 653, 678, 703, 728, 753, 778, 791, 804, 853, 878, 903, 928, 953, 978, 1003, 1028, 1065, 1078, 1091, 1116, 1129, 1142, 1155, 1168, 1181, 1259, 1296, 1405, 1430, 1455, 1521, 1558, 1595, 1644, 1669, 1694, 1731, 1756, 1769, 1782, 1795, 1820, 1876, 1901], 244, 0, 0, 0, 0, 0) from rfl) (tw_sw24 hn) rfl ?_
      match n, hn with
      | 0, _ => exact tw_case_0 hM hi5 hL h K
      | 1, _ => exact tw_case_1 hM hi5 hL h K (fun I L A J sc h => tw_swapW (K I L (tp_swp A) J 2 (tw_sw sc) h))
      | 2, _ => exact tw_case_2 hM hi5 hL h K
      | 3, _ => exact tw_case_3 hM hi5 hL h K
      | 4, _ => exact tw_case_4 hM hi5 hL h K
      | 5, _ => exact tw_case_5 hM hi5 hL h K
      | 6, _ => exact tw_case_6 hM hi5 hL h K
      | 7, _ => exact tw_case_7 hM hi5 hL h K
      | 8, _ => exact tw_case_8 hM hi5 hL h K
      | 9, _ => exact tw_case_9 hM hi5 hL h K
      | 10, _ => exact tw_case_10 hM hi5 hL h K
      | 11, _ => exact tw_case_11 hM hi5 hL h K
      | 12, _ => exact tw_case_12 hM hi5 hL h K
      | 13, _ => exact tw_case_13 hM hi5 hL h K
      | 14, _ => exact tw_case_14 hM hi5 hL h K
      | 15, _ => exact tw_case_15 hM hi5 hL h K
      | 16, _ => exact tw_case_16 hM hi5 hL h K
      | 17, _ => exact tw_case_17 hM hi5 hL h K
      | 18, _ => exact tw_case_18 hM hi5 hL h K
      | 19, _ => exact tw_case_19 hM hi5 hL h K
      | 20, _ => exact tw_case_20 hM hi5 hL h K
      | 21, _ => exact tw_case_21 hM hi5 hL h K
      | 22, _ => exact tw_case_22 hM hi5 hL h K
      | 23, _ => exact tw_case_23 hM hi5 hL h K
      | 24, _ => exact tw_case_24 hM hi5 hL h K
      | 25, _ => exact tw_case_25 hM hi5 hL h K
      | 26, _ => exact tw_case_26 hM hi5 hL h K
      | 27, _ => exact tw_case_27 hM hi5 hL h K
      | 28, _ => exact tw_case_28 hM hi5 hL h K
      | 29, _ => exact tw_case_29 hM hi5 hL h K
      | 30, _ => exact tw_case_30 hM hi5 hL h K
      | 31, _ => exact tw_case_31 hM hi5 hL h K
      | 32, _ => exact tw_case_32 hM hi5 hL h K
      | 33, _ => exact tw_case_33 hM hi5 hL h K
      | 34, _ => exact tw_case_34 hM hi5 hL h K
      | 35, _ => exact tw_case_35 hM hi5 hL h K
      | 36, _ => exact tw_case_36 hM hi5 hL h K
      | 37, _ => exact tw_case_37 hM hi5 hL h K
      | 38, _ => exact tw_case_38 hM hi5 hL h K
      | 39, _ => exact tw_case_39 hM hi5 hL h K
      | 40, _ => exact tw_case_40 hM hi5 hL h K
      | 41, _ => exact tw_case_41 hM hi5 hL h K
      | 42, _ => exact tw_case_42 hM hi5 hL h K
      | 43, _ => exact tw_case_43 hM hi5 hL h K
      | 44, _ => exact tw_case_44 hM hi5 hL h K
      | 45, _ => exact tw_case_45 hM hi5 hL h K
      | 46, _ => exact tw_case_46 hM hi5 hL h K
      | 47, _ => exact tw_case_47 hM hi5 hL h K
      | 48, _ => exact tw_case_48 hM hi5 hL h K
      | 49, _ => exact tw_case_49 hM hi5 hL h K
      | 50, _ => exact tw_case_50 hM hi5 hL h K
      | 51, _ => exact tw_case_51 hM hi5 hL h K
      | 52, _ => exact tw_case_52 hM hi5 hL h K
      | 53, _ => exact tw_case_53 hM hi5 hL h K
      | 54, _ => exact tw_case_54 C hX ⟨by omega, by rw [hsl]; omega⟩ hi5 hL h (KX (x + 1) (y + 6) (by omega) (by omega))
      | 55, _ => exact tw_case_55 hM hi5 hL h K
      | 56, _ => exact tw_case_56 hM hi5 hL h K
      | 57, _ => exact K _ _ _ _ _ _ h
      | 58, _ => exact K _ _ _ _ _ _ h
      | 59, _ => exact K _ _ _ _ _ _ h
      | 60, _ => exact K _ _ _ _ _ _ h
      | 61, _ => exact K _ _ _ _ _ _ h
      | 62, _ => exact K _ _ _ _ _ _ h
      | 63, _ => exact K _ _ _ _ _ _ h
      | n + 64, hn => exact absurd hn (by omega)
