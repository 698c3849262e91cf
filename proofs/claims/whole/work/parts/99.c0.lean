/-! the law's calls, one by one (by wip/gen/mklaw.py) -/
set_option maxRecDepth 16000
theorem tw_case_0 {M : tw_C → Prop} {L0 : Nat} {xs : Nat → Int32} (hM : tw_Cl M L0 xs) {i : Nat} (hi : 6 * i + 5 < L0) (hL : L0 < 2 ^ 31) {I : Nat → Int32} {L : Nat → Int64} {A : Nat → Nat → Int32} {J : Nat → Nat → Int64} {rt sc : Nat} (h : tm_Inv I A) (K : ∀ (I : Nat → Int32) (L : Nat → Int64) (A : Nat → Nat → Int32) (J : Nat → Nat → Int64) (rt sc : Nat), tm_Inv I A → M (1164, tw_l6 i, [], (I, L, tw_P 2 14 rt sc, A, J, 57))) : M (25, tw_l6 i, [], (I, L, tw_P 2 14 rt sc, A, J, 57)) := by
  obtain ⟨x, I1, A1, h1, I2, A2, h2, hI⟩ := tm_q_feed h (xs (6 * i + 1)) (xs (6 * i + 2)) (xs (6 * i + 3)) (xs (6 * i + 4)) (xs (6 * i + 5))
  refine hM.1 _ _ _ _ _ (26, tw_l6 i, [.ref 0], (I, L, tw_P 2 14 rt sc, A, J, 57)) (show tw_c323[25]? = some (284, .aload_n 1, 1, 0, 0, 0, 0, 0) from rfl) rfl rfl ?_
  refine tw_ldM hM (k := 26) (k5 := 31) (show (tw_c323.drop 26).take 5 = [(285, .aload_n 0, 1, 0, 0, 0, 0, 0), (286, .iload 4, 2, 0, 0, 0, 0, 0), (288, .iconst 1, 1, 0, 0, 0, 1, 0), (289, .iadd, 1, 0, 0, 0, 0, 0), (290, .iaload, 1, 0, 0, 0, 0, 0)] from rfl) rfl (j := 1) rfl (by omega) hL ?_
  refine tw_ldM hM (k := 31) (k5 := 36) (show (tw_c323.drop 31).take 5 = [(291, .aload_n 0, 1, 0, 0, 0, 0, 0), (292, .iload 4, 2, 0, 0, 0, 0, 0), (294, .iconst 2, 1, 0, 0, 0, 2, 0), (295, .iadd, 1, 0, 0, 0, 0, 0), (296, .iaload, 1, 0, 0, 0, 0, 0)] from rfl) rfl (j := 2) rfl (by omega) hL ?_
  refine tw_ldM hM (k := 36) (k5 := 41) (show (tw_c323.drop 36).take 5 = [(297, .aload_n 0, 1, 0, 0, 0, 0, 0), (298, .iload 4, 2, 0, 0, 0, 0, 0), (300, .iconst 3, 1, 0, 0, 0, 3, 0), (301, .iadd, 1, 0, 0, 0, 0, 0), (302, .iaload, 1, 0, 0, 0, 0, 0)] from rfl) rfl (j := 3) rfl (by omega) hL ?_
  refine tw_ldM hM (k := 41) (k5 := 46) (show (tw_c323.drop 41).take 5 = [(303, .aload_n 0, 1, 0, 0, 0, 0, 0), (304, .iload 4, 2, 0, 0, 0, 0, 0), (306, .iconst 4, 1, 0, 0, 0, 4, 0), (307, .iadd, 1, 0, 0, 0, 0, 0), (308, .iaload, 1, 0, 0, 0, 0, 0)] from rfl) rfl (j := 4) rfl (by omega) hL ?_
  refine tw_ldM hM (k := 46) (k5 := 51) (show (tw_c323.drop 46).take 5 = [(309, .aload_n 0, 1, 0, 0, 0, 0, 0), (310, .iload 4, 2, 0, 0, 0, 0, 0), (312, .iconst 5, 1, 0, 0, 0, 5, 0), (313, .iadd, 1, 0, 0, 0, 0, 0), (314, .iaload, 1, 0, 0, 0, 0, 0)] from rfl) rfl (j := 5) rfl (by omega) hL ?_
  refine hM.2.1 51 _ _ _ _ _ _ _ _ (show tw_c323[51]? = some (315, .invokevirtual 19, 3, 112, 5, 81, 0, 0) from rfl) rfl rfl rfl (e_X9_feed (I) L A J 2 14 rt sc (xs (6 * i + 1)) (xs (6 * i + 2)) (xs (6 * i + 3)) (xs (6 * i + 4)) (xs (6 * i + 5)) _ h1) rfl (Or.inl rfl) ?_
  show M (52, tw_l6 i, [.int x], ((I1), L, tw_P 2 14 rt sc, (A1), J, 57))
  refine hM.1 _ _ _ _ _ (53, tw_l6 i, [.ref 44, .int x], ((I1), L, tw_P 2 14 rt sc, (A1), J, 57)) (show tw_c323[52]? = some (318, .aload_n 2, 1, 0, 0, 0, 0, 0) from rfl) rfl rfl ?_
  refine tw_ldM hM (k := 53) (k5 := 58) (show (tw_c323.drop 53).take 5 = [(319, .aload_n 0, 1, 0, 0, 0, 0, 0), (320, .iload 4, 2, 0, 0, 0, 0, 0), (322, .iconst 1, 1, 0, 0, 0, 1, 0), (323, .iadd, 1, 0, 0, 0, 0, 0), (324, .iaload, 1, 0, 0, 0, 0, 0)] from rfl) rfl (j := 1) rfl (by omega) hL ?_
  refine tw_ldM hM (k := 58) (k5 := 63) (show (tw_c323.drop 58).take 5 = [(325, .aload_n 0, 1, 0, 0, 0, 0, 0), (326, .iload 4, 2, 0, 0, 0, 0, 0), (328, .iconst 2, 1, 0, 0, 0, 2, 0), (329, .iadd, 1, 0, 0, 0, 0, 0), (330, .iaload, 1, 0, 0, 0, 0, 0)] from rfl) rfl (j := 2) rfl (by omega) hL ?_
  refine tw_ldM hM (k := 63) (k5 := 68) (show (tw_c323.drop 63).take 5 = [(331, .aload_n 0, 1, 0, 0, 0, 0, 0), (332, .iload 4, 2, 0, 0, 0, 0, 0), (334, .iconst 3, 1, 0, 0, 0, 3, 0), (335, .iadd, 1, 0, 0, 0, 0, 0), (336, .iaload, 1, 0, 0, 0, 0, 0)] from rfl) rfl (j := 3) rfl (by omega) hL ?_
  refine tw_ldM hM (k := 68) (k5 := 73) (show (tw_c323.drop 68).take 5 = [(337, .aload_n 0, 1, 0, 0, 0, 0, 0), (338, .iload 4, 2, 0, 0, 0, 0, 0), (340, .iconst 4, 1, 0, 0, 0, 4, 0), (341, .iadd, 1, 0, 0, 0, 0, 0), (342, .iaload, 1, 0, 0, 0, 0, 0)] from rfl) rfl (j := 4) rfl (by omega) hL ?_
  refine tw_ldM hM (k := 73) (k5 := 78) (show (tw_c323.drop 73).take 5 = [(343, .aload_n 0, 1, 0, 0, 0, 0, 0), (344, .iload 4, 2, 0, 0, 0, 0, 0), (346, .iconst 5, 1, 0, 0, 0, 5, 0), (347, .iadd, 1, 0, 0, 0, 0, 0), (348, .iaload, 1, 0, 0, 0, 0, 0)] from rfl) rfl (j := 5) rfl (by omega) hL ?_
  refine hM.2.1 78 _ _ _ _ _ _ _ _ (show tw_c323[78]? = some (349, .invokevirtual 23, 3, 201, 5, 91, 0, 0) from rfl) rfl rfl rfl (e_X10_feed ((I1)) L (A1) J 2 14 rt sc (xs (6 * i + 1)) (xs (6 * i + 2)) (xs (6 * i + 3)) (xs (6 * i + 4)) (xs (6 * i + 5)) _ h2) rfl (Or.inl rfl) ?_
  show M (79, tw_l6 i, [.int x, .int x], ((I2), L, tw_P 2 14 rt sc, (A2), J, 57))
  refine hM.1 _ _ _ _ _ _ (show tw_c323[79]? = some (352, .if_icmp .eq 1602, 3, 1164, 0, 0, 0, 0) from rfl) (by exact if_pos rfl) rfl ?_
  exact K _ _ _ _ _ _ hI
theorem tw_case_1 {M : tw_C → Prop} {L0 : Nat} {xs : Nat → Int32} (hM : tw_Cl M L0 xs) {i : Nat} (hi : 6 * i + 5 < L0) (hL : L0 < 2 ^ 31) {I : Nat → Int32} {L : Nat → Int64} {A : Nat → Nat → Int32} {J : Nat → Nat → Int64} {rt sc : Nat} (h : tm_Inv I A) (K : ∀ (I : Nat → Int32) (L : Nat → Int64) (A : Nat → Nat → Int32) (J : Nat → Nat → Int64) (rt sc : Nat), tm_Inv I A → M (1164, tw_l6 i, [], (I, L, tw_P 2 14 rt sc, A, J, 57))) (KS : ∀ (I : Nat → Int32) (L : Nat → Int64) (A : Nat → Nat → Int32) (J : Nat → Nat → Int64) (sc : Nat), tm_Inv I (tp_swp A) → M (1164, tw_l6 i, [], (I, L, tw_P 14 2 14 sc, A, J, 57))) : M (82, tw_l6 i, [], (I, L, tw_P 2 14 rt sc, A, J, 57)) := by
  obtain ⟨x, I1, L1, A1, J1, tw, dr, rt1, h1, I2, A2, h2, hI⟩ := tm_q_town h L J rt (xs (6 * i + 1))
  refine hM.1 _ _ _ _ _ (83, tw_l6 i, [.ref 0], (I, L, tw_P 2 14 rt sc, A, J, 57)) (show tw_c323[82]? = some (357, .aload_n 1, 1, 0, 0, 0, 0, 0) from rfl) rfl rfl ?_
  refine tw_ldM hM (k := 83) (k5 := 88) (show (tw_c323.drop 83).take 5 = [(358, .aload_n 0, 1, 0, 0, 0, 0, 0), (359, .iload 4, 2, 0, 0, 0, 0, 0), (361, .iconst 1, 1, 0, 0, 0, 1, 0), (362, .iadd, 1, 0, 0, 0, 0, 0), (363, .iaload, 1, 0, 0, 0, 0, 0)] from rfl) rfl (j := 1) rfl (by omega) hL ?_
  refine hM.2.1 88 _ _ _ _ _ _ _ _ (show tw_c323[88]? = some (364, .invokevirtual 24, 3, 114, 1, 81, 0, 0) from rfl) rfl rfl rfl (e_X9_town (I) L A J rt sc (xs (6 * i + 1)) _ h1) rfl (Or.inl rfl) ?_
  show M (89, tw_l6 i, [.int x], ((I1), (L1), tw_P (tw) (dr) (rt1) sc, (A1), (J1), 57))
  refine hM.1 _ _ _ _ _ (90, tw_l6 i, [.ref 44, .int x], ((I1), (L1), tw_P (tw) (dr) (rt1) sc, (A1), (J1), 57)) (show tw_c323[89]? = some (367, .aload_n 2, 1, 0, 0, 0, 0, 0) from rfl) rfl rfl ?_
  refine tw_ldM hM (k := 90) (k5 := 95) (show (tw_c323.drop 90).take 5 = [(368, .aload_n 0, 1, 0, 0, 0, 0, 0), (369, .iload 4, 2, 0, 0, 0, 0, 0), (371, .iconst 1, 1, 0, 0, 0, 1, 0), (372, .iadd, 1, 0, 0, 0, 0, 0), (373, .iaload, 1, 0, 0, 0, 0, 0)] from rfl) rfl (j := 1) rfl (by omega) hL ?_
  refine hM.2.1 95 _ _ _ _ _ _ _ _ (show tw_c323[95]? = some (374, .invokevirtual 27, 3, 221, 1, 91, 0, 0) from rfl) rfl rfl rfl (e_X10_town ((I1)) (L1) (A1) (J1) (tw) (dr) (rt1) sc (xs (6 * i + 1)) _ h2) rfl (Or.inl rfl) ?_
  show M (96, tw_l6 i, [.int x, .int x], ((I2), (L1), tw_P (tw) (dr) (rt1) sc, (A2), (J1), 57))
  refine hM.1 _ _ _ _ _ _ (show tw_c323[96]? = some (377, .if_icmp .eq 1577, 3, 1164, 0, 0, 0, 0) from rfl) (by exact if_pos rfl) rfl ?_
  rcases hI with ⟨rfl, rfl, _, hI⟩ | ⟨rfl, rfl, rfl, hI⟩
  · exact K _ _ _ _ _ _ hI
  · exact KS _ _ _ _ _ hI
theorem tw_case_2 {M : tw_C → Prop} {L0 : Nat} {xs : Nat → Int32} (hM : tw_Cl M L0 xs) {i : Nat} (hi : 6 * i + 5 < L0) (hL : L0 < 2 ^ 31) {I : Nat → Int32} {L : Nat → Int64} {A : Nat → Nat → Int32} {J : Nat → Nat → Int64} {rt sc : Nat} (h : tm_Inv I A) (K : ∀ (I : Nat → Int32) (L : Nat → Int64) (A : Nat → Nat → Int32) (J : Nat → Nat → Int64) (rt sc : Nat), tm_Inv I A → M (1164, tw_l6 i, [], (I, L, tw_P 2 14 rt sc, A, J, 57))) : M (99, tw_l6 i, [], (I, L, tw_P 2 14 rt sc, A, J, 57)) := by
  obtain ⟨x, h1, I2, h2, hI⟩ := tm_q_fault h 
  refine hM.1 _ _ _ _ _ (100, tw_l6 i, [.ref 0], (I, L, tw_P 2 14 rt sc, A, J, 57)) (show tw_c323[99]? = some (382, .aload_n 1, 1, 0, 0, 0, 0, 0) from rfl) rfl rfl ?_
  refine hM.2.1 100 _ _ _ _ _ _ _ _ (show tw_c323[100]? = some (383, .invokevirtual 28, 3, 115, 0, 81, 0, 0) from rfl) rfl rfl rfl (e_X9_fault (I) L A J 2 14 rt sc  _ h1) rfl (Or.inl rfl) ?_
  show M (101, tw_l6 i, [.int x], (I, L, tw_P 2 14 rt sc, A, J, 57))
  refine hM.1 _ _ _ _ _ (102, tw_l6 i, [.ref 44, .int x], (I, L, tw_P 2 14 rt sc, A, J, 57)) (show tw_c323[101]? = some (386, .aload_n 2, 1, 0, 0, 0, 0, 0) from rfl) rfl rfl ?_
  refine hM.2.1 102 _ _ _ _ _ _ _ _ (show tw_c323[102]? = some (387, .invokevirtual 32, 3, 233, 0, 91, 0, 0) from rfl) rfl rfl rfl (e_X10_fault (I) L A J 2 14 rt sc  _ h2) rfl (Or.inl rfl) ?_
  show M (103, tw_l6 i, [.int x, .int x], ((I2), L, tw_P 2 14 rt sc, A, J, 57))
  refine hM.1 _ _ _ _ _ _ (show tw_c323[103]? = some (390, .if_icmp .eq 1564, 3, 1164, 0, 0, 0, 0) from rfl) (by exact if_pos rfl) rfl ?_
  exact K _ _ _ _ _ _ hI
theorem tw_case_3 {M : tw_C → Prop} {L0 : Nat} {xs : Nat → Int32} (hM : tw_Cl M L0 xs) {i : Nat} (hi : 6 * i + 5 < L0) (hL : L0 < 2 ^ 31) {I : Nat → Int32} {L : Nat → Int64} {A : Nat → Nat → Int32} {J : Nat → Nat → Int64} {rt sc : Nat} (h : tm_Inv I A) (K : ∀ (I : Nat → Int32) (L : Nat → Int64) (A : Nat → Nat → Int32) (J : Nat → Nat → Int64) (rt sc : Nat), tm_Inv I A → M (1164, tw_l6 i, [], (I, L, tw_P 2 14 rt sc, A, J, 57))) : M (106, tw_l6 i, [], (I, L, tw_P 2 14 rt sc, A, J, 57)) := by
  obtain ⟨x, h1, I2, h2, hI⟩ := tm_q_where h 
  refine hM.1 _ _ _ _ _ (107, tw_l6 i, [.ref 0], (I, L, tw_P 2 14 rt sc, A, J, 57)) (show tw_c323[106]? = some (395, .aload_n 1, 1, 0, 0, 0, 0, 0) from rfl) rfl rfl ?_
  refine hM.2.1 107 _ _ _ _ _ _ _ _ (show tw_c323[107]? = some (396, .invokevirtual 33, 3, 116, 0, 81, 0, 0) from rfl) rfl rfl rfl (e_X9_where (I) L A J 2 14 rt sc  _ h1) rfl (Or.inl rfl) ?_
  show M (108, tw_l6 i, [.int x], (I, L, tw_P 2 14 rt sc, A, J, 57))
  refine hM.1 _ _ _ _ _ (109, tw_l6 i, [.ref 44, .int x], (I, L, tw_P 2 14 rt sc, A, J, 57)) (show tw_c323[108]? = some (399, .aload_n 2, 1, 0, 0, 0, 0, 0) from rfl) rfl rfl ?_
  refine hM.2.1 109 _ _ _ _ _ _ _ _ (show tw_c323[109]? = some (400, .invokevirtual 36, 3, 234, 0, 91, 0, 0) from rfl) rfl rfl rfl (e_X10_where (I) L A J 2 14 rt sc  _ h2) rfl (Or.inl rfl) ?_
  show M (110, tw_l6 i, [.int x, .int x], ((I2), L, tw_P 2 14 rt sc, A, J, 57))
  refine hM.1 _ _ _ _ _ _ (show tw_c323[110]? = some (403, .if_icmp .eq 1551, 3, 1164, 0, 0, 0, 0) from rfl) (by exact if_pos rfl) rfl ?_
  exact K _ _ _ _ _ _ hI
theorem tw_case_4 {M : tw_C → Prop} {L0 : Nat} {xs : Nat → Int32} (hM : tw_Cl M L0 xs) {i : Nat} (hi : 6 * i + 5 < L0) (hL : L0 < 2 ^ 31) {I : Nat → Int32} {L : Nat → Int64} {A : Nat → Nat → Int32} {J : Nat → Nat → Int64} {rt sc : Nat} (h : tm_Inv I A) (K : ∀ (I : Nat → Int32) (L : Nat → Int64) (A : Nat → Nat → Int32) (J : Nat → Nat → Int64) (rt sc : Nat), tm_Inv I A → M (1164, tw_l6 i, [], (I, L, tw_P 2 14 rt sc, A, J, 57))) : M (113, tw_l6 i, [], (I, L, tw_P 2 14 rt sc, A, J, 57)) := by
  obtain ⟨x, I1, h1, I2, h2, hI⟩ := tm_q_person h (xs (6 * i + 1)) (xs (6 * i + 2))
  refine hM.1 _ _ _ _ _ (114, tw_l6 i, [.ref 0], (I, L, tw_P 2 14 rt sc, A, J, 57)) (show tw_c323[113]? = some (408, .aload_n 1, 1, 0, 0, 0, 0, 0) from rfl) rfl rfl ?_
  refine tw_ldM hM (k := 114) (k5 := 119) (show (tw_c323.drop 114).take 5 = [(409, .aload_n 0, 1, 0, 0, 0, 0, 0), (410, .iload 4, 2, 0, 0, 0, 0, 0), (412, .iconst 1, 1, 0, 0, 0, 1, 0), (413, .iadd, 1, 0, 0, 0, 0, 0), (414, .iaload, 1, 0, 0, 0, 0, 0)] from rfl) rfl (j := 1) rfl (by omega) hL ?_
  refine tw_ldM hM (k := 119) (k5 := 124) (show (tw_c323.drop 119).take 5 = [(415, .aload_n 0, 1, 0, 0, 0, 0, 0), (416, .iload 4, 2, 0, 0, 0, 0, 0), (418, .iconst 2, 1, 0, 0, 0, 2, 0), (419, .iadd, 1, 0, 0, 0, 0, 0), (420, .iaload, 1, 0, 0, 0, 0, 0)] from rfl) rfl (j := 2) rfl (by omega) hL ?_
  refine hM.2.1 124 _ _ _ _ _ _ _ _ (show tw_c323[124]? = some (421, .invokevirtual 37, 3, 117, 2, 81, 0, 0) from rfl) rfl rfl rfl (e_X9_person (I) L A J rt sc (xs (6 * i + 1)) (xs (6 * i + 2)) _ h1) rfl (Or.inl rfl) ?_
  show M (125, tw_l6 i, [.int x], ((I1), L, tw_P 2 14 rt sc, A, J, 57))
  refine hM.1 _ _ _ _ _ (126, tw_l6 i, [.ref 44, .int x], ((I1), L, tw_P 2 14 rt sc, A, J, 57)) (show tw_c323[125]? = some (424, .aload_n 2, 1, 0, 0, 0, 0, 0) from rfl) rfl rfl ?_
  refine tw_ldM hM (k := 126) (k5 := 131) (show (tw_c323.drop 126).take 5 = [(425, .aload_n 0, 1, 0, 0, 0, 0, 0), (426, .iload 4, 2, 0, 0, 0, 0, 0), (428, .iconst 1, 1, 0, 0, 0, 1, 0), (429, .iadd, 1, 0, 0, 0, 0, 0), (430, .iaload, 1, 0, 0, 0, 0, 0)] from rfl) rfl (j := 1) rfl (by omega) hL ?_
  refine tw_ldM hM (k := 131) (k5 := 136) (show (tw_c323.drop 131).take 5 = [(431, .aload_n 0, 1, 0, 0, 0, 0, 0), (432, .iload 4, 2, 0, 0, 0, 0, 0), (434, .iconst 2, 1, 0, 0, 0, 2, 0), (435, .iadd, 1, 0, 0, 0, 0, 0), (436, .iaload, 1, 0, 0, 0, 0, 0)] from rfl) rfl (j := 2) rfl (by omega) hL ?_
  refine hM.2.1 136 _ _ _ _ _ _ _ _ (show tw_c323[136]? = some (437, .invokevirtual 41, 3, 251, 2, 91, 0, 0) from rfl) rfl rfl rfl (e_X10_person ((I1)) L A J 2 14 rt sc (xs (6 * i + 1)) (xs (6 * i + 2)) _ h2) rfl (Or.inl rfl) ?_
  show M (137, tw_l6 i, [.int x, .int x], ((I2), L, tw_P 2 14 rt sc, A, J, 57))
  refine hM.1 _ _ _ _ _ _ (show tw_c323[137]? = some (440, .if_icmp .eq 1514, 3, 1164, 0, 0, 0, 0) from rfl) (by exact if_pos rfl) rfl ?_
  exact K _ _ _ _ _ _ hI
theorem tw_case_5 {M : tw_C → Prop} {L0 : Nat} {xs : Nat → Int32} (hM : tw_Cl M L0 xs) {i : Nat} (hi : 6 * i + 5 < L0) (hL : L0 < 2 ^ 31) {I : Nat → Int32} {L : Nat → Int64} {A : Nat → Nat → Int32} {J : Nat → Nat → Int64} {rt sc : Nat} (h : tm_Inv I A) (K : ∀ (I : Nat → Int32) (L : Nat → Int64) (A : Nat → Nat → Int32) (J : Nat → Nat → Int64) (rt sc : Nat), tm_Inv I A → M (1164, tw_l6 i, [], (I, L, tw_P 2 14 rt sc, A, J, 57))) : M (140, tw_l6 i, [], (I, L, tw_P 2 14 rt sc, A, J, 57)) := by
  obtain ⟨x, I1, h1, I2, h2, hI⟩ := tm_q_sight h (xs (6 * i + 1)) (xs (6 * i + 2))
  refine hM.1 _ _ _ _ _ (141, tw_l6 i, [.ref 0], (I, L, tw_P 2 14 rt sc, A, J, 57)) (show tw_c323[140]? = some (445, .aload_n 1, 1, 0, 0, 0, 0, 0) from rfl) rfl rfl ?_
  refine tw_ldM hM (k := 141) (k5 := 146) (show (tw_c323.drop 141).take 5 = [(446, .aload_n 0, 1, 0, 0, 0, 0, 0), (447, .iload 4, 2, 0, 0, 0, 0, 0), (449, .iconst 1, 1, 0, 0, 0, 1, 0), (450, .iadd, 1, 0, 0, 0, 0, 0), (451, .iaload, 1, 0, 0, 0, 0, 0)] from rfl) rfl (j := 1) rfl (by omega) hL ?_
  refine tw_ldM hM (k := 146) (k5 := 151) (show (tw_c323.drop 146).take 5 = [(452, .aload_n 0, 1, 0, 0, 0, 0, 0), (453, .iload 4, 2, 0, 0, 0, 0, 0), (455, .iconst 2, 1, 0, 0, 0, 2, 0), (456, .iadd, 1, 0, 0, 0, 0, 0), (457, .iaload, 1, 0, 0, 0, 0, 0)] from rfl) rfl (j := 2) rfl (by omega) hL ?_
  refine hM.2.1 151 _ _ _ _ _ _ _ _ (show tw_c323[151]? = some (458, .invokevirtual 42, 3, 118, 2, 81, 0, 0) from rfl) rfl rfl rfl (e_X9_sight (I) L A J rt sc (xs (6 * i + 1)) (xs (6 * i + 2)) _ h1) rfl (Or.inl rfl) ?_
  show M (152, tw_l6 i, [.int x], ((I1), L, tw_P 2 14 rt sc, A, J, 57))
  refine hM.1 _ _ _ _ _ (153, tw_l6 i, [.ref 44, .int x], ((I1), L, tw_P 2 14 rt sc, A, J, 57)) (show tw_c323[152]? = some (461, .aload_n 2, 1, 0, 0, 0, 0, 0) from rfl) rfl rfl ?_
  refine tw_ldM hM (k := 153) (k5 := 158) (show (tw_c323.drop 153).take 5 = [(462, .aload_n 0, 1, 0, 0, 0, 0, 0), (463, .iload 4, 2, 0, 0, 0, 0, 0), (465, .iconst 1, 1, 0, 0, 0, 1, 0), (466, .iadd, 1, 0, 0, 0, 0, 0), (467, .iaload, 1, 0, 0, 0, 0, 0)] from rfl) rfl (j := 1) rfl (by omega) hL ?_
  refine tw_ldM hM (k := 158) (k5 := 163) (show (tw_c323.drop 158).take 5 = [(468, .aload_n 0, 1, 0, 0, 0, 0, 0), (469, .iload 4, 2, 0, 0, 0, 0, 0), (471, .iconst 2, 1, 0, 0, 0, 2, 0), (472, .iadd, 1, 0, 0, 0, 0, 0), (473, .iaload, 1, 0, 0, 0, 0, 0)] from rfl) rfl (j := 2) rfl (by omega) hL ?_
  refine hM.2.1 163 _ _ _ _ _ _ _ _ (show tw_c323[163]? = some (474, .invokevirtual 45, 3, 252, 2, 91, 0, 0) from rfl) rfl rfl rfl (e_X10_sight ((I1)) L A J 2 14 rt sc (xs (6 * i + 1)) (xs (6 * i + 2)) _ h2) rfl (Or.inl rfl) ?_
  show M (164, tw_l6 i, [.int x, .int x], ((I2), L, tw_P 2 14 rt sc, A, J, 57))
  refine hM.1 _ _ _ _ _ _ (show tw_c323[164]? = some (477, .if_icmp .eq 1477, 3, 1164, 0, 0, 0, 0) from rfl) (by exact if_pos rfl) rfl ?_
  exact K _ _ _ _ _ _ hI
theorem tw_case_6 {M : tw_C → Prop} {L0 : Nat} {xs : Nat → Int32} (hM : tw_Cl M L0 xs) {i : Nat} (hi : 6 * i + 5 < L0) (hL : L0 < 2 ^ 31) {I : Nat → Int32} {L : Nat → Int64} {A : Nat → Nat → Int32} {J : Nat → Nat → Int64} {rt sc : Nat} (h : tm_Inv I A) (K : ∀ (I : Nat → Int32) (L : Nat → Int64) (A : Nat → Nat → Int32) (J : Nat → Nat → Int64) (rt sc : Nat), tm_Inv I A → M (1164, tw_l6 i, [], (I, L, tw_P 2 14 rt sc, A, J, 57))) : M (167, tw_l6 i, [], (I, L, tw_P 2 14 rt sc, A, J, 57)) := by
  obtain ⟨x, I1, h1, I2, h2, hI⟩ := tm_q_quarrel h (xs (6 * i + 1)) (xs (6 * i + 2))
  refine hM.1 _ _ _ _ _ (168, tw_l6 i, [.ref 0], (I, L, tw_P 2 14 rt sc, A, J, 57)) (show tw_c323[167]? = some (482, .aload_n 1, 1, 0, 0, 0, 0, 0) from rfl) rfl rfl ?_
  refine tw_ldM hM (k := 168) (k5 := 173) (show (tw_c323.drop 168).take 5 = [(483, .aload_n 0, 1, 0, 0, 0, 0, 0), (484, .iload 4, 2, 0, 0, 0, 0, 0), (486, .iconst 1, 1, 0, 0, 0, 1, 0), (487, .iadd, 1, 0, 0, 0, 0, 0), (488, .iaload, 1, 0, 0, 0, 0, 0)] from rfl) rfl (j := 1) rfl (by omega) hL ?_
  refine tw_ldM hM (k := 173) (k5 := 178) (show (tw_c323.drop 173).take 5 = [(489, .aload_n 0, 1, 0, 0, 0, 0, 0), (490, .iload 4, 2, 0, 0, 0, 0, 0), (492, .iconst 2, 1, 0, 0, 0, 2, 0), (493, .iadd, 1, 0, 0, 0, 0, 0), (494, .iaload, 1, 0, 0, 0, 0, 0)] from rfl) rfl (j := 2) rfl (by omega) hL ?_
  refine hM.2.1 178 _ _ _ _ _ _ _ _ (show tw_c323[178]? = some (495, .invokevirtual 46, 3, 119, 2, 81, 0, 0) from rfl) rfl rfl rfl (e_X9_quarrel (I) L A J rt sc (xs (6 * i + 1)) (xs (6 * i + 2)) _ h1) rfl (Or.inl rfl) ?_
  show M (179, tw_l6 i, [.int x], ((I1), L, tw_P 2 14 rt sc, A, J, 57))
  refine hM.1 _ _ _ _ _ (180, tw_l6 i, [.ref 44, .int x], ((I1), L, tw_P 2 14 rt sc, A, J, 57)) (show tw_c323[179]? = some (498, .aload_n 2, 1, 0, 0, 0, 0, 0) from rfl) rfl rfl ?_
  refine tw_ldM hM (k := 180) (k5 := 185) (show (tw_c323.drop 180).take 5 = [(499, .aload_n 0, 1, 0, 0, 0, 0, 0), (500, .iload 4, 2, 0, 0, 0, 0, 0), (502, .iconst 1, 1, 0, 0, 0, 1, 0), (503, .iadd, 1, 0, 0, 0, 0, 0), (504, .iaload, 1, 0, 0, 0, 0, 0)] from rfl) rfl (j := 1) rfl (by omega) hL ?_
  refine tw_ldM hM (k := 185) (k5 := 190) (show (tw_c323.drop 185).take 5 = [(505, .aload_n 0, 1, 0, 0, 0, 0, 0), (506, .iload 4, 2, 0, 0, 0, 0, 0), (508, .iconst 2, 1, 0, 0, 0, 2, 0), (509, .iadd, 1, 0, 0, 0, 0, 0), (510, .iaload, 1, 0, 0, 0, 0, 0)] from rfl) rfl (j := 2) rfl (by omega) hL ?_
  refine hM.2.1 190 _ _ _ _ _ _ _ _ (show tw_c323[190]? = some (511, .invokevirtual 49, 3, 253, 2, 91, 0, 0) from rfl) rfl rfl rfl (e_X10_quarrel ((I1)) L A J 2 14 rt sc (xs (6 * i + 1)) (xs (6 * i + 2)) _ h2) rfl (Or.inl rfl) ?_
  show M (191, tw_l6 i, [.int x, .int x], ((I2), L, tw_P 2 14 rt sc, A, J, 57))
  refine hM.1 _ _ _ _ _ _ (show tw_c323[191]? = some (514, .if_icmp .eq 1440, 3, 1164, 0, 0, 0, 0) from rfl) (by exact if_pos rfl) rfl ?_
  exact K _ _ _ _ _ _ hI
theorem tw_case_7 {M : tw_C → Prop} {L0 : Nat} {xs : Nat → Int32} (hM : tw_Cl M L0 xs) {i : Nat} (hi : 6 * i + 5 < L0) (hL : L0 < 2 ^ 31) {I : Nat → Int32} {L : Nat → Int64} {A : Nat → Nat → Int32} {J : Nat → Nat → Int64} {rt sc : Nat} (h : tm_Inv I A) (K : ∀ (I : Nat → Int32) (L : Nat → Int64) (A : Nat → Nat → Int32) (J : Nat → Nat → Int64) (rt sc : Nat), tm_Inv I A → M (1164, tw_l6 i, [], (I, L, tw_P 2 14 rt sc, A, J, 57))) : M (194, tw_l6 i, [], (I, L, tw_P 2 14 rt sc, A, J, 57)) := by
  obtain ⟨x, I1, A1, sc1, h1, I2, A2, h2, hI⟩ := tm_q_at h sc (xs (6 * i + 1)) (xs (6 * i + 2))
  refine hM.1 _ _ _ _ _ (195, tw_l6 i, [.ref 0], (I, L, tw_P 2 14 rt sc, A, J, 57)) (show tw_c323[194]? = some (519, .aload_n 1, 1, 0, 0, 0, 0, 0) from rfl) rfl rfl ?_
  refine tw_ldM hM (k := 195) (k5 := 200) (show (tw_c323.drop 195).take 5 = [(520, .aload_n 0, 1, 0, 0, 0, 0, 0), (521, .iload 4, 2, 0, 0, 0, 0, 0), (523, .iconst 1, 1, 0, 0, 0, 1, 0), (524, .iadd, 1, 0, 0, 0, 0, 0), (525, .iaload, 1, 0, 0, 0, 0, 0)] from rfl) rfl (j := 1) rfl (by omega) hL ?_
  refine tw_ldM hM (k := 200) (k5 := 205) (show (tw_c323.drop 200).take 5 = [(526, .aload_n 0, 1, 0, 0, 0, 0, 0), (527, .iload 4, 2, 0, 0, 0, 0, 0), (529, .iconst 2, 1, 0, 0, 0, 2, 0), (530, .iadd, 1, 0, 0, 0, 0, 0), (531, .iaload, 1, 0, 0, 0, 0, 0)] from rfl) rfl (j := 2) rfl (by omega) hL ?_
  refine hM.2.1 205 _ _ _ _ _ _ _ _ (show tw_c323[205]? = some (532, .invokevirtual 50, 3, 120, 2, 81, 0, 0) from rfl) rfl rfl rfl (e_X9_at (I) L A J rt sc (xs (6 * i + 1)) (xs (6 * i + 2)) _ h1) rfl (Or.inl rfl) ?_
  show M (206, tw_l6 i, [.int x], ((I1), L, tw_P 2 14 rt (sc1), (A1), J, 57))
  refine hM.1 _ _ _ _ _ (207, tw_l6 i, [.ref 44, .int x], ((I1), L, tw_P 2 14 rt (sc1), (A1), J, 57)) (show tw_c323[206]? = some (535, .aload_n 2, 1, 0, 0, 0, 0, 0) from rfl) rfl rfl ?_
  refine tw_ldM hM (k := 207) (k5 := 212) (show (tw_c323.drop 207).take 5 = [(536, .aload_n 0, 1, 0, 0, 0, 0, 0), (537, .iload 4, 2, 0, 0, 0, 0, 0), (539, .iconst 1, 1, 0, 0, 0, 1, 0), (540, .iadd, 1, 0, 0, 0, 0, 0), (541, .iaload, 1, 0, 0, 0, 0, 0)] from rfl) rfl (j := 1) rfl (by omega) hL ?_
  refine tw_ldM hM (k := 212) (k5 := 217) (show (tw_c323.drop 212).take 5 = [(542, .aload_n 0, 1, 0, 0, 0, 0, 0), (543, .iload 4, 2, 0, 0, 0, 0, 0), (545, .iconst 2, 1, 0, 0, 0, 2, 0), (546, .iadd, 1, 0, 0, 0, 0, 0), (547, .iaload, 1, 0, 0, 0, 0, 0)] from rfl) rfl (j := 2) rfl (by omega) hL ?_
  refine hM.2.1 217 _ _ _ _ _ _ _ _ (show tw_c323[217]? = some (548, .invokevirtual 53, 3, 254, 2, 91, 0, 0) from rfl) rfl rfl rfl (e_X10_at ((I1)) L (A1) J 2 14 rt (sc1) (xs (6 * i + 1)) (xs (6 * i + 2)) _ h2) rfl (Or.inl rfl) ?_
  show M (218, tw_l6 i, [.int x, .int x], ((I2), L, tw_P 2 14 rt (sc1), (A2), J, 57))
  refine hM.1 _ _ _ _ _ _ (show tw_c323[218]? = some (551, .if_icmp .eq 1403, 3, 1164, 0, 0, 0, 0) from rfl) (by exact if_pos rfl) rfl ?_
  exact K _ _ _ _ _ _ hI
theorem tw_case_8 {M : tw_C → Prop} {L0 : Nat} {xs : Nat → Int32} (hM : tw_Cl M L0 xs) {i : Nat} (hi : 6 * i + 5 < L0) (hL : L0 < 2 ^ 31) {I : Nat → Int32} {L : Nat → Int64} {A : Nat → Nat → Int32} {J : Nat → Nat → Int64} {rt sc : Nat} (h : tm_Inv I A) (K : ∀ (I : Nat → Int32) (L : Nat → Int64) (A : Nat → Nat → Int32) (J : Nat → Nat → Int64) (rt sc : Nat), tm_Inv I A → M (1164, tw_l6 i, [], (I, L, tw_P 2 14 rt sc, A, J, 57))) : M (221, tw_l6 i, [], (I, L, tw_P 2 14 rt sc, A, J, 57)) := by
  obtain ⟨x, I1, A1, sc1, h1, I2, A2, h2, hI⟩ := tm_q_into h sc (xs (6 * i + 1))
  refine hM.1 _ _ _ _ _ (222, tw_l6 i, [.ref 0], (I, L, tw_P 2 14 rt sc, A, J, 57)) (show tw_c323[221]? = some (556, .aload_n 1, 1, 0, 0, 0, 0, 0) from rfl) rfl rfl ?_
  refine tw_ldM hM (k := 222) (k5 := 227) (show (tw_c323.drop 222).take 5 = [(557, .aload_n 0, 1, 0, 0, 0, 0, 0), (558, .iload 4, 2, 0, 0, 0, 0, 0), (560, .iconst 1, 1, 0, 0, 0, 1, 0), (561, .iadd, 1, 0, 0, 0, 0, 0), (562, .iaload, 1, 0, 0, 0, 0, 0)] from rfl) rfl (j := 1) rfl (by omega) hL ?_
  refine hM.2.1 227 _ _ _ _ _ _ _ _ (show tw_c323[227]? = some (563, .invokevirtual 54, 3, 121, 1, 81, 0, 0) from rfl) rfl rfl rfl (e_X9_into (I) L A J rt sc (xs (6 * i + 1)) _ h1) rfl (Or.inl rfl) ?_
  show M (228, tw_l6 i, [.int x], ((I1), L, tw_P 2 14 rt (sc1), (A1), J, 57))
  refine hM.1 _ _ _ _ _ (229, tw_l6 i, [.ref 44, .int x], ((I1), L, tw_P 2 14 rt (sc1), (A1), J, 57)) (show tw_c323[228]? = some (566, .aload_n 2, 1, 0, 0, 0, 0, 0) from rfl) rfl rfl ?_
  refine tw_ldM hM (k := 229) (k5 := 234) (show (tw_c323.drop 229).take 5 = [(567, .aload_n 0, 1, 0, 0, 0, 0, 0), (568, .iload 4, 2, 0, 0, 0, 0, 0), (570, .iconst 1, 1, 0, 0, 0, 1, 0), (571, .iadd, 1, 0, 0, 0, 0, 0), (572, .iaload, 1, 0, 0, 0, 0, 0)] from rfl) rfl (j := 1) rfl (by omega) hL ?_
  refine hM.2.1 234 _ _ _ _ _ _ _ _ (show tw_c323[234]? = some (573, .invokevirtual 57, 3, 255, 1, 91, 0, 0) from rfl) rfl rfl rfl (e_X10_into ((I1)) L (A1) J 2 14 rt (sc1) (xs (6 * i + 1)) _ h2) rfl (Or.inl rfl) ?_
  show M (235, tw_l6 i, [.int x, .int x], ((I2), L, tw_P 2 14 rt (sc1), (A2), J, 57))
  refine hM.1 _ _ _ _ _ _ (show tw_c323[235]? = some (576, .if_icmp .eq 1378, 3, 1164, 0, 0, 0, 0) from rfl) (by exact if_pos rfl) rfl ?_
  exact K _ _ _ _ _ _ hI
theorem tw_case_9 {M : tw_C → Prop} {L0 : Nat} {xs : Nat → Int32} (hM : tw_Cl M L0 xs) {i : Nat} (hi : 6 * i + 5 < L0) (hL : L0 < 2 ^ 31) {I : Nat → Int32} {L : Nat → Int64} {A : Nat → Nat → Int32} {J : Nat → Nat → Int64} {rt sc : Nat} (h : tm_Inv I A) (K : ∀ (I : Nat → Int32) (L : Nat → Int64) (A : Nat → Nat → Int32) (J : Nat → Nat → Int64) (rt sc : Nat), tm_Inv I A → M (1164, tw_l6 i, [], (I, L, tw_P 2 14 rt sc, A, J, 57))) : M (238, tw_l6 i, [], (I, L, tw_P 2 14 rt sc, A, J, 57)) := by
  obtain ⟨x, I1, A1, sc1, h1, I2, A2, h2, hI⟩ := tm_q_watchers h sc (xs (6 * i + 1)) (xs (6 * i + 2))
  refine hM.1 _ _ _ _ _ (239, tw_l6 i, [.ref 0], (I, L, tw_P 2 14 rt sc, A, J, 57)) (show tw_c323[238]? = some (581, .aload_n 1, 1, 0, 0, 0, 0, 0) from rfl) rfl rfl ?_
  refine tw_ldM hM (k := 239) (k5 := 244) (show (tw_c323.drop 239).take 5 = [(582, .aload_n 0, 1, 0, 0, 0, 0, 0), (583, .iload 4, 2, 0, 0, 0, 0, 0), (585, .iconst 1, 1, 0, 0, 0, 1, 0), (586, .iadd, 1, 0, 0, 0, 0, 0), (587, .iaload, 1, 0, 0, 0, 0, 0)] from rfl) rfl (j := 1) rfl (by omega) hL ?_
  refine tw_ldM hM (k := 244) (k5 := 249) (show (tw_c323.drop 244).take 5 = [(588, .aload_n 0, 1, 0, 0, 0, 0, 0), (589, .iload 4, 2, 0, 0, 0, 0, 0), (591, .iconst 2, 1, 0, 0, 0, 2, 0), (592, .iadd, 1, 0, 0, 0, 0, 0), (593, .iaload, 1, 0, 0, 0, 0, 0)] from rfl) rfl (j := 2) rfl (by omega) hL ?_
  refine hM.2.1 249 _ _ _ _ _ _ _ _ (show tw_c323[249]? = some (594, .invokevirtual 58, 3, 122, 2, 81, 0, 0) from rfl) rfl rfl rfl (e_X9_watchers (I) L A J rt sc (xs (6 * i + 1)) (xs (6 * i + 2)) _ h1) rfl (Or.inl rfl) ?_
  show M (250, tw_l6 i, [.int x], ((I1), L, tw_P 2 14 rt (sc1), (A1), J, 57))
  refine hM.1 _ _ _ _ _ (251, tw_l6 i, [.ref 44, .int x], ((I1), L, tw_P 2 14 rt (sc1), (A1), J, 57)) (show tw_c323[250]? = some (597, .aload_n 2, 1, 0, 0, 0, 0, 0) from rfl) rfl rfl ?_
  refine tw_ldM hM (k := 251) (k5 := 256) (show (tw_c323.drop 251).take 5 = [(598, .aload_n 0, 1, 0, 0, 0, 0, 0), (599, .iload 4, 2, 0, 0, 0, 0, 0), (601, .iconst 1, 1, 0, 0, 0, 1, 0), (602, .iadd, 1, 0, 0, 0, 0, 0), (603, .iaload, 1, 0, 0, 0, 0, 0)] from rfl) rfl (j := 1) rfl (by omega) hL ?_
  refine tw_ldM hM (k := 256) (k5 := 261) (show (tw_c323.drop 256).take 5 = [(604, .aload_n 0, 1, 0, 0, 0, 0, 0), (605, .iload 4, 2, 0, 0, 0, 0, 0), (607, .iconst 2, 1, 0, 0, 0, 2, 0), (608, .iadd, 1, 0, 0, 0, 0, 0), (609, .iaload, 1, 0, 0, 0, 0, 0)] from rfl) rfl (j := 2) rfl (by omega) hL ?_
  refine hM.2.1 261 _ _ _ _ _ _ _ _ (show tw_c323[261]? = some (610, .invokevirtual 61, 3, 256, 2, 91, 0, 0) from rfl) rfl rfl rfl (e_X10_watchers ((I1)) L (A1) J 2 14 rt (sc1) (xs (6 * i + 1)) (xs (6 * i + 2)) _ h2) rfl (Or.inl rfl) ?_
  show M (262, tw_l6 i, [.int x, .int x], ((I2), L, tw_P 2 14 rt (sc1), (A2), J, 57))
  refine hM.1 _ _ _ _ _ _ (show tw_c323[262]? = some (613, .if_icmp .eq 1341, 3, 1164, 0, 0, 0, 0) from rfl) (by exact if_pos rfl) rfl ?_
  exact K _ _ _ _ _ _ hI
theorem tw_case_10 {M : tw_C → Prop} {L0 : Nat} {xs : Nat → Int32} (hM : tw_Cl M L0 xs) {i : Nat} (hi : 6 * i + 5 < L0) (hL : L0 < 2 ^ 31) {I : Nat → Int32} {L : Nat → Int64} {A : Nat → Nat → Int32} {J : Nat → Nat → Int64} {rt sc : Nat} (h : tm_Inv I A) (K : ∀ (I : Nat → Int32) (L : Nat → Int64) (A : Nat → Nat → Int32) (J : Nat → Nat → Int64) (rt sc : Nat), tm_Inv I A → M (1164, tw_l6 i, [], (I, L, tw_P 2 14 rt sc, A, J, 57))) : M (265, tw_l6 i, [], (I, L, tw_P 2 14 rt sc, A, J, 57)) := by
  obtain ⟨x, I1, A1, sc1, h1, I2, A2, h2, hI⟩ := tm_q_eyes h sc (xs (6 * i + 1)) (xs (6 * i + 2))
  refine hM.1 _ _ _ _ _ (266, tw_l6 i, [.ref 0], (I, L, tw_P 2 14 rt sc, A, J, 57)) (show tw_c323[265]? = some (618, .aload_n 1, 1, 0, 0, 0, 0, 0) from rfl) rfl rfl ?_
  refine tw_ldM hM (k := 266) (k5 := 271) (show (tw_c323.drop 266).take 5 = [(619, .aload_n 0, 1, 0, 0, 0, 0, 0), (620, .iload 4, 2, 0, 0, 0, 0, 0), (622, .iconst 1, 1, 0, 0, 0, 1, 0), (623, .iadd, 1, 0, 0, 0, 0, 0), (624, .iaload, 1, 0, 0, 0, 0, 0)] from rfl) rfl (j := 1) rfl (by omega) hL ?_
  refine tw_ldM hM (k := 271) (k5 := 276) (show (tw_c323.drop 271).take 5 = [(625, .aload_n 0, 1, 0, 0, 0, 0, 0), (626, .iload 4, 2, 0, 0, 0, 0, 0), (628, .iconst 2, 1, 0, 0, 0, 2, 0), (629, .iadd, 1, 0, 0, 0, 0, 0), (630, .iaload, 1, 0, 0, 0, 0, 0)] from rfl) rfl (j := 2) rfl (by omega) hL ?_
  refine hM.2.1 276 _ _ _ _ _ _ _ _ (show tw_c323[276]? = some (631, .invokevirtual 62, 3, 123, 2, 81, 0, 0) from rfl) rfl rfl rfl (e_X9_eyes (I) L A J rt sc (xs (6 * i + 1)) (xs (6 * i + 2)) _ h1) rfl (Or.inl rfl) ?_
  show M (277, tw_l6 i, [.int x], ((I1), L, tw_P 2 14 rt (sc1), (A1), J, 57))
  refine hM.1 _ _ _ _ _ (278, tw_l6 i, [.ref 44, .int x], ((I1), L, tw_P 2 14 rt (sc1), (A1), J, 57)) (show tw_c323[277]? = some (634, .aload_n 2, 1, 0, 0, 0, 0, 0) from rfl) rfl rfl ?_
  refine tw_ldM hM (k := 278) (k5 := 283) (show (tw_c323.drop 278).take 5 = [(635, .aload_n 0, 1, 0, 0, 0, 0, 0), (636, .iload 4, 2, 0, 0, 0, 0, 0), (638, .iconst 1, 1, 0, 0, 0, 1, 0), (639, .iadd, 1, 0, 0, 0, 0, 0), (640, .iaload, 1, 0, 0, 0, 0, 0)] from rfl) rfl (j := 1) rfl (by omega) hL ?_
  refine tw_ldM hM (k := 283) (k5 := 288) (show (tw_c323.drop 283).take 5 = [(641, .aload_n 0, 1, 0, 0, 0, 0, 0), (642, .iload 4, 2, 0, 0, 0, 0, 0), (644, .iconst 2, 1, 0, 0, 0, 2, 0), (645, .iadd, 1, 0, 0, 0, 0, 0), (646, .iaload, 1, 0, 0, 0, 0, 0)] from rfl) rfl (j := 2) rfl (by omega) hL ?_
  refine hM.2.1 288 _ _ _ _ _ _ _ _ (show tw_c323[288]? = some (647, .invokevirtual 65, 3, 257, 2, 91, 0, 0) from rfl) rfl rfl rfl (e_X10_eyes ((I1)) L (A1) J 2 14 rt (sc1) (xs (6 * i + 1)) (xs (6 * i + 2)) _ h2) rfl (Or.inl rfl) ?_
  show M (289, tw_l6 i, [.int x, .int x], ((I2), L, tw_P 2 14 rt (sc1), (A2), J, 57))
  refine hM.1 _ _ _ _ _ _ (show tw_c323[289]? = some (650, .if_icmp .eq 1304, 3, 1164, 0, 0, 0, 0) from rfl) (by exact if_pos rfl) rfl ?_
  exact K _ _ _ _ _ _ hI
theorem tw_case_11 {M : tw_C → Prop} {L0 : Nat} {xs : Nat → Int32} (hM : tw_Cl M L0 xs) {i : Nat} (hi : 6 * i + 5 < L0) (hL : L0 < 2 ^ 31) {I : Nat → Int32} {L : Nat → Int64} {A : Nat → Nat → Int32} {J : Nat → Nat → Int64} {rt sc : Nat} (h : tm_Inv I A) (K : ∀ (I : Nat → Int32) (L : Nat → Int64) (A : Nat → Nat → Int32) (J : Nat → Nat → Int64) (rt sc : Nat), tm_Inv I A → M (1164, tw_l6 i, [], (I, L, tw_P 2 14 rt sc, A, J, 57))) : M (292, tw_l6 i, [], (I, L, tw_P 2 14 rt sc, A, J, 57)) := by
  obtain ⟨x, I1, A1, sc1, h1, I2, A2, h2, hI⟩ := tm_q_hidden h sc (xs (6 * i + 1))
  refine hM.1 _ _ _ _ _ (293, tw_l6 i, [.ref 0], (I, L, tw_P 2 14 rt sc, A, J, 57)) (show tw_c323[292]? = some (655, .aload_n 1, 1, 0, 0, 0, 0, 0) from rfl) rfl rfl ?_
  refine tw_ldM hM (k := 293) (k5 := 298) (show (tw_c323.drop 293).take 5 = [(656, .aload_n 0, 1, 0, 0, 0, 0, 0), (657, .iload 4, 2, 0, 0, 0, 0, 0), (659, .iconst 1, 1, 0, 0, 0, 1, 0), (660, .iadd, 1, 0, 0, 0, 0, 0), (661, .iaload, 1, 0, 0, 0, 0, 0)] from rfl) rfl (j := 1) rfl (by omega) hL ?_
  refine hM.2.1 298 _ _ _ _ _ _ _ _ (show tw_c323[298]? = some (662, .invokevirtual 66, 3, 124, 1, 81, 0, 0) from rfl) rfl rfl rfl (e_X9_hidden (I) L A J rt sc (xs (6 * i + 1)) _ h1) rfl (Or.inl rfl) ?_
  show M (299, tw_l6 i, [.int x], ((I1), L, tw_P 2 14 rt (sc1), (A1), J, 57))
  refine hM.1 _ _ _ _ _ (300, tw_l6 i, [.ref 44, .int x], ((I1), L, tw_P 2 14 rt (sc1), (A1), J, 57)) (show tw_c323[299]? = some (665, .aload_n 2, 1, 0, 0, 0, 0, 0) from rfl) rfl rfl ?_
  refine tw_ldM hM (k := 300) (k5 := 305) (show (tw_c323.drop 300).take 5 = [(666, .aload_n 0, 1, 0, 0, 0, 0, 0), (667, .iload 4, 2, 0, 0, 0, 0, 0), (669, .iconst 1, 1, 0, 0, 0, 1, 0), (670, .iadd, 1, 0, 0, 0, 0, 0), (671, .iaload, 1, 0, 0, 0, 0, 0)] from rfl) rfl (j := 1) rfl (by omega) hL ?_
  refine hM.2.1 305 _ _ _ _ _ _ _ _ (show tw_c323[305]? = some (672, .invokevirtual 69, 3, 258, 1, 91, 0, 0) from rfl) rfl rfl rfl (e_X10_hidden ((I1)) L (A1) J 2 14 rt (sc1) (xs (6 * i + 1)) _ h2) rfl (Or.inl rfl) ?_
  show M (306, tw_l6 i, [.int x, .int x], ((I2), L, tw_P 2 14 rt (sc1), (A2), J, 57))
  refine hM.1 _ _ _ _ _ _ (show tw_c323[306]? = some (675, .if_icmp .eq 1279, 3, 1164, 0, 0, 0, 0) from rfl) (by exact if_pos rfl) rfl ?_
  exact K _ _ _ _ _ _ hI
theorem tw_case_12 {M : tw_C → Prop} {L0 : Nat} {xs : Nat → Int32} (hM : tw_Cl M L0 xs) {i : Nat} (hi : 6 * i + 5 < L0) (hL : L0 < 2 ^ 31) {I : Nat → Int32} {L : Nat → Int64} {A : Nat → Nat → Int32} {J : Nat → Nat → Int64} {rt sc : Nat} (h : tm_Inv I A) (K : ∀ (I : Nat → Int32) (L : Nat → Int64) (A : Nat → Nat → Int32) (J : Nat → Nat → Int64) (rt sc : Nat), tm_Inv I A → M (1164, tw_l6 i, [], (I, L, tw_P 2 14 rt sc, A, J, 57))) : M (309, tw_l6 i, [], (I, L, tw_P 2 14 rt sc, A, J, 57)) := by
  obtain ⟨x, I1, A1, sc1, h1, I2, A2, h2, hI⟩ := tm_q_square h sc
  refine hM.1 _ _ _ _ _ (310, tw_l6 i, [.ref 0], (I, L, tw_P 2 14 rt sc, A, J, 57)) (show tw_c323[309]? = some (680, .aload_n 1, 1, 0, 0, 0, 0, 0) from rfl) rfl rfl ?_
  refine hM.2.1 310 _ _ _ _ _ _ _ _ (show tw_c323[310]? = some (681, .invokevirtual 70, 3, 125, 0, 81, 0, 0) from rfl) rfl rfl rfl (e_X9_square (I) L A J rt sc  _ h1) rfl (Or.inl rfl) ?_
  show M (311, tw_l6 i, [.int x], ((I1), L, tw_P 2 14 rt (sc1), (A1), J, 57))
  refine hM.1 _ _ _ _ _ (312, tw_l6 i, [.ref 44, .int x], ((I1), L, tw_P 2 14 rt (sc1), (A1), J, 57)) (show tw_c323[311]? = some (684, .aload_n 2, 1, 0, 0, 0, 0, 0) from rfl) rfl rfl ?_
  refine hM.2.1 312 _ _ _ _ _ _ _ _ (show tw_c323[312]? = some (685, .invokevirtual 73, 3, 260, 0, 91, 0, 0) from rfl) rfl rfl rfl (e_X10_square ((I1)) L (A1) J 2 14 rt (sc1)  _ h2) rfl (Or.inl rfl) ?_
  show M (313, tw_l6 i, [.int x, .int x], ((I2), L, tw_P 2 14 rt (sc1), (A2), J, 57))
  refine hM.1 _ _ _ _ _ _ (show tw_c323[313]? = some (688, .if_icmp .eq 1266, 3, 1164, 0, 0, 0, 0) from rfl) (by exact if_pos rfl) rfl ?_
  exact K _ _ _ _ _ _ hI
theorem tw_case_13 {M : tw_C → Prop} {L0 : Nat} {xs : Nat → Int32} (hM : tw_Cl M L0 xs) {i : Nat} (hi : 6 * i + 5 < L0) (hL : L0 < 2 ^ 31) {I : Nat → Int32} {L : Nat → Int64} {A : Nat → Nat → Int32} {J : Nat → Nat → Int64} {rt sc : Nat} (h : tm_Inv I A) (K : ∀ (I : Nat → Int32) (L : Nat → Int64) (A : Nat → Nat → Int32) (J : Nat → Nat → Int64) (rt sc : Nat), tm_Inv I A → M (1164, tw_l6 i, [], (I, L, tw_P 2 14 rt sc, A, J, 57))) : M (316, tw_l6 i, [], (I, L, tw_P 2 14 rt sc, A, J, 57)) := by
  obtain ⟨x, I1, A1, sc1, h1, I2, A2, h2, hI⟩ := tm_q_ends h sc (xs (6 * i + 1))
  refine hM.1 _ _ _ _ _ (317, tw_l6 i, [.ref 0], (I, L, tw_P 2 14 rt sc, A, J, 57)) (show tw_c323[316]? = some (693, .aload_n 1, 1, 0, 0, 0, 0, 0) from rfl) rfl rfl ?_
  refine tw_ldM hM (k := 317) (k5 := 322) (show (tw_c323.drop 317).take 5 = [(694, .aload_n 0, 1, 0, 0, 0, 0, 0), (695, .iload 4, 2, 0, 0, 0, 0, 0), (697, .iconst 1, 1, 0, 0, 0, 1, 0), (698, .iadd, 1, 0, 0, 0, 0, 0), (699, .iaload, 1, 0, 0, 0, 0, 0)] from rfl) rfl (j := 1) rfl (by omega) hL ?_
  refine hM.2.1 322 _ _ _ _ _ _ _ _ (show tw_c323[322]? = some (700, .invokevirtual 74, 3, 126, 1, 81, 0, 0) from rfl) rfl rfl rfl (e_X9_ends (I) L A J rt sc (xs (6 * i + 1)) _ h1) rfl (Or.inl rfl) ?_
  show M (323, tw_l6 i, [.int x], ((I1), L, tw_P 2 14 rt (sc1), (A1), J, 57))
  refine hM.1 _ _ _ _ _ (324, tw_l6 i, [.ref 44, .int x], ((I1), L, tw_P 2 14 rt (sc1), (A1), J, 57)) (show tw_c323[323]? = some (703, .aload_n 2, 1, 0, 0, 0, 0, 0) from rfl) rfl rfl ?_
  refine tw_ldM hM (k := 324) (k5 := 329) (show (tw_c323.drop 324).take 5 = [(704, .aload_n 0, 1, 0, 0, 0, 0, 0), (705, .iload 4, 2, 0, 0, 0, 0, 0), (707, .iconst 1, 1, 0, 0, 0, 1, 0), (708, .iadd, 1, 0, 0, 0, 0, 0), (709, .iaload, 1, 0, 0, 0, 0, 0)] from rfl) rfl (j := 1) rfl (by omega) hL ?_
  refine hM.2.1 329 _ _ _ _ _ _ _ _ (show tw_c323[329]? = some (710, .invokevirtual 77, 3, 262, 1, 91, 0, 0) from rfl) rfl rfl rfl (e_X10_ends ((I1)) L (A1) J 2 14 rt (sc1) (xs (6 * i + 1)) _ h2) rfl (Or.inl rfl) ?_
  show M (330, tw_l6 i, [.int x, .int x], ((I2), L, tw_P 2 14 rt (sc1), (A2), J, 57))
  refine hM.1 _ _ _ _ _ _ (show tw_c323[330]? = some (713, .if_icmp .eq 1241, 3, 1164, 0, 0, 0, 0) from rfl) (by exact if_pos rfl) rfl ?_
  exact K _ _ _ _ _ _ hI
