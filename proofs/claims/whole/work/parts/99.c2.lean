/-! the law's calls, one by one (by wip/gen/mklaw.py) -/
set_option maxRecDepth 16000
theorem tw_case_28 {M : tw_C → Prop} {L0 : Nat} {xs : Nat → Int32} (hM : tw_Cl M L0 xs) {i : Nat} (hi : 6 * i + 5 < L0) (hL : L0 < 2 ^ 31) {I : Nat → Int32} {L : Nat → Int64} {A : Nat → Nat → Int32} {J : Nat → Nat → Int64} {rt sc : Nat} (h : tm_Inv I A) (K : ∀ (I : Nat → Int32) (L : Nat → Int64) (A : Nat → Nat → Int32) (J : Nat → Nat → Int64) (rt sc : Nat), tm_Inv I A → M (1164, tw_l6 i, [], (I, L, tw_P 2 14 rt sc, A, J, 57))) : M (571, tw_l6 i, [], (I, L, tw_P 2 14 rt sc, A, J, 57)) := by
  obtain ⟨x, I1, A1, sc1, h1, I2, A2, h2, hI⟩ := tm_q_stoppedIf h sc (xs (6 * i + 1)) (xs (6 * i + 2))
  refine hM.1 _ _ _ _ _ (572, tw_l6 i, [.ref 0], (I, L, tw_P 2 14 rt sc, A, J, 57)) (show tw_c323[571]? = some (1068, .aload_n 1, 1, 0, 0, 0, 0, 0) from rfl) rfl rfl ?_
  refine tw_ldM hM (k := 572) (k5 := 577) (show (tw_c323.drop 572).take 5 = [(1069, .aload_n 0, 1, 0, 0, 0, 0, 0), (1070, .iload 4, 2, 0, 0, 0, 0, 0), (1072, .iconst 1, 1, 0, 0, 0, 1, 0), (1073, .iadd, 1, 0, 0, 0, 0, 0), (1074, .iaload, 1, 0, 0, 0, 0, 0)] from rfl) rfl (j := 1) rfl (by omega) hL ?_
  refine tw_ldM hM (k := 577) (k5 := 582) (show (tw_c323.drop 577).take 5 = [(1075, .aload_n 0, 1, 0, 0, 0, 0, 0), (1076, .iload 4, 2, 0, 0, 0, 0, 0), (1078, .iconst 2, 1, 0, 0, 0, 2, 0), (1079, .iadd, 1, 0, 0, 0, 0, 0), (1080, .iaload, 1, 0, 0, 0, 0, 0)] from rfl) rfl (j := 2) rfl (by omega) hL ?_
  refine hM.2.1 582 _ _ _ _ _ _ _ _ (show tw_c323[582]? = some (1081, .invokevirtual 135, 3, 141, 2, 81, 0, 0) from rfl) rfl rfl rfl (e_X9_stoppedIf (I) L A J rt sc (xs (6 * i + 1)) (xs (6 * i + 2)) _ h1) rfl (Or.inl rfl) ?_
  show M (583, tw_l6 i, [.int x], ((I1), L, tw_P 2 14 rt (sc1), (A1), J, 57))
  refine hM.1 _ _ _ _ _ (584, tw_l6 i, [.ref 44, .int x], ((I1), L, tw_P 2 14 rt (sc1), (A1), J, 57)) (show tw_c323[583]? = some (1084, .aload_n 2, 1, 0, 0, 0, 0, 0) from rfl) rfl rfl ?_
  refine tw_ldM hM (k := 584) (k5 := 589) (show (tw_c323.drop 584).take 5 = [(1085, .aload_n 0, 1, 0, 0, 0, 0, 0), (1086, .iload 4, 2, 0, 0, 0, 0, 0), (1088, .iconst 1, 1, 0, 0, 0, 1, 0), (1089, .iadd, 1, 0, 0, 0, 0, 0), (1090, .iaload, 1, 0, 0, 0, 0, 0)] from rfl) rfl (j := 1) rfl (by omega) hL ?_
  refine tw_ldM hM (k := 589) (k5 := 594) (show (tw_c323.drop 589).take 5 = [(1091, .aload_n 0, 1, 0, 0, 0, 0, 0), (1092, .iload 4, 2, 0, 0, 0, 0, 0), (1094, .iconst 2, 1, 0, 0, 0, 2, 0), (1095, .iadd, 1, 0, 0, 0, 0, 0), (1096, .iaload, 1, 0, 0, 0, 0, 0)] from rfl) rfl (j := 2) rfl (by omega) hL ?_
  refine hM.2.1 594 _ _ _ _ _ _ _ _ (show tw_c323[594]? = some (1097, .invokevirtual 138, 3, 282, 2, 91, 0, 0) from rfl) rfl rfl rfl (e_X10_stoppedIf ((I1)) L (A1) J 2 14 rt (sc1) (xs (6 * i + 1)) (xs (6 * i + 2)) _ h2) rfl (Or.inl rfl) ?_
  show M (595, tw_l6 i, [.int x, .int x], ((I2), L, tw_P 2 14 rt (sc1), (A2), J, 57))
  refine hM.1 _ _ _ _ _ _ (show tw_c323[595]? = some (1100, .if_icmp .eq 854, 3, 1164, 0, 0, 0, 0) from rfl) (by exact if_pos rfl) rfl ?_
  exact K _ _ _ _ _ _ hI
theorem tw_case_29 {M : tw_C → Prop} {L0 : Nat} {xs : Nat → Int32} (hM : tw_Cl M L0 xs) {i : Nat} (hi : 6 * i + 5 < L0) (hL : L0 < 2 ^ 31) {I : Nat → Int32} {L : Nat → Int64} {A : Nat → Nat → Int32} {J : Nat → Nat → Int64} {rt sc : Nat} (h : tm_Inv I A) (K : ∀ (I : Nat → Int32) (L : Nat → Int64) (A : Nat → Nat → Int32) (J : Nat → Nat → Int64) (rt sc : Nat), tm_Inv I A → M (1164, tw_l6 i, [], (I, L, tw_P 2 14 rt sc, A, J, 57))) : M (598, tw_l6 i, [], (I, L, tw_P 2 14 rt sc, A, J, 57)) := by
  obtain ⟨x, I1, A1, sc1, h1, I2, A2, h2, hI⟩ := tm_q_bestHire h sc
  refine hM.1 _ _ _ _ _ (599, tw_l6 i, [.ref 0], (I, L, tw_P 2 14 rt sc, A, J, 57)) (show tw_c323[598]? = some (1105, .aload_n 1, 1, 0, 0, 0, 0, 0) from rfl) rfl rfl ?_
  refine hM.2.1 599 _ _ _ _ _ _ _ _ (show tw_c323[599]? = some (1106, .invokevirtual 139, 3, 142, 0, 81, 0, 0) from rfl) rfl rfl rfl (e_X9_bestHire (I) L A J rt sc  _ h1) rfl (Or.inl rfl) ?_
  show M (600, tw_l6 i, [.int x], ((I1), L, tw_P 2 14 rt (sc1), (A1), J, 57))
  refine hM.1 _ _ _ _ _ (601, tw_l6 i, [.ref 44, .int x], ((I1), L, tw_P 2 14 rt (sc1), (A1), J, 57)) (show tw_c323[600]? = some (1109, .aload_n 2, 1, 0, 0, 0, 0, 0) from rfl) rfl rfl ?_
  refine hM.2.1 601 _ _ _ _ _ _ _ _ (show tw_c323[601]? = some (1110, .invokevirtual 142, 3, 283, 0, 91, 0, 0) from rfl) rfl rfl rfl (e_X10_bestHire ((I1)) L (A1) J 2 14 rt (sc1)  _ h2) rfl (Or.inl rfl) ?_
  show M (602, tw_l6 i, [.int x, .int x], ((I2), L, tw_P 2 14 rt (sc1), (A2), J, 57))
  refine hM.1 _ _ _ _ _ _ (show tw_c323[602]? = some (1113, .if_icmp .eq 841, 3, 1164, 0, 0, 0, 0) from rfl) (by exact if_pos rfl) rfl ?_
  exact K _ _ _ _ _ _ hI
theorem tw_case_30 {M : tw_C → Prop} {L0 : Nat} {xs : Nat → Int32} (hM : tw_Cl M L0 xs) {i : Nat} (hi : 6 * i + 5 < L0) (hL : L0 < 2 ^ 31) {I : Nat → Int32} {L : Nat → Int64} {A : Nat → Nat → Int32} {J : Nat → Nat → Int64} {rt sc : Nat} (h : tm_Inv I A) (K : ∀ (I : Nat → Int32) (L : Nat → Int64) (A : Nat → Nat → Int32) (J : Nat → Nat → Int64) (rt sc : Nat), tm_Inv I A → M (1164, tw_l6 i, [], (I, L, tw_P 2 14 rt sc, A, J, 57))) : M (605, tw_l6 i, [], (I, L, tw_P 2 14 rt sc, A, J, 57)) := by
  obtain ⟨x, I1, A1, sc1, h1, I2, A2, h2, hI⟩ := tm_q_fits h sc
  refine hM.1 _ _ _ _ _ (606, tw_l6 i, [.ref 0], (I, L, tw_P 2 14 rt sc, A, J, 57)) (show tw_c323[605]? = some (1118, .aload_n 1, 1, 0, 0, 0, 0, 0) from rfl) rfl rfl ?_
  refine hM.2.1 606 _ _ _ _ _ _ _ _ (show tw_c323[606]? = some (1119, .invokevirtual 143, 3, 143, 0, 81, 0, 0) from rfl) rfl rfl rfl (e_X9_fits (I) L A J rt sc  _ h1) rfl (Or.inl rfl) ?_
  show M (607, tw_l6 i, [.int x], ((I1), L, tw_P 2 14 rt (sc1), (A1), J, 57))
  refine hM.1 _ _ _ _ _ (608, tw_l6 i, [.ref 44, .int x], ((I1), L, tw_P 2 14 rt (sc1), (A1), J, 57)) (show tw_c323[607]? = some (1122, .aload_n 2, 1, 0, 0, 0, 0, 0) from rfl) rfl rfl ?_
  refine hM.2.1 608 _ _ _ _ _ _ _ _ (show tw_c323[608]? = some (1123, .invokevirtual 146, 3, 286, 0, 91, 0, 0) from rfl) rfl rfl rfl (e_X10_fits ((I1)) L (A1) J 2 14 rt (sc1)  _ h2) rfl (Or.inl rfl) ?_
  show M (609, tw_l6 i, [.int x, .int x], ((I2), L, tw_P 2 14 rt (sc1), (A2), J, 57))
  refine hM.1 _ _ _ _ _ _ (show tw_c323[609]? = some (1126, .if_icmp .eq 828, 3, 1164, 0, 0, 0, 0) from rfl) (by exact if_pos rfl) rfl ?_
  exact K _ _ _ _ _ _ hI
theorem tw_case_31 {M : tw_C → Prop} {L0 : Nat} {xs : Nat → Int32} (hM : tw_Cl M L0 xs) {i : Nat} (hi : 6 * i + 5 < L0) (hL : L0 < 2 ^ 31) {I : Nat → Int32} {L : Nat → Int64} {A : Nat → Nat → Int32} {J : Nat → Nat → Int64} {rt sc : Nat} (h : tm_Inv I A) (K : ∀ (I : Nat → Int32) (L : Nat → Int64) (A : Nat → Nat → Int32) (J : Nat → Nat → Int64) (rt sc : Nat), tm_Inv I A → M (1164, tw_l6 i, [], (I, L, tw_P 2 14 rt sc, A, J, 57))) : M (612, tw_l6 i, [], (I, L, tw_P 2 14 rt sc, A, J, 57)) := by
  obtain ⟨x, I1, A1, sc1, h1, I2, A2, h2, hI⟩ := tm_q_fitAt h sc (xs (6 * i + 1))
  refine hM.1 _ _ _ _ _ (613, tw_l6 i, [.ref 0], (I, L, tw_P 2 14 rt sc, A, J, 57)) (show tw_c323[612]? = some (1131, .aload_n 1, 1, 0, 0, 0, 0, 0) from rfl) rfl rfl ?_
  refine tw_ldM hM (k := 613) (k5 := 618) (show (tw_c323.drop 613).take 5 = [(1132, .aload_n 0, 1, 0, 0, 0, 0, 0), (1133, .iload 4, 2, 0, 0, 0, 0, 0), (1135, .iconst 1, 1, 0, 0, 0, 1, 0), (1136, .iadd, 1, 0, 0, 0, 0, 0), (1137, .iaload, 1, 0, 0, 0, 0, 0)] from rfl) rfl (j := 1) rfl (by omega) hL ?_
  refine hM.2.1 618 _ _ _ _ _ _ _ _ (show tw_c323[618]? = some (1138, .invokevirtual 147, 3, 144, 1, 81, 0, 0) from rfl) rfl rfl rfl (e_X9_fitAt (I) L A J rt sc (xs (6 * i + 1)) _ h1) rfl (Or.inl rfl) ?_
  show M (619, tw_l6 i, [.int x], ((I1), L, tw_P 2 14 rt (sc1), (A1), J, 57))
  refine hM.1 _ _ _ _ _ (620, tw_l6 i, [.ref 44, .int x], ((I1), L, tw_P 2 14 rt (sc1), (A1), J, 57)) (show tw_c323[619]? = some (1141, .aload_n 2, 1, 0, 0, 0, 0, 0) from rfl) rfl rfl ?_
  refine tw_ldM hM (k := 620) (k5 := 625) (show (tw_c323.drop 620).take 5 = [(1142, .aload_n 0, 1, 0, 0, 0, 0, 0), (1143, .iload 4, 2, 0, 0, 0, 0, 0), (1145, .iconst 1, 1, 0, 0, 0, 1, 0), (1146, .iadd, 1, 0, 0, 0, 0, 0), (1147, .iaload, 1, 0, 0, 0, 0, 0)] from rfl) rfl (j := 1) rfl (by omega) hL ?_
  refine hM.2.1 625 _ _ _ _ _ _ _ _ (show tw_c323[625]? = some (1148, .invokevirtual 150, 3, 287, 1, 91, 0, 0) from rfl) rfl rfl rfl (e_X10_fitAt ((I1)) L (A1) J 2 14 rt (sc1) (xs (6 * i + 1)) _ h2) rfl (Or.inl rfl) ?_
  show M (626, tw_l6 i, [.int x, .int x], ((I2), L, tw_P 2 14 rt (sc1), (A2), J, 57))
  refine hM.1 _ _ _ _ _ _ (show tw_c323[626]? = some (1151, .if_icmp .eq 803, 3, 1164, 0, 0, 0, 0) from rfl) (by exact if_pos rfl) rfl ?_
  exact K _ _ _ _ _ _ hI
theorem tw_case_32 {M : tw_C → Prop} {L0 : Nat} {xs : Nat → Int32} (hM : tw_Cl M L0 xs) {i : Nat} (hi : 6 * i + 5 < L0) (hL : L0 < 2 ^ 31) {I : Nat → Int32} {L : Nat → Int64} {A : Nat → Nat → Int32} {J : Nat → Nat → Int64} {rt sc : Nat} (h : tm_Inv I A) (K : ∀ (I : Nat → Int32) (L : Nat → Int64) (A : Nat → Nat → Int32) (J : Nat → Nat → Int64) (rt sc : Nat), tm_Inv I A → M (1164, tw_l6 i, [], (I, L, tw_P 2 14 rt sc, A, J, 57))) : M (629, tw_l6 i, [], (I, L, tw_P 2 14 rt sc, A, J, 57)) := by
  obtain ⟨x, I1, A1, sc1, h1, I2, A2, h2, hI⟩ := tm_q_could h sc
  refine hM.1 _ _ _ _ _ (630, tw_l6 i, [.ref 0], (I, L, tw_P 2 14 rt sc, A, J, 57)) (show tw_c323[629]? = some (1156, .aload_n 1, 1, 0, 0, 0, 0, 0) from rfl) rfl rfl ?_
  refine hM.2.1 630 _ _ _ _ _ _ _ _ (show tw_c323[630]? = some (1157, .invokevirtual 151, 3, 145, 0, 81, 0, 0) from rfl) rfl rfl rfl (e_X9_could (I) L A J rt sc  _ h1) rfl (Or.inl rfl) ?_
  show M (631, tw_l6 i, [.int x], ((I1), L, tw_P 2 14 rt (sc1), (A1), J, 57))
  refine hM.1 _ _ _ _ _ (632, tw_l6 i, [.ref 44, .int x], ((I1), L, tw_P 2 14 rt (sc1), (A1), J, 57)) (show tw_c323[631]? = some (1160, .aload_n 2, 1, 0, 0, 0, 0, 0) from rfl) rfl rfl ?_
  refine hM.2.1 632 _ _ _ _ _ _ _ _ (show tw_c323[632]? = some (1161, .invokevirtual 154, 3, 288, 0, 91, 0, 0) from rfl) rfl rfl rfl (e_X10_could ((I1)) L (A1) J 2 14 rt (sc1)  _ h2) rfl (Or.inl rfl) ?_
  show M (633, tw_l6 i, [.int x, .int x], ((I2), L, tw_P 2 14 rt (sc1), (A2), J, 57))
  refine hM.1 _ _ _ _ _ _ (show tw_c323[633]? = some (1164, .if_icmp .eq 790, 3, 1164, 0, 0, 0, 0) from rfl) (by exact if_pos rfl) rfl ?_
  exact K _ _ _ _ _ _ hI
theorem tw_case_33 {M : tw_C → Prop} {L0 : Nat} {xs : Nat → Int32} (hM : tw_Cl M L0 xs) {i : Nat} (hi : 6 * i + 5 < L0) (hL : L0 < 2 ^ 31) {I : Nat → Int32} {L : Nat → Int64} {A : Nat → Nat → Int32} {J : Nat → Nat → Int64} {rt sc : Nat} (h : tm_Inv I A) (K : ∀ (I : Nat → Int32) (L : Nat → Int64) (A : Nat → Nat → Int32) (J : Nat → Nat → Int64) (rt sc : Nat), tm_Inv I A → M (1164, tw_l6 i, [], (I, L, tw_P 2 14 rt sc, A, J, 57))) : M (636, tw_l6 i, [], (I, L, tw_P 2 14 rt sc, A, J, 57)) := by
  obtain ⟨x, I1, A1, sc1, h1, I2, A2, h2, hI⟩ := tm_q_surely h sc
  refine hM.1 _ _ _ _ _ (637, tw_l6 i, [.ref 0], (I, L, tw_P 2 14 rt sc, A, J, 57)) (show tw_c323[636]? = some (1169, .aload_n 1, 1, 0, 0, 0, 0, 0) from rfl) rfl rfl ?_
  refine hM.2.1 637 _ _ _ _ _ _ _ _ (show tw_c323[637]? = some (1170, .invokevirtual 155, 3, 146, 0, 81, 0, 0) from rfl) rfl rfl rfl (e_X9_surely (I) L A J rt sc  _ h1) rfl (Or.inl rfl) ?_
  show M (638, tw_l6 i, [.int x], ((I1), L, tw_P 2 14 rt (sc1), (A1), J, 57))
  refine hM.1 _ _ _ _ _ (639, tw_l6 i, [.ref 44, .int x], ((I1), L, tw_P 2 14 rt (sc1), (A1), J, 57)) (show tw_c323[638]? = some (1173, .aload_n 2, 1, 0, 0, 0, 0, 0) from rfl) rfl rfl ?_
  refine hM.2.1 639 _ _ _ _ _ _ _ _ (show tw_c323[639]? = some (1174, .invokevirtual 158, 3, 289, 0, 91, 0, 0) from rfl) rfl rfl rfl (e_X10_surely ((I1)) L (A1) J 2 14 rt (sc1)  _ h2) rfl (Or.inl rfl) ?_
  show M (640, tw_l6 i, [.int x, .int x], ((I2), L, tw_P 2 14 rt (sc1), (A2), J, 57))
  refine hM.1 _ _ _ _ _ _ (show tw_c323[640]? = some (1177, .if_icmp .eq 777, 3, 1164, 0, 0, 0, 0) from rfl) (by exact if_pos rfl) rfl ?_
  exact K _ _ _ _ _ _ hI
theorem tw_case_34 {M : tw_C → Prop} {L0 : Nat} {xs : Nat → Int32} (hM : tw_Cl M L0 xs) {i : Nat} (hi : 6 * i + 5 < L0) (hL : L0 < 2 ^ 31) {I : Nat → Int32} {L : Nat → Int64} {A : Nat → Nat → Int32} {J : Nat → Nat → Int64} {rt sc : Nat} (h : tm_Inv I A) (K : ∀ (I : Nat → Int32) (L : Nat → Int64) (A : Nat → Nat → Int32) (J : Nat → Nat → Int64) (rt sc : Nat), tm_Inv I A → M (1164, tw_l6 i, [], (I, L, tw_P 2 14 rt sc, A, J, 57))) : M (643, tw_l6 i, [], (I, L, tw_P 2 14 rt sc, A, J, 57)) := by
  obtain ⟨x, I1, A1, sc1, h1, I2, A2, h2, hI⟩ := tm_q_ask h sc
  refine hM.1 _ _ _ _ _ (644, tw_l6 i, [.ref 0], (I, L, tw_P 2 14 rt sc, A, J, 57)) (show tw_c323[643]? = some (1182, .aload_n 1, 1, 0, 0, 0, 0, 0) from rfl) rfl rfl ?_
  refine hM.2.1 644 _ _ _ _ _ _ _ _ (show tw_c323[644]? = some (1183, .invokevirtual 159, 3, 147, 0, 81, 0, 0) from rfl) rfl rfl rfl (e_X9_ask (I) L A J rt sc  _ h1) rfl (Or.inl rfl) ?_
  show M (645, tw_l6 i, [.int x], ((I1), L, tw_P 2 14 rt (sc1), (A1), J, 57))
  refine hM.1 _ _ _ _ _ (646, tw_l6 i, [.ref 44, .int x], ((I1), L, tw_P 2 14 rt (sc1), (A1), J, 57)) (show tw_c323[645]? = some (1186, .aload_n 2, 1, 0, 0, 0, 0, 0) from rfl) rfl rfl ?_
  refine hM.2.1 646 _ _ _ _ _ _ _ _ (show tw_c323[646]? = some (1187, .invokevirtual 162, 3, 292, 0, 91, 0, 0) from rfl) rfl rfl rfl (e_X10_ask ((I1)) L (A1) J 2 14 rt (sc1)  _ h2) rfl (Or.inl rfl) ?_
  show M (647, tw_l6 i, [.int x, .int x], ((I2), L, tw_P 2 14 rt (sc1), (A2), J, 57))
  refine hM.1 _ _ _ _ _ _ (show tw_c323[647]? = some (1190, .if_icmp .eq 764, 3, 1164, 0, 0, 0, 0) from rfl) (by exact if_pos rfl) rfl ?_
  exact K _ _ _ _ _ _ hI
theorem tw_case_35 {M : tw_C → Prop} {L0 : Nat} {xs : Nat → Int32} (hM : tw_Cl M L0 xs) {i : Nat} (hi : 6 * i + 5 < L0) (hL : L0 < 2 ^ 31) {I : Nat → Int32} {L : Nat → Int64} {A : Nat → Nat → Int32} {J : Nat → Nat → Int64} {rt sc : Nat} (h : tm_Inv I A) (K : ∀ (I : Nat → Int32) (L : Nat → Int64) (A : Nat → Nat → Int32) (J : Nat → Nat → Int64) (rt sc : Nat), tm_Inv I A → M (1164, tw_l6 i, [], (I, L, tw_P 2 14 rt sc, A, J, 57))) : M (650, tw_l6 i, [], (I, L, tw_P 2 14 rt sc, A, J, 57)) := by
  obtain ⟨x, I1, A1, sc1, h1, I2, A2, h2, hI⟩ := tm_q_askLeaves h sc
  refine hM.1 _ _ _ _ _ (651, tw_l6 i, [.ref 0], (I, L, tw_P 2 14 rt sc, A, J, 57)) (show tw_c323[650]? = some (1195, .aload_n 1, 1, 0, 0, 0, 0, 0) from rfl) rfl rfl ?_
  refine hM.2.1 651 _ _ _ _ _ _ _ _ (show tw_c323[651]? = some (1196, .invokevirtual 163, 3, 148, 0, 81, 0, 0) from rfl) rfl rfl rfl (e_X9_askLeaves (I) L A J rt sc  _ h1) rfl (Or.inl rfl) ?_
  show M (652, tw_l6 i, [.int x], ((I1), L, tw_P 2 14 rt (sc1), (A1), J, 57))
  refine hM.1 _ _ _ _ _ (653, tw_l6 i, [.ref 44, .int x], ((I1), L, tw_P 2 14 rt (sc1), (A1), J, 57)) (show tw_c323[652]? = some (1199, .aload_n 2, 1, 0, 0, 0, 0, 0) from rfl) rfl rfl ?_
  refine hM.2.1 653 _ _ _ _ _ _ _ _ (show tw_c323[653]? = some (1200, .invokevirtual 166, 3, 293, 0, 91, 0, 0) from rfl) rfl rfl rfl (e_X10_askLeaves ((I1)) L (A1) J 2 14 rt (sc1)  _ h2) rfl (Or.inl rfl) ?_
  show M (654, tw_l6 i, [.int x, .int x], ((I2), L, tw_P 2 14 rt (sc1), (A2), J, 57))
  refine hM.1 _ _ _ _ _ _ (show tw_c323[654]? = some (1203, .if_icmp .eq 751, 3, 1164, 0, 0, 0, 0) from rfl) (by exact if_pos rfl) rfl ?_
  exact K _ _ _ _ _ _ hI
theorem tw_case_36 {M : tw_C → Prop} {L0 : Nat} {xs : Nat → Int32} (hM : tw_Cl M L0 xs) {i : Nat} (hi : 6 * i + 5 < L0) (hL : L0 < 2 ^ 31) {I : Nat → Int32} {L : Nat → Int64} {A : Nat → Nat → Int32} {J : Nat → Nat → Int64} {rt sc : Nat} (h : tm_Inv I A) (K : ∀ (I : Nat → Int32) (L : Nat → Int64) (A : Nat → Nat → Int32) (J : Nat → Nat → Int64) (rt sc : Nat), tm_Inv I A → M (1164, tw_l6 i, [], (I, L, tw_P 2 14 rt sc, A, J, 57))) : M (657, tw_l6 i, [], (I, L, tw_P 2 14 rt sc, A, J, 57)) := by
  obtain ⟨x, I1, A1, sc1, h1, I2, A2, h2, hI⟩ := tm_q_judge h sc
  refine hM.1 _ _ _ _ _ (658, tw_l6 i, [.ref 0], (I, L, tw_P 2 14 rt sc, A, J, 57)) (show tw_c323[657]? = some (1208, .aload_n 1, 1, 0, 0, 0, 0, 0) from rfl) rfl rfl ?_
  refine hM.2.1 658 _ _ _ _ _ _ _ _ (show tw_c323[658]? = some (1209, .invokevirtual 167, 3, 149, 0, 81, 0, 0) from rfl) rfl rfl rfl (e_X9_judge (I) L A J rt sc  _ h1) rfl (Or.inl rfl) ?_
  show M (659, tw_l6 i, [.int x], ((I1), L, tw_P 2 14 rt (sc1), (A1), J, 57))
  refine hM.1 _ _ _ _ _ (660, tw_l6 i, [.ref 44, .int x], ((I1), L, tw_P 2 14 rt (sc1), (A1), J, 57)) (show tw_c323[659]? = some (1212, .aload_n 2, 1, 0, 0, 0, 0, 0) from rfl) rfl rfl ?_
  refine hM.2.1 660 _ _ _ _ _ _ _ _ (show tw_c323[660]? = some (1213, .invokevirtual 170, 3, 294, 0, 91, 0, 0) from rfl) rfl rfl rfl (e_X10_judge ((I1)) L (A1) J 2 14 rt (sc1)  _ h2) rfl (Or.inl rfl) ?_
  show M (661, tw_l6 i, [.int x, .int x], ((I2), L, tw_P 2 14 rt (sc1), (A2), J, 57))
  refine hM.1 _ _ _ _ _ _ (show tw_c323[661]? = some (1216, .if_icmp .eq 738, 3, 1164, 0, 0, 0, 0) from rfl) (by exact if_pos rfl) rfl ?_
  exact K _ _ _ _ _ _ hI
theorem tw_case_37 {M : tw_C → Prop} {L0 : Nat} {xs : Nat → Int32} (hM : tw_Cl M L0 xs) {i : Nat} (hi : 6 * i + 5 < L0) (hL : L0 < 2 ^ 31) {I : Nat → Int32} {L : Nat → Int64} {A : Nat → Nat → Int32} {J : Nat → Nat → Int64} {rt sc : Nat} (h : tm_Inv I A) (K : ∀ (I : Nat → Int32) (L : Nat → Int64) (A : Nat → Nat → Int32) (J : Nat → Nat → Int64) (rt sc : Nat), tm_Inv I A → M (1164, tw_l6 i, [], (I, L, tw_P 2 14 rt sc, A, J, 57))) : M (664, tw_l6 i, [], (I, L, tw_P 2 14 rt sc, A, J, 57)) := by
  obtain ⟨x, I1, A1, sc1, h1, I2, A2, h2, hI⟩ := tm_q_swings h sc (xs (6 * i + 1)) (xs (6 * i + 2)) (xs (6 * i + 3)) (if xs (6 * i + 4) = 0 then 0 else 1)
  refine hM.1 _ _ _ _ _ (665, tw_l6 i, [.ref 0], (I, L, tw_P 2 14 rt sc, A, J, 57)) (show tw_c323[664]? = some (1221, .aload_n 1, 1, 0, 0, 0, 0, 0) from rfl) rfl rfl ?_
  refine tw_ldM hM (k := 665) (k5 := 670) (show (tw_c323.drop 665).take 5 = [(1222, .aload_n 0, 1, 0, 0, 0, 0, 0), (1223, .iload 4, 2, 0, 0, 0, 0, 0), (1225, .iconst 1, 1, 0, 0, 0, 1, 0), (1226, .iadd, 1, 0, 0, 0, 0, 0), (1227, .iaload, 1, 0, 0, 0, 0, 0)] from rfl) rfl (j := 1) rfl (by omega) hL ?_
  refine tw_ldM hM (k := 670) (k5 := 675) (show (tw_c323.drop 670).take 5 = [(1228, .aload_n 0, 1, 0, 0, 0, 0, 0), (1229, .iload 4, 2, 0, 0, 0, 0, 0), (1231, .iconst 2, 1, 0, 0, 0, 2, 0), (1232, .iadd, 1, 0, 0, 0, 0, 0), (1233, .iaload, 1, 0, 0, 0, 0, 0)] from rfl) rfl (j := 2) rfl (by omega) hL ?_
  refine tw_ldM hM (k := 675) (k5 := 680) (show (tw_c323.drop 675).take 5 = [(1234, .aload_n 0, 1, 0, 0, 0, 0, 0), (1235, .iload 4, 2, 0, 0, 0, 0, 0), (1237, .iconst 3, 1, 0, 0, 0, 3, 0), (1238, .iadd, 1, 0, 0, 0, 0, 0), (1239, .iaload, 1, 0, 0, 0, 0, 0)] from rfl) rfl (j := 3) rfl (by omega) hL ?_
  refine tw_ldBM hM (k := 680) (k9 := 689) (show (tw_c323.drop 680).take 9 = [(1240, .aload_n 0, 1, 0, 0, 0, 0, 0), (1241, .iload 4, 2, 0, 0, 0, 0, 0), (1243, .iconst 4, 1, 0, 0, 0, 4, 0), (1244, .iadd, 1, 0, 0, 0, 0, 0), (1245, .iaload, 1, 0, 0, 0, 0, 0), (1246, .ifCond .eq 7, 3, 688, 0, 0, 0, 0), (1249, .iconst 1, 1, 0, 0, 0, 1, 0), (1250, .goto 4, 3, 689, 0, 0, 0, 0), (1253, .iconst 0, 1, 0, 0, 0, 0, 0)] from rfl) rfl rfl rfl (j := 4) rfl (by omega) hL ?_
  refine hM.2.1 689 _ _ _ _ _ _ _ _ (show tw_c323[689]? = some (1254, .invokevirtual 171, 3, 150, 4, 81, 0, 0) from rfl) rfl rfl rfl (e_X9_swings (I) L A J rt sc (xs (6 * i + 1)) (xs (6 * i + 2)) (xs (6 * i + 3)) (if xs (6 * i + 4) = 0 then 0 else 1) _ h1) rfl (Or.inl rfl) ?_
  show M (690, tw_l6 i, [.long x], ((I1), L, tw_P 2 14 rt (sc1), (A1), J, 57))
  refine hM.1 _ _ _ _ _ (691, tw_l6 i, [.ref 44, .long x], ((I1), L, tw_P 2 14 rt (sc1), (A1), J, 57)) (show tw_c323[690]? = some (1257, .aload_n 2, 1, 0, 0, 0, 0, 0) from rfl) rfl rfl ?_
  refine tw_ldM hM (k := 691) (k5 := 696) (show (tw_c323.drop 691).take 5 = [(1258, .aload_n 0, 1, 0, 0, 0, 0, 0), (1259, .iload 4, 2, 0, 0, 0, 0, 0), (1261, .iconst 1, 1, 0, 0, 0, 1, 0), (1262, .iadd, 1, 0, 0, 0, 0, 0), (1263, .iaload, 1, 0, 0, 0, 0, 0)] from rfl) rfl (j := 1) rfl (by omega) hL ?_
  refine tw_ldM hM (k := 696) (k5 := 701) (show (tw_c323.drop 696).take 5 = [(1264, .aload_n 0, 1, 0, 0, 0, 0, 0), (1265, .iload 4, 2, 0, 0, 0, 0, 0), (1267, .iconst 2, 1, 0, 0, 0, 2, 0), (1268, .iadd, 1, 0, 0, 0, 0, 0), (1269, .iaload, 1, 0, 0, 0, 0, 0)] from rfl) rfl (j := 2) rfl (by omega) hL ?_
  refine tw_ldM hM (k := 701) (k5 := 706) (show (tw_c323.drop 701).take 5 = [(1270, .aload_n 0, 1, 0, 0, 0, 0, 0), (1271, .iload 4, 2, 0, 0, 0, 0, 0), (1273, .iconst 3, 1, 0, 0, 0, 3, 0), (1274, .iadd, 1, 0, 0, 0, 0, 0), (1275, .iaload, 1, 0, 0, 0, 0, 0)] from rfl) rfl (j := 3) rfl (by omega) hL ?_
  refine tw_ldBM hM (k := 706) (k9 := 715) (show (tw_c323.drop 706).take 9 = [(1276, .aload_n 0, 1, 0, 0, 0, 0, 0), (1277, .iload 4, 2, 0, 0, 0, 0, 0), (1279, .iconst 4, 1, 0, 0, 0, 4, 0), (1280, .iadd, 1, 0, 0, 0, 0, 0), (1281, .iaload, 1, 0, 0, 0, 0, 0), (1282, .ifCond .eq 7, 3, 714, 0, 0, 0, 0), (1285, .iconst 1, 1, 0, 0, 0, 1, 0), (1286, .goto 4, 3, 715, 0, 0, 0, 0), (1289, .iconst 0, 1, 0, 0, 0, 0, 0)] from rfl) rfl rfl rfl (j := 4) rfl (by omega) hL ?_
  refine hM.2.1 715 _ _ _ _ _ _ _ _ (show tw_c323[715]? = some (1290, .invokevirtual 175, 3, 295, 4, 91, 0, 0) from rfl) rfl rfl rfl (e_X10_swings ((I1)) L (A1) J 2 14 rt (sc1) (xs (6 * i + 1)) (xs (6 * i + 2)) (xs (6 * i + 3)) (if xs (6 * i + 4) = 0 then 0 else 1) _ h2) rfl (Or.inl rfl) ?_
  show M (716, tw_l6 i, [.long x, .long x], ((I2), L, tw_P 2 14 rt (sc1), (A2), J, 57))
  refine hM.1 _ _ _ _ _ (717, tw_l6 i, [.int (lg_cmp x x)], ((I2), L, tw_P 2 14 rt (sc1), (A2), J, 57)) (show tw_c323[716]? = some (1293, .lcmp, 1, 0, 0, 0, 0, 0) from rfl) rfl rfl ?_
  refine hM.1 _ _ _ _ _ _ (show tw_c323[717]? = some (1294, .ifCond .eq 660, 3, 1164, 0, 0, 0, 0) from rfl) (by exact if_pos ((lg_cmp_eq _ _).mpr rfl)) rfl ?_
  exact K _ _ _ _ _ _ hI
theorem tw_case_38 {M : tw_C → Prop} {L0 : Nat} {xs : Nat → Int32} (hM : tw_Cl M L0 xs) {i : Nat} (hi : 6 * i + 5 < L0) (hL : L0 < 2 ^ 31) {I : Nat → Int32} {L : Nat → Int64} {A : Nat → Nat → Int32} {J : Nat → Nat → Int64} {rt sc : Nat} (h : tm_Inv I A) (K : ∀ (I : Nat → Int32) (L : Nat → Int64) (A : Nat → Nat → Int32) (J : Nat → Nat → Int64) (rt sc : Nat), tm_Inv I A → M (1164, tw_l6 i, [], (I, L, tw_P 2 14 rt sc, A, J, 57))) : M (720, tw_l6 i, [], (I, L, tw_P 2 14 rt sc, A, J, 57)) := by
  obtain ⟨x, I1, A1, sc1, h1, I2, A2, h2, hI⟩ := tm_q_three h sc (xs (6 * i + 1)) (xs (6 * i + 2))
  refine hM.1 _ _ _ _ _ (721, tw_l6 i, [.ref 0], (I, L, tw_P 2 14 rt sc, A, J, 57)) (show tw_c323[720]? = some (1299, .aload_n 1, 1, 0, 0, 0, 0, 0) from rfl) rfl rfl ?_
  refine tw_ldM hM (k := 721) (k5 := 726) (show (tw_c323.drop 721).take 5 = [(1300, .aload_n 0, 1, 0, 0, 0, 0, 0), (1301, .iload 4, 2, 0, 0, 0, 0, 0), (1303, .iconst 1, 1, 0, 0, 0, 1, 0), (1304, .iadd, 1, 0, 0, 0, 0, 0), (1305, .iaload, 1, 0, 0, 0, 0, 0)] from rfl) rfl (j := 1) rfl (by omega) hL ?_
  refine tw_ldM hM (k := 726) (k5 := 731) (show (tw_c323.drop 726).take 5 = [(1306, .aload_n 0, 1, 0, 0, 0, 0, 0), (1307, .iload 4, 2, 0, 0, 0, 0, 0), (1309, .iconst 2, 1, 0, 0, 0, 2, 0), (1310, .iadd, 1, 0, 0, 0, 0, 0), (1311, .iaload, 1, 0, 0, 0, 0, 0)] from rfl) rfl (j := 2) rfl (by omega) hL ?_
  refine hM.2.1 731 _ _ _ _ _ _ _ _ (show tw_c323[731]? = some (1312, .invokevirtual 176, 3, 151, 2, 81, 0, 0) from rfl) rfl rfl rfl (e_X9_three (I) L A J rt sc (xs (6 * i + 1)) (xs (6 * i + 2)) _ h1) rfl (Or.inl rfl) ?_
  show M (732, tw_l6 i, [.int x], ((I1), L, tw_P 2 14 rt (sc1), (A1), J, 57))
  refine hM.1 _ _ _ _ _ (733, tw_l6 i, [.ref 44, .int x], ((I1), L, tw_P 2 14 rt (sc1), (A1), J, 57)) (show tw_c323[732]? = some (1315, .aload_n 2, 1, 0, 0, 0, 0, 0) from rfl) rfl rfl ?_
  refine tw_ldM hM (k := 733) (k5 := 738) (show (tw_c323.drop 733).take 5 = [(1316, .aload_n 0, 1, 0, 0, 0, 0, 0), (1317, .iload 4, 2, 0, 0, 0, 0, 0), (1319, .iconst 1, 1, 0, 0, 0, 1, 0), (1320, .iadd, 1, 0, 0, 0, 0, 0), (1321, .iaload, 1, 0, 0, 0, 0, 0)] from rfl) rfl (j := 1) rfl (by omega) hL ?_
  refine tw_ldM hM (k := 738) (k5 := 743) (show (tw_c323.drop 738).take 5 = [(1322, .aload_n 0, 1, 0, 0, 0, 0, 0), (1323, .iload 4, 2, 0, 0, 0, 0, 0), (1325, .iconst 2, 1, 0, 0, 0, 2, 0), (1326, .iadd, 1, 0, 0, 0, 0, 0), (1327, .iaload, 1, 0, 0, 0, 0, 0)] from rfl) rfl (j := 2) rfl (by omega) hL ?_
  refine hM.2.1 743 _ _ _ _ _ _ _ _ (show tw_c323[743]? = some (1328, .invokevirtual 179, 3, 296, 2, 91, 0, 0) from rfl) rfl rfl rfl (e_X10_three ((I1)) L (A1) J 2 14 rt (sc1) (xs (6 * i + 1)) (xs (6 * i + 2)) _ h2) rfl (Or.inl rfl) ?_
  show M (744, tw_l6 i, [.int x, .int x], ((I2), L, tw_P 2 14 rt (sc1), (A2), J, 57))
  refine hM.1 _ _ _ _ _ _ (show tw_c323[744]? = some (1331, .if_icmp .eq 623, 3, 1164, 0, 0, 0, 0) from rfl) (by exact if_pos rfl) rfl ?_
  exact K _ _ _ _ _ _ hI
theorem tw_case_39 {M : tw_C → Prop} {L0 : Nat} {xs : Nat → Int32} (hM : tw_Cl M L0 xs) {i : Nat} (hi : 6 * i + 5 < L0) (hL : L0 < 2 ^ 31) {I : Nat → Int32} {L : Nat → Int64} {A : Nat → Nat → Int32} {J : Nat → Nat → Int64} {rt sc : Nat} (h : tm_Inv I A) (K : ∀ (I : Nat → Int32) (L : Nat → Int64) (A : Nat → Nat → Int32) (J : Nat → Nat → Int64) (rt sc : Nat), tm_Inv I A → M (1164, tw_l6 i, [], (I, L, tw_P 2 14 rt sc, A, J, 57))) : M (747, tw_l6 i, [], (I, L, tw_P 2 14 rt sc, A, J, 57)) := by
  obtain ⟨x, I1, h1, I2, h2, hI⟩ := tm_q_says h (xs (6 * i + 1)) (if xs (6 * i + 2) = 0 then 0 else 1) (if xs (6 * i + 3) = 0 then 0 else 1) (if xs (6 * i + 4) = 0 then 0 else 1)
  refine hM.1 _ _ _ _ _ (748, tw_l6 i, [.ref 0], (I, L, tw_P 2 14 rt sc, A, J, 57)) (show tw_c323[747]? = some (1336, .aload_n 1, 1, 0, 0, 0, 0, 0) from rfl) rfl rfl ?_
  refine tw_ldM hM (k := 748) (k5 := 753) (show (tw_c323.drop 748).take 5 = [(1337, .aload_n 0, 1, 0, 0, 0, 0, 0), (1338, .iload 4, 2, 0, 0, 0, 0, 0), (1340, .iconst 1, 1, 0, 0, 0, 1, 0), (1341, .iadd, 1, 0, 0, 0, 0, 0), (1342, .iaload, 1, 0, 0, 0, 0, 0)] from rfl) rfl (j := 1) rfl (by omega) hL ?_
  refine tw_ldBM hM (k := 753) (k9 := 762) (show (tw_c323.drop 753).take 9 = [(1343, .aload_n 0, 1, 0, 0, 0, 0, 0), (1344, .iload 4, 2, 0, 0, 0, 0, 0), (1346, .iconst 2, 1, 0, 0, 0, 2, 0), (1347, .iadd, 1, 0, 0, 0, 0, 0), (1348, .iaload, 1, 0, 0, 0, 0, 0), (1349, .ifCond .eq 7, 3, 761, 0, 0, 0, 0), (1352, .iconst 1, 1, 0, 0, 0, 1, 0), (1353, .goto 4, 3, 762, 0, 0, 0, 0), (1356, .iconst 0, 1, 0, 0, 0, 0, 0)] from rfl) rfl rfl rfl (j := 2) rfl (by omega) hL ?_
  refine tw_ldBM hM (k := 762) (k9 := 771) (show (tw_c323.drop 762).take 9 = [(1357, .aload_n 0, 1, 0, 0, 0, 0, 0), (1358, .iload 4, 2, 0, 0, 0, 0, 0), (1360, .iconst 3, 1, 0, 0, 0, 3, 0), (1361, .iadd, 1, 0, 0, 0, 0, 0), (1362, .iaload, 1, 0, 0, 0, 0, 0), (1363, .ifCond .eq 7, 3, 770, 0, 0, 0, 0), (1366, .iconst 1, 1, 0, 0, 0, 1, 0), (1367, .goto 4, 3, 771, 0, 0, 0, 0), (1370, .iconst 0, 1, 0, 0, 0, 0, 0)] from rfl) rfl rfl rfl (j := 3) rfl (by omega) hL ?_
  refine tw_ldBM hM (k := 771) (k9 := 780) (show (tw_c323.drop 771).take 9 = [(1371, .aload_n 0, 1, 0, 0, 0, 0, 0), (1372, .iload 4, 2, 0, 0, 0, 0, 0), (1374, .iconst 4, 1, 0, 0, 0, 4, 0), (1375, .iadd, 1, 0, 0, 0, 0, 0), (1376, .iaload, 1, 0, 0, 0, 0, 0), (1377, .ifCond .eq 7, 3, 779, 0, 0, 0, 0), (1380, .iconst 1, 1, 0, 0, 0, 1, 0), (1381, .goto 4, 3, 780, 0, 0, 0, 0), (1384, .iconst 0, 1, 0, 0, 0, 0, 0)] from rfl) rfl rfl rfl (j := 4) rfl (by omega) hL ?_
  refine hM.2.1 780 _ _ _ _ _ _ _ _ (show tw_c323[780]? = some (1385, .invokevirtual 180, 3, 152, 4, 81, 0, 0) from rfl) rfl rfl rfl (e_X9_says (I) L A J rt sc (xs (6 * i + 1)) (if xs (6 * i + 2) = 0 then 0 else 1) (if xs (6 * i + 3) = 0 then 0 else 1) (if xs (6 * i + 4) = 0 then 0 else 1) _ h1) rfl (Or.inl rfl) ?_
  show M (781, tw_l6 i, [.int x], ((I1), L, tw_P 2 14 rt sc, A, J, 57))
  refine hM.1 _ _ _ _ _ (782, tw_l6 i, [.ref 44, .int x], ((I1), L, tw_P 2 14 rt sc, A, J, 57)) (show tw_c323[781]? = some (1388, .aload_n 2, 1, 0, 0, 0, 0, 0) from rfl) rfl rfl ?_
  refine tw_ldM hM (k := 782) (k5 := 787) (show (tw_c323.drop 782).take 5 = [(1389, .aload_n 0, 1, 0, 0, 0, 0, 0), (1390, .iload 4, 2, 0, 0, 0, 0, 0), (1392, .iconst 1, 1, 0, 0, 0, 1, 0), (1393, .iadd, 1, 0, 0, 0, 0, 0), (1394, .iaload, 1, 0, 0, 0, 0, 0)] from rfl) rfl (j := 1) rfl (by omega) hL ?_
  refine tw_ldBM hM (k := 787) (k9 := 796) (show (tw_c323.drop 787).take 9 = [(1395, .aload_n 0, 1, 0, 0, 0, 0, 0), (1396, .iload 4, 2, 0, 0, 0, 0, 0), (1398, .iconst 2, 1, 0, 0, 0, 2, 0), (1399, .iadd, 1, 0, 0, 0, 0, 0), (1400, .iaload, 1, 0, 0, 0, 0, 0), (1401, .ifCond .eq 7, 3, 795, 0, 0, 0, 0), (1404, .iconst 1, 1, 0, 0, 0, 1, 0), (1405, .goto 4, 3, 796, 0, 0, 0, 0), (1408, .iconst 0, 1, 0, 0, 0, 0, 0)] from rfl) rfl rfl rfl (j := 2) rfl (by omega) hL ?_
  refine tw_ldBM hM (k := 796) (k9 := 805) (show (tw_c323.drop 796).take 9 = [(1409, .aload_n 0, 1, 0, 0, 0, 0, 0), (1410, .iload 4, 2, 0, 0, 0, 0, 0), (1412, .iconst 3, 1, 0, 0, 0, 3, 0), (1413, .iadd, 1, 0, 0, 0, 0, 0), (1414, .iaload, 1, 0, 0, 0, 0, 0), (1415, .ifCond .eq 7, 3, 804, 0, 0, 0, 0), (1418, .iconst 1, 1, 0, 0, 0, 1, 0), (1419, .goto 4, 3, 805, 0, 0, 0, 0), (1422, .iconst 0, 1, 0, 0, 0, 0, 0)] from rfl) rfl rfl rfl (j := 3) rfl (by omega) hL ?_
  refine tw_ldBM hM (k := 805) (k9 := 814) (show (tw_c323.drop 805).take 9 = [(1423, .aload_n 0, 1, 0, 0, 0, 0, 0), (1424, .iload 4, 2, 0, 0, 0, 0, 0), (1426, .iconst 4, 1, 0, 0, 0, 4, 0), (1427, .iadd, 1, 0, 0, 0, 0, 0), (1428, .iaload, 1, 0, 0, 0, 0, 0), (1429, .ifCond .eq 7, 3, 813, 0, 0, 0, 0), (1432, .iconst 1, 1, 0, 0, 0, 1, 0), (1433, .goto 4, 3, 814, 0, 0, 0, 0), (1436, .iconst 0, 1, 0, 0, 0, 0, 0)] from rfl) rfl rfl rfl (j := 4) rfl (by omega) hL ?_
  refine hM.2.1 814 _ _ _ _ _ _ _ _ (show tw_c323[814]? = some (1437, .invokevirtual 184, 3, 298, 4, 91, 0, 0) from rfl) rfl rfl rfl (e_X10_says ((I1)) L A J 2 14 rt sc (xs (6 * i + 1)) (if xs (6 * i + 2) = 0 then 0 else 1) (if xs (6 * i + 3) = 0 then 0 else 1) (if xs (6 * i + 4) = 0 then 0 else 1) _ h2) rfl (Or.inl rfl) ?_
  show M (815, tw_l6 i, [.int x, .int x], ((I2), L, tw_P 2 14 rt sc, A, J, 57))
  refine hM.1 _ _ _ _ _ _ (show tw_c323[815]? = some (1440, .if_icmp .eq 514, 3, 1164, 0, 0, 0, 0) from rfl) (by exact if_pos rfl) rfl ?_
  exact K _ _ _ _ _ _ hI
theorem tw_case_40 {M : tw_C → Prop} {L0 : Nat} {xs : Nat → Int32} (hM : tw_Cl M L0 xs) {i : Nat} (hi : 6 * i + 5 < L0) (hL : L0 < 2 ^ 31) {I : Nat → Int32} {L : Nat → Int64} {A : Nat → Nat → Int32} {J : Nat → Nat → Int64} {rt sc : Nat} (h : tm_Inv I A) (K : ∀ (I : Nat → Int32) (L : Nat → Int64) (A : Nat → Nat → Int32) (J : Nat → Nat → Int64) (rt sc : Nat), tm_Inv I A → M (1164, tw_l6 i, [], (I, L, tw_P 2 14 rt sc, A, J, 57))) : M (818, tw_l6 i, [], (I, L, tw_P 2 14 rt sc, A, J, 57)) := by
  obtain ⟨x, I1, h1, I2, h2, hI⟩ := tm_q_rests h (xs (6 * i + 1))
  refine hM.1 _ _ _ _ _ (819, tw_l6 i, [.ref 0], (I, L, tw_P 2 14 rt sc, A, J, 57)) (show tw_c323[818]? = some (1445, .aload_n 1, 1, 0, 0, 0, 0, 0) from rfl) rfl rfl ?_
  refine tw_ldM hM (k := 819) (k5 := 824) (show (tw_c323.drop 819).take 5 = [(1446, .aload_n 0, 1, 0, 0, 0, 0, 0), (1447, .iload 4, 2, 0, 0, 0, 0, 0), (1449, .iconst 1, 1, 0, 0, 0, 1, 0), (1450, .iadd, 1, 0, 0, 0, 0, 0), (1451, .iaload, 1, 0, 0, 0, 0, 0)] from rfl) rfl (j := 1) rfl (by omega) hL ?_
  refine hM.2.1 824 _ _ _ _ _ _ _ _ (show tw_c323[824]? = some (1452, .invokevirtual 185, 3, 153, 1, 81, 0, 0) from rfl) rfl rfl rfl (e_X9_rests (I) L A J rt sc (xs (6 * i + 1)) _ h1) rfl (Or.inl rfl) ?_
  show M (825, tw_l6 i, [.int x], ((I1), L, tw_P 2 14 rt sc, A, J, 57))
  refine hM.1 _ _ _ _ _ (826, tw_l6 i, [.ref 44, .int x], ((I1), L, tw_P 2 14 rt sc, A, J, 57)) (show tw_c323[825]? = some (1455, .aload_n 2, 1, 0, 0, 0, 0, 0) from rfl) rfl rfl ?_
  refine tw_ldM hM (k := 826) (k5 := 831) (show (tw_c323.drop 826).take 5 = [(1456, .aload_n 0, 1, 0, 0, 0, 0, 0), (1457, .iload 4, 2, 0, 0, 0, 0, 0), (1459, .iconst 1, 1, 0, 0, 0, 1, 0), (1460, .iadd, 1, 0, 0, 0, 0, 0), (1461, .iaload, 1, 0, 0, 0, 0, 0)] from rfl) rfl (j := 1) rfl (by omega) hL ?_
  refine hM.2.1 831 _ _ _ _ _ _ _ _ (show tw_c323[831]? = some (1462, .invokevirtual 188, 3, 300, 1, 91, 0, 0) from rfl) rfl rfl rfl (e_X10_rests ((I1)) L A J 2 14 rt sc (xs (6 * i + 1)) _ h2) rfl (Or.inl rfl) ?_
  show M (832, tw_l6 i, [.int x, .int x], ((I2), L, tw_P 2 14 rt sc, A, J, 57))
  refine hM.1 _ _ _ _ _ _ (show tw_c323[832]? = some (1465, .if_icmp .eq 489, 3, 1164, 0, 0, 0, 0) from rfl) (by exact if_pos rfl) rfl ?_
  exact K _ _ _ _ _ _ hI
theorem tw_case_41 {M : tw_C → Prop} {L0 : Nat} {xs : Nat → Int32} (hM : tw_Cl M L0 xs) {i : Nat} (hi : 6 * i + 5 < L0) (hL : L0 < 2 ^ 31) {I : Nat → Int32} {L : Nat → Int64} {A : Nat → Nat → Int32} {J : Nat → Nat → Int64} {rt sc : Nat} (h : tm_Inv I A) (K : ∀ (I : Nat → Int32) (L : Nat → Int64) (A : Nat → Nat → Int32) (J : Nat → Nat → Int64) (rt sc : Nat), tm_Inv I A → M (1164, tw_l6 i, [], (I, L, tw_P 2 14 rt sc, A, J, 57))) : M (835, tw_l6 i, [], (I, L, tw_P 2 14 rt sc, A, J, 57)) := by
  obtain ⟨x, I1, h1, I2, h2, hI⟩ := tm_q_rest h (xs (6 * i + 1))
  refine hM.1 _ _ _ _ _ (836, tw_l6 i, [.ref 0], (I, L, tw_P 2 14 rt sc, A, J, 57)) (show tw_c323[835]? = some (1470, .aload_n 1, 1, 0, 0, 0, 0, 0) from rfl) rfl rfl ?_
  refine tw_ldM hM (k := 836) (k5 := 841) (show (tw_c323.drop 836).take 5 = [(1471, .aload_n 0, 1, 0, 0, 0, 0, 0), (1472, .iload 4, 2, 0, 0, 0, 0, 0), (1474, .iconst 1, 1, 0, 0, 0, 1, 0), (1475, .iadd, 1, 0, 0, 0, 0, 0), (1476, .iaload, 1, 0, 0, 0, 0, 0)] from rfl) rfl (j := 1) rfl (by omega) hL ?_
  refine hM.2.1 841 _ _ _ _ _ _ _ _ (show tw_c323[841]? = some (1477, .invokevirtual 189, 3, 154, 1, 81, 0, 0) from rfl) rfl rfl rfl (e_X9_rest (I) L A J rt sc (xs (6 * i + 1)) _ h1) rfl (Or.inl rfl) ?_
  show M (842, tw_l6 i, [.int x], ((I1), L, tw_P 2 14 rt sc, A, J, 57))
  refine hM.1 _ _ _ _ _ (843, tw_l6 i, [.ref 44, .int x], ((I1), L, tw_P 2 14 rt sc, A, J, 57)) (show tw_c323[842]? = some (1480, .aload_n 2, 1, 0, 0, 0, 0, 0) from rfl) rfl rfl ?_
  refine tw_ldM hM (k := 843) (k5 := 848) (show (tw_c323.drop 843).take 5 = [(1481, .aload_n 0, 1, 0, 0, 0, 0, 0), (1482, .iload 4, 2, 0, 0, 0, 0, 0), (1484, .iconst 1, 1, 0, 0, 0, 1, 0), (1485, .iadd, 1, 0, 0, 0, 0, 0), (1486, .iaload, 1, 0, 0, 0, 0, 0)] from rfl) rfl (j := 1) rfl (by omega) hL ?_
  refine hM.2.1 848 _ _ _ _ _ _ _ _ (show tw_c323[848]? = some (1487, .invokevirtual 192, 3, 301, 1, 91, 0, 0) from rfl) rfl rfl rfl (e_X10_rest ((I1)) L A J 2 14 rt sc (xs (6 * i + 1)) _ h2) rfl (Or.inl rfl) ?_
  show M (849, tw_l6 i, [.int x, .int x], ((I2), L, tw_P 2 14 rt sc, A, J, 57))
  refine hM.1 _ _ _ _ _ _ (show tw_c323[849]? = some (1490, .if_icmp .eq 464, 3, 1164, 0, 0, 0, 0) from rfl) (by exact if_pos rfl) rfl ?_
  exact K _ _ _ _ _ _ hI
