/-! the law's calls, one by one (by wip/gen/mklaw.py) -/
set_option maxRecDepth 16000
theorem tw_case_14 {M : tw_C → Prop} {L0 : Nat} {xs : Nat → Int32} (hM : tw_Cl M L0 xs) {i : Nat} (hi : 6 * i + 5 < L0) (hL : L0 < 2 ^ 31) {I : Nat → Int32} {L : Nat → Int64} {A : Nat → Nat → Int32} {J : Nat → Nat → Int64} {rt sc : Nat} (h : tm_Inv I A) (K : ∀ (I : Nat → Int32) (L : Nat → Int64) (A : Nat → Nat → Int32) (J : Nat → Nat → Int64) (rt sc : Nat), tm_Inv I A → M (1164, tw_l6 i, [], (I, L, tw_P 2 14 rt sc, A, J, 57))) : M (333, tw_l6 i, [], (I, L, tw_P 2 14 rt sc, A, J, 57)) := by
  obtain ⟨x, I1, A1, sc1, h1, I2, A2, h2, hI⟩ := tm_q_endsAt h sc (xs (6 * i + 1))
  refine hM.1 _ _ _ _ _ (334, tw_l6 i, [.ref 0], (I, L, tw_P 2 14 rt sc, A, J, 57)) (show tw_c323[333]? = some (718, .aload_n 1, 1, 0, 0, 0, 0, 0) from rfl) rfl rfl ?_
  refine tw_ldM hM (k := 334) (k5 := 339) (show (tw_c323.drop 334).take 5 = [(719, .aload_n 0, 1, 0, 0, 0, 0, 0), (720, .iload 4, 2, 0, 0, 0, 0, 0), (722, .iconst 1, 1, 0, 0, 0, 1, 0), (723, .iadd, 1, 0, 0, 0, 0, 0), (724, .iaload, 1, 0, 0, 0, 0, 0)] from rfl) rfl (j := 1) rfl (by omega) hL ?_
  refine hM.2.1 339 _ _ _ _ _ _ _ _ (show tw_c323[339]? = some (725, .invokevirtual 78, 3, 127, 1, 81, 0, 0) from rfl) rfl rfl rfl (e_X9_endsAt (I) L A J rt sc (xs (6 * i + 1)) _ h1) rfl (Or.inl rfl) ?_
  show M (340, tw_l6 i, [.int x], ((I1), L, tw_P 2 14 rt (sc1), (A1), J, 57))
  refine hM.1 _ _ _ _ _ (341, tw_l6 i, [.ref 44, .int x], ((I1), L, tw_P 2 14 rt (sc1), (A1), J, 57)) (show tw_c323[340]? = some (728, .aload_n 2, 1, 0, 0, 0, 0, 0) from rfl) rfl rfl ?_
  refine tw_ldM hM (k := 341) (k5 := 346) (show (tw_c323.drop 341).take 5 = [(729, .aload_n 0, 1, 0, 0, 0, 0, 0), (730, .iload 4, 2, 0, 0, 0, 0, 0), (732, .iconst 1, 1, 0, 0, 0, 1, 0), (733, .iadd, 1, 0, 0, 0, 0, 0), (734, .iaload, 1, 0, 0, 0, 0, 0)] from rfl) rfl (j := 1) rfl (by omega) hL ?_
  refine hM.2.1 346 _ _ _ _ _ _ _ _ (show tw_c323[346]? = some (735, .invokevirtual 81, 3, 263, 1, 91, 0, 0) from rfl) rfl rfl rfl (e_X10_endsAt ((I1)) L (A1) J 2 14 rt (sc1) (xs (6 * i + 1)) _ h2) rfl (Or.inl rfl) ?_
  show M (347, tw_l6 i, [.int x, .int x], ((I2), L, tw_P 2 14 rt (sc1), (A2), J, 57))
  refine hM.1 _ _ _ _ _ _ (show tw_c323[347]? = some (738, .if_icmp .eq 1216, 3, 1164, 0, 0, 0, 0) from rfl) (by exact if_pos rfl) rfl ?_
  exact K _ _ _ _ _ _ hI
theorem tw_case_15 {M : tw_C → Prop} {L0 : Nat} {xs : Nat → Int32} (hM : tw_Cl M L0 xs) {i : Nat} (hi : 6 * i + 5 < L0) (hL : L0 < 2 ^ 31) {I : Nat → Int32} {L : Nat → Int64} {A : Nat → Nat → Int32} {J : Nat → Nat → Int64} {rt sc : Nat} (h : tm_Inv I A) (K : ∀ (I : Nat → Int32) (L : Nat → Int64) (A : Nat → Nat → Int32) (J : Nat → Nat → Int64) (rt sc : Nat), tm_Inv I A → M (1164, tw_l6 i, [], (I, L, tw_P 2 14 rt sc, A, J, 57))) : M (350, tw_l6 i, [], (I, L, tw_P 2 14 rt sc, A, J, 57)) := by
  obtain ⟨x, I1, A1, sc1, h1, I2, A2, h2, hI⟩ := tm_q_lead h sc (xs (6 * i + 1))
  refine hM.1 _ _ _ _ _ (351, tw_l6 i, [.ref 0], (I, L, tw_P 2 14 rt sc, A, J, 57)) (show tw_c323[350]? = some (743, .aload_n 1, 1, 0, 0, 0, 0, 0) from rfl) rfl rfl ?_
  refine tw_ldM hM (k := 351) (k5 := 356) (show (tw_c323.drop 351).take 5 = [(744, .aload_n 0, 1, 0, 0, 0, 0, 0), (745, .iload 4, 2, 0, 0, 0, 0, 0), (747, .iconst 1, 1, 0, 0, 0, 1, 0), (748, .iadd, 1, 0, 0, 0, 0, 0), (749, .iaload, 1, 0, 0, 0, 0, 0)] from rfl) rfl (j := 1) rfl (by omega) hL ?_
  refine hM.2.1 356 _ _ _ _ _ _ _ _ (show tw_c323[356]? = some (750, .invokevirtual 82, 3, 128, 1, 81, 0, 0) from rfl) rfl rfl rfl (e_X9_lead (I) L A J rt sc (xs (6 * i + 1)) _ h1) rfl (Or.inl rfl) ?_
  show M (357, tw_l6 i, [.int x], ((I1), L, tw_P 2 14 rt (sc1), (A1), J, 57))
  refine hM.1 _ _ _ _ _ (358, tw_l6 i, [.ref 44, .int x], ((I1), L, tw_P 2 14 rt (sc1), (A1), J, 57)) (show tw_c323[357]? = some (753, .aload_n 2, 1, 0, 0, 0, 0, 0) from rfl) rfl rfl ?_
  refine tw_ldM hM (k := 358) (k5 := 363) (show (tw_c323.drop 358).take 5 = [(754, .aload_n 0, 1, 0, 0, 0, 0, 0), (755, .iload 4, 2, 0, 0, 0, 0, 0), (757, .iconst 1, 1, 0, 0, 0, 1, 0), (758, .iadd, 1, 0, 0, 0, 0, 0), (759, .iaload, 1, 0, 0, 0, 0, 0)] from rfl) rfl (j := 1) rfl (by omega) hL ?_
  refine hM.2.1 363 _ _ _ _ _ _ _ _ (show tw_c323[363]? = some (760, .invokevirtual 85, 3, 264, 1, 91, 0, 0) from rfl) rfl rfl rfl (e_X10_lead ((I1)) L (A1) J 2 14 rt (sc1) (xs (6 * i + 1)) _ h2) rfl (Or.inl rfl) ?_
  show M (364, tw_l6 i, [.int x, .int x], ((I2), L, tw_P 2 14 rt (sc1), (A2), J, 57))
  refine hM.1 _ _ _ _ _ _ (show tw_c323[364]? = some (763, .if_icmp .eq 1191, 3, 1164, 0, 0, 0, 0) from rfl) (by exact if_pos rfl) rfl ?_
  exact K _ _ _ _ _ _ hI
theorem tw_case_16 {M : tw_C → Prop} {L0 : Nat} {xs : Nat → Int32} (hM : tw_Cl M L0 xs) {i : Nat} (hi : 6 * i + 5 < L0) (hL : L0 < 2 ^ 31) {I : Nat → Int32} {L : Nat → Int64} {A : Nat → Nat → Int32} {J : Nat → Nat → Int64} {rt sc : Nat} (h : tm_Inv I A) (K : ∀ (I : Nat → Int32) (L : Nat → Int64) (A : Nat → Nat → Int32) (J : Nat → Nat → Int64) (rt sc : Nat), tm_Inv I A → M (1164, tw_l6 i, [], (I, L, tw_P 2 14 rt sc, A, J, 57))) : M (367, tw_l6 i, [], (I, L, tw_P 2 14 rt sc, A, J, 57)) := by
  obtain ⟨x, I1, A1, sc1, h1, I2, A2, h2, hI⟩ := tm_q_seen h sc (xs (6 * i + 1))
  refine hM.1 _ _ _ _ _ (368, tw_l6 i, [.ref 0], (I, L, tw_P 2 14 rt sc, A, J, 57)) (show tw_c323[367]? = some (768, .aload_n 1, 1, 0, 0, 0, 0, 0) from rfl) rfl rfl ?_
  refine tw_ldM hM (k := 368) (k5 := 373) (show (tw_c323.drop 368).take 5 = [(769, .aload_n 0, 1, 0, 0, 0, 0, 0), (770, .iload 4, 2, 0, 0, 0, 0, 0), (772, .iconst 1, 1, 0, 0, 0, 1, 0), (773, .iadd, 1, 0, 0, 0, 0, 0), (774, .iaload, 1, 0, 0, 0, 0, 0)] from rfl) rfl (j := 1) rfl (by omega) hL ?_
  refine hM.2.1 373 _ _ _ _ _ _ _ _ (show tw_c323[373]? = some (775, .invokevirtual 86, 3, 129, 1, 81, 0, 0) from rfl) rfl rfl rfl (e_X9_seen (I) L A J rt sc (xs (6 * i + 1)) _ h1) rfl (Or.inl rfl) ?_
  show M (374, tw_l6 i, [.int x], ((I1), L, tw_P 2 14 rt (sc1), (A1), J, 57))
  refine hM.1 _ _ _ _ _ (375, tw_l6 i, [.ref 44, .int x], ((I1), L, tw_P 2 14 rt (sc1), (A1), J, 57)) (show tw_c323[374]? = some (778, .aload_n 2, 1, 0, 0, 0, 0, 0) from rfl) rfl rfl ?_
  refine tw_ldM hM (k := 375) (k5 := 380) (show (tw_c323.drop 375).take 5 = [(779, .aload_n 0, 1, 0, 0, 0, 0, 0), (780, .iload 4, 2, 0, 0, 0, 0, 0), (782, .iconst 1, 1, 0, 0, 0, 1, 0), (783, .iadd, 1, 0, 0, 0, 0, 0), (784, .iaload, 1, 0, 0, 0, 0, 0)] from rfl) rfl (j := 1) rfl (by omega) hL ?_
  refine hM.2.1 380 _ _ _ _ _ _ _ _ (show tw_c323[380]? = some (785, .invokevirtual 89, 3, 265, 1, 91, 0, 0) from rfl) rfl rfl rfl (e_X10_seen ((I1)) L (A1) J 2 14 rt (sc1) (xs (6 * i + 1)) _ h2) rfl (Or.inl rfl) ?_
  show M (381, tw_l6 i, [.int x, .int x], ((I2), L, tw_P 2 14 rt (sc1), (A2), J, 57))
  refine hM.1 _ _ _ _ _ _ (show tw_c323[381]? = some (788, .if_icmp .eq 1166, 3, 1164, 0, 0, 0, 0) from rfl) (by exact if_pos rfl) rfl ?_
  exact K _ _ _ _ _ _ hI
theorem tw_case_17 {M : tw_C → Prop} {L0 : Nat} {xs : Nat → Int32} (hM : tw_Cl M L0 xs) {i : Nat} (hi : 6 * i + 5 < L0) (hL : L0 < 2 ^ 31) {I : Nat → Int32} {L : Nat → Int64} {A : Nat → Nat → Int32} {J : Nat → Nat → Int64} {rt sc : Nat} (h : tm_Inv I A) (K : ∀ (I : Nat → Int32) (L : Nat → Int64) (A : Nat → Nat → Int32) (J : Nat → Nat → Int64) (rt sc : Nat), tm_Inv I A → M (1164, tw_l6 i, [], (I, L, tw_P 2 14 rt sc, A, J, 57))) : M (384, tw_l6 i, [], (I, L, tw_P 2 14 rt sc, A, J, 57)) := by
  obtain ⟨x, I1, A1, sc1, h1, I2, A2, h2, hI⟩ := tm_q_third h sc (xs (6 * i + 1))
  refine hM.1 _ _ _ _ _ (385, tw_l6 i, [.ref 0], (I, L, tw_P 2 14 rt sc, A, J, 57)) (show tw_c323[384]? = some (793, .aload_n 1, 1, 0, 0, 0, 0, 0) from rfl) rfl rfl ?_
  refine tw_ldM hM (k := 385) (k5 := 390) (show (tw_c323.drop 385).take 5 = [(794, .aload_n 0, 1, 0, 0, 0, 0, 0), (795, .iload 4, 2, 0, 0, 0, 0, 0), (797, .iconst 1, 1, 0, 0, 0, 1, 0), (798, .iadd, 1, 0, 0, 0, 0, 0), (799, .iaload, 1, 0, 0, 0, 0, 0)] from rfl) rfl (j := 1) rfl (by omega) hL ?_
  refine hM.2.1 390 _ _ _ _ _ _ _ _ (show tw_c323[390]? = some (800, .invokevirtual 90, 3, 130, 1, 81, 0, 0) from rfl) rfl rfl rfl (e_X9_third (I) L A J rt sc (xs (6 * i + 1)) _ h1) rfl (Or.inl rfl) ?_
  show M (391, tw_l6 i, [.int x], ((I1), L, tw_P 2 14 rt (sc1), (A1), J, 57))
  refine hM.1 _ _ _ _ _ (392, tw_l6 i, [.ref 44, .int x], ((I1), L, tw_P 2 14 rt (sc1), (A1), J, 57)) (show tw_c323[391]? = some (803, .aload_n 2, 1, 0, 0, 0, 0, 0) from rfl) rfl rfl ?_
  refine tw_ldM hM (k := 392) (k5 := 397) (show (tw_c323.drop 392).take 5 = [(804, .aload_n 0, 1, 0, 0, 0, 0, 0), (805, .iload 4, 2, 0, 0, 0, 0, 0), (807, .iconst 1, 1, 0, 0, 0, 1, 0), (808, .iadd, 1, 0, 0, 0, 0, 0), (809, .iaload, 1, 0, 0, 0, 0, 0)] from rfl) rfl (j := 1) rfl (by omega) hL ?_
  refine hM.2.1 397 _ _ _ _ _ _ _ _ (show tw_c323[397]? = some (810, .invokevirtual 93, 3, 266, 1, 91, 0, 0) from rfl) rfl rfl rfl (e_X10_third ((I1)) L (A1) J 2 14 rt (sc1) (xs (6 * i + 1)) _ h2) rfl (Or.inl rfl) ?_
  show M (398, tw_l6 i, [.int x, .int x], ((I2), L, tw_P 2 14 rt (sc1), (A2), J, 57))
  refine hM.1 _ _ _ _ _ _ (show tw_c323[398]? = some (813, .if_icmp .eq 1141, 3, 1164, 0, 0, 0, 0) from rfl) (by exact if_pos rfl) rfl ?_
  exact K _ _ _ _ _ _ hI
theorem tw_case_18 {M : tw_C → Prop} {L0 : Nat} {xs : Nat → Int32} (hM : tw_Cl M L0 xs) {i : Nat} (hi : 6 * i + 5 < L0) (hL : L0 < 2 ^ 31) {I : Nat → Int32} {L : Nat → Int64} {A : Nat → Nat → Int32} {J : Nat → Nat → Int64} {rt sc : Nat} (h : tm_Inv I A) (K : ∀ (I : Nat → Int32) (L : Nat → Int64) (A : Nat → Nat → Int32) (J : Nat → Nat → Int64) (rt sc : Nat), tm_Inv I A → M (1164, tw_l6 i, [], (I, L, tw_P 2 14 rt sc, A, J, 57))) : M (401, tw_l6 i, [], (I, L, tw_P 2 14 rt sc, A, J, 57)) := by
  obtain ⟨x, I1, A1, sc1, h1, I2, A2, h2, hI⟩ := tm_q_won h sc
  refine hM.1 _ _ _ _ _ (402, tw_l6 i, [.ref 0], (I, L, tw_P 2 14 rt sc, A, J, 57)) (show tw_c323[401]? = some (818, .aload_n 1, 1, 0, 0, 0, 0, 0) from rfl) rfl rfl ?_
  refine hM.2.1 402 _ _ _ _ _ _ _ _ (show tw_c323[402]? = some (819, .invokevirtual 94, 3, 131, 0, 81, 0, 0) from rfl) rfl rfl rfl (e_X9_won (I) L A J rt sc  _ h1) rfl (Or.inl rfl) ?_
  show M (403, tw_l6 i, [.int x], ((I1), L, tw_P 2 14 rt (sc1), (A1), J, 57))
  refine hM.1 _ _ _ _ _ (404, tw_l6 i, [.ref 44, .int x], ((I1), L, tw_P 2 14 rt (sc1), (A1), J, 57)) (show tw_c323[403]? = some (822, .aload_n 2, 1, 0, 0, 0, 0, 0) from rfl) rfl rfl ?_
  refine hM.2.1 404 _ _ _ _ _ _ _ _ (show tw_c323[404]? = some (823, .invokevirtual 97, 3, 267, 0, 91, 0, 0) from rfl) rfl rfl rfl (e_X10_won ((I1)) L (A1) J 2 14 rt (sc1)  _ h2) rfl (Or.inl rfl) ?_
  show M (405, tw_l6 i, [.int x, .int x], ((I2), L, tw_P 2 14 rt (sc1), (A2), J, 57))
  refine hM.1 _ _ _ _ _ _ (show tw_c323[405]? = some (826, .if_icmp .eq 1128, 3, 1164, 0, 0, 0, 0) from rfl) (by exact if_pos rfl) rfl ?_
  exact K _ _ _ _ _ _ hI
theorem tw_case_19 {M : tw_C → Prop} {L0 : Nat} {xs : Nat → Int32} (hM : tw_Cl M L0 xs) {i : Nat} (hi : 6 * i + 5 < L0) (hL : L0 < 2 ^ 31) {I : Nat → Int32} {L : Nat → Int64} {A : Nat → Nat → Int32} {J : Nat → Nat → Int64} {rt sc : Nat} (h : tm_Inv I A) (K : ∀ (I : Nat → Int32) (L : Nat → Int64) (A : Nat → Nat → Int32) (J : Nat → Nat → Int64) (rt sc : Nat), tm_Inv I A → M (1164, tw_l6 i, [], (I, L, tw_P 2 14 rt sc, A, J, 57))) : M (408, tw_l6 i, [], (I, L, tw_P 2 14 rt sc, A, J, 57)) := by
  obtain ⟨x, I1, A1, sc1, h1, I2, A2, h2, hI⟩ := tm_q_nurse h sc
  refine hM.1 _ _ _ _ _ (409, tw_l6 i, [.ref 0], (I, L, tw_P 2 14 rt sc, A, J, 57)) (show tw_c323[408]? = some (831, .aload_n 1, 1, 0, 0, 0, 0, 0) from rfl) rfl rfl ?_
  refine hM.2.1 409 _ _ _ _ _ _ _ _ (show tw_c323[409]? = some (832, .invokevirtual 98, 3, 132, 0, 81, 0, 0) from rfl) rfl rfl rfl (e_X9_nurse (I) L A J rt sc  _ h1) rfl (Or.inl rfl) ?_
  show M (410, tw_l6 i, [.int x], ((I1), L, tw_P 2 14 rt (sc1), (A1), J, 57))
  refine hM.1 _ _ _ _ _ (411, tw_l6 i, [.ref 44, .int x], ((I1), L, tw_P 2 14 rt (sc1), (A1), J, 57)) (show tw_c323[410]? = some (835, .aload_n 2, 1, 0, 0, 0, 0, 0) from rfl) rfl rfl ?_
  refine hM.2.1 411 _ _ _ _ _ _ _ _ (show tw_c323[411]? = some (836, .invokevirtual 101, 3, 269, 0, 91, 0, 0) from rfl) rfl rfl rfl (e_X10_nurse ((I1)) L (A1) J 2 14 rt (sc1)  _ h2) rfl (Or.inl rfl) ?_
  show M (412, tw_l6 i, [.int x, .int x], ((I2), L, tw_P 2 14 rt (sc1), (A2), J, 57))
  refine hM.1 _ _ _ _ _ _ (show tw_c323[412]? = some (839, .if_icmp .eq 1115, 3, 1164, 0, 0, 0, 0) from rfl) (by exact if_pos rfl) rfl ?_
  exact K _ _ _ _ _ _ hI
theorem tw_case_20 {M : tw_C → Prop} {L0 : Nat} {xs : Nat → Int32} (hM : tw_Cl M L0 xs) {i : Nat} (hi : 6 * i + 5 < L0) (hL : L0 < 2 ^ 31) {I : Nat → Int32} {L : Nat → Int64} {A : Nat → Nat → Int32} {J : Nat → Nat → Int64} {rt sc : Nat} (h : tm_Inv I A) (K : ∀ (I : Nat → Int32) (L : Nat → Int64) (A : Nat → Nat → Int32) (J : Nat → Nat → Int64) (rt sc : Nat), tm_Inv I A → M (1164, tw_l6 i, [], (I, L, tw_P 2 14 rt sc, A, J, 57))) : M (415, tw_l6 i, [], (I, L, tw_P 2 14 rt sc, A, J, 57)) := by
  obtain ⟨x, I1, A1, sc1, h1, I2, A2, h2, hI⟩ := tm_q_endsIf h sc (xs (6 * i + 1)) (xs (6 * i + 2)) (xs (6 * i + 3))
  refine hM.1 _ _ _ _ _ (416, tw_l6 i, [.ref 0], (I, L, tw_P 2 14 rt sc, A, J, 57)) (show tw_c323[415]? = some (844, .aload_n 1, 1, 0, 0, 0, 0, 0) from rfl) rfl rfl ?_
  refine tw_ldM hM (k := 416) (k5 := 421) (show (tw_c323.drop 416).take 5 = [(845, .aload_n 0, 1, 0, 0, 0, 0, 0), (846, .iload 4, 2, 0, 0, 0, 0, 0), (848, .iconst 1, 1, 0, 0, 0, 1, 0), (849, .iadd, 1, 0, 0, 0, 0, 0), (850, .iaload, 1, 0, 0, 0, 0, 0)] from rfl) rfl (j := 1) rfl (by omega) hL ?_
  refine tw_ldM hM (k := 421) (k5 := 426) (show (tw_c323.drop 421).take 5 = [(851, .aload_n 0, 1, 0, 0, 0, 0, 0), (852, .iload 4, 2, 0, 0, 0, 0, 0), (854, .iconst 2, 1, 0, 0, 0, 2, 0), (855, .iadd, 1, 0, 0, 0, 0, 0), (856, .iaload, 1, 0, 0, 0, 0, 0)] from rfl) rfl (j := 2) rfl (by omega) hL ?_
  refine tw_ldM hM (k := 426) (k5 := 431) (show (tw_c323.drop 426).take 5 = [(857, .aload_n 0, 1, 0, 0, 0, 0, 0), (858, .iload 4, 2, 0, 0, 0, 0, 0), (860, .iconst 3, 1, 0, 0, 0, 3, 0), (861, .iadd, 1, 0, 0, 0, 0, 0), (862, .iaload, 1, 0, 0, 0, 0, 0)] from rfl) rfl (j := 3) rfl (by omega) hL ?_
  refine hM.2.1 431 _ _ _ _ _ _ _ _ (show tw_c323[431]? = some (863, .invokevirtual 102, 3, 133, 3, 81, 0, 0) from rfl) rfl rfl rfl (e_X9_endsIf (I) L A J rt sc (xs (6 * i + 1)) (xs (6 * i + 2)) (xs (6 * i + 3)) _ h1) rfl (Or.inl rfl) ?_
  show M (432, tw_l6 i, [.int x], ((I1), L, tw_P 2 14 rt (sc1), (A1), J, 57))
  refine hM.1 _ _ _ _ _ (433, tw_l6 i, [.ref 44, .int x], ((I1), L, tw_P 2 14 rt (sc1), (A1), J, 57)) (show tw_c323[432]? = some (866, .aload_n 2, 1, 0, 0, 0, 0, 0) from rfl) rfl rfl ?_
  refine tw_ldM hM (k := 433) (k5 := 438) (show (tw_c323.drop 433).take 5 = [(867, .aload_n 0, 1, 0, 0, 0, 0, 0), (868, .iload 4, 2, 0, 0, 0, 0, 0), (870, .iconst 1, 1, 0, 0, 0, 1, 0), (871, .iadd, 1, 0, 0, 0, 0, 0), (872, .iaload, 1, 0, 0, 0, 0, 0)] from rfl) rfl (j := 1) rfl (by omega) hL ?_
  refine tw_ldM hM (k := 438) (k5 := 443) (show (tw_c323.drop 438).take 5 = [(873, .aload_n 0, 1, 0, 0, 0, 0, 0), (874, .iload 4, 2, 0, 0, 0, 0, 0), (876, .iconst 2, 1, 0, 0, 0, 2, 0), (877, .iadd, 1, 0, 0, 0, 0, 0), (878, .iaload, 1, 0, 0, 0, 0, 0)] from rfl) rfl (j := 2) rfl (by omega) hL ?_
  refine tw_ldM hM (k := 443) (k5 := 448) (show (tw_c323.drop 443).take 5 = [(879, .aload_n 0, 1, 0, 0, 0, 0, 0), (880, .iload 4, 2, 0, 0, 0, 0, 0), (882, .iconst 3, 1, 0, 0, 0, 3, 0), (883, .iadd, 1, 0, 0, 0, 0, 0), (884, .iaload, 1, 0, 0, 0, 0, 0)] from rfl) rfl (j := 3) rfl (by omega) hL ?_
  refine hM.2.1 448 _ _ _ _ _ _ _ _ (show tw_c323[448]? = some (885, .invokevirtual 106, 3, 270, 3, 91, 0, 0) from rfl) rfl rfl rfl (e_X10_endsIf ((I1)) L (A1) J 2 14 rt (sc1) (xs (6 * i + 1)) (xs (6 * i + 2)) (xs (6 * i + 3)) _ h2) rfl (Or.inl rfl) ?_
  show M (449, tw_l6 i, [.int x, .int x], ((I2), L, tw_P 2 14 rt (sc1), (A2), J, 57))
  refine hM.1 _ _ _ _ _ _ (show tw_c323[449]? = some (888, .if_icmp .eq 1066, 3, 1164, 0, 0, 0, 0) from rfl) (by exact if_pos rfl) rfl ?_
  exact K _ _ _ _ _ _ hI
theorem tw_case_21 {M : tw_C → Prop} {L0 : Nat} {xs : Nat → Int32} (hM : tw_Cl M L0 xs) {i : Nat} (hi : 6 * i + 5 < L0) (hL : L0 < 2 ^ 31) {I : Nat → Int32} {L : Nat → Int64} {A : Nat → Nat → Int32} {J : Nat → Nat → Int64} {rt sc : Nat} (h : tm_Inv I A) (K : ∀ (I : Nat → Int32) (L : Nat → Int64) (A : Nat → Nat → Int32) (J : Nat → Nat → Int64) (rt sc : Nat), tm_Inv I A → M (1164, tw_l6 i, [], (I, L, tw_P 2 14 rt sc, A, J, 57))) : M (452, tw_l6 i, [], (I, L, tw_P 2 14 rt sc, A, J, 57)) := by
  obtain ⟨x, I1, A1, sc1, h1, I2, A2, h2, hI⟩ := tm_q_cellars h sc (xs (6 * i + 1))
  refine hM.1 _ _ _ _ _ (453, tw_l6 i, [.ref 0], (I, L, tw_P 2 14 rt sc, A, J, 57)) (show tw_c323[452]? = some (893, .aload_n 1, 1, 0, 0, 0, 0, 0) from rfl) rfl rfl ?_
  refine tw_ldM hM (k := 453) (k5 := 458) (show (tw_c323.drop 453).take 5 = [(894, .aload_n 0, 1, 0, 0, 0, 0, 0), (895, .iload 4, 2, 0, 0, 0, 0, 0), (897, .iconst 1, 1, 0, 0, 0, 1, 0), (898, .iadd, 1, 0, 0, 0, 0, 0), (899, .iaload, 1, 0, 0, 0, 0, 0)] from rfl) rfl (j := 1) rfl (by omega) hL ?_
  refine hM.2.1 458 _ _ _ _ _ _ _ _ (show tw_c323[458]? = some (900, .invokevirtual 107, 3, 134, 1, 81, 0, 0) from rfl) rfl rfl rfl (e_X9_cellars (I) L A J rt sc (xs (6 * i + 1)) _ h1) rfl (Or.inl rfl) ?_
  show M (459, tw_l6 i, [.int x], ((I1), L, tw_P 2 14 rt (sc1), (A1), J, 57))
  refine hM.1 _ _ _ _ _ (460, tw_l6 i, [.ref 44, .int x], ((I1), L, tw_P 2 14 rt (sc1), (A1), J, 57)) (show tw_c323[459]? = some (903, .aload_n 2, 1, 0, 0, 0, 0, 0) from rfl) rfl rfl ?_
  refine tw_ldM hM (k := 460) (k5 := 465) (show (tw_c323.drop 460).take 5 = [(904, .aload_n 0, 1, 0, 0, 0, 0, 0), (905, .iload 4, 2, 0, 0, 0, 0, 0), (907, .iconst 1, 1, 0, 0, 0, 1, 0), (908, .iadd, 1, 0, 0, 0, 0, 0), (909, .iaload, 1, 0, 0, 0, 0, 0)] from rfl) rfl (j := 1) rfl (by omega) hL ?_
  refine hM.2.1 465 _ _ _ _ _ _ _ _ (show tw_c323[465]? = some (910, .invokevirtual 110, 3, 271, 1, 91, 0, 0) from rfl) rfl rfl rfl (e_X10_cellars ((I1)) L (A1) J 2 14 rt (sc1) (xs (6 * i + 1)) _ h2) rfl (Or.inl rfl) ?_
  show M (466, tw_l6 i, [.int x, .int x], ((I2), L, tw_P 2 14 rt (sc1), (A2), J, 57))
  refine hM.1 _ _ _ _ _ _ (show tw_c323[466]? = some (913, .if_icmp .eq 1041, 3, 1164, 0, 0, 0, 0) from rfl) (by exact if_pos rfl) rfl ?_
  exact K _ _ _ _ _ _ hI
theorem tw_case_22 {M : tw_C → Prop} {L0 : Nat} {xs : Nat → Int32} (hM : tw_Cl M L0 xs) {i : Nat} (hi : 6 * i + 5 < L0) (hL : L0 < 2 ^ 31) {I : Nat → Int32} {L : Nat → Int64} {A : Nat → Nat → Int32} {J : Nat → Nat → Int64} {rt sc : Nat} (h : tm_Inv I A) (K : ∀ (I : Nat → Int32) (L : Nat → Int64) (A : Nat → Nat → Int32) (J : Nat → Nat → Int64) (rt sc : Nat), tm_Inv I A → M (1164, tw_l6 i, [], (I, L, tw_P 2 14 rt sc, A, J, 57))) : M (469, tw_l6 i, [], (I, L, tw_P 2 14 rt sc, A, J, 57)) := by
  obtain ⟨x, I1, A1, sc1, h1, I2, A2, h2, hI⟩ := tm_q_hour h sc (xs (6 * i + 1))
  refine hM.1 _ _ _ _ _ (470, tw_l6 i, [.ref 0], (I, L, tw_P 2 14 rt sc, A, J, 57)) (show tw_c323[469]? = some (918, .aload_n 1, 1, 0, 0, 0, 0, 0) from rfl) rfl rfl ?_
  refine tw_ldM hM (k := 470) (k5 := 475) (show (tw_c323.drop 470).take 5 = [(919, .aload_n 0, 1, 0, 0, 0, 0, 0), (920, .iload 4, 2, 0, 0, 0, 0, 0), (922, .iconst 1, 1, 0, 0, 0, 1, 0), (923, .iadd, 1, 0, 0, 0, 0, 0), (924, .iaload, 1, 0, 0, 0, 0, 0)] from rfl) rfl (j := 1) rfl (by omega) hL ?_
  refine hM.2.1 475 _ _ _ _ _ _ _ _ (show tw_c323[475]? = some (925, .invokevirtual 111, 3, 135, 1, 81, 0, 0) from rfl) rfl rfl rfl (e_X9_hour (I) L A J rt sc (xs (6 * i + 1)) _ h1) rfl (Or.inl rfl) ?_
  show M (476, tw_l6 i, [.int x], ((I1), L, tw_P 2 14 rt (sc1), (A1), J, 57))
  refine hM.1 _ _ _ _ _ (477, tw_l6 i, [.ref 44, .int x], ((I1), L, tw_P 2 14 rt (sc1), (A1), J, 57)) (show tw_c323[476]? = some (928, .aload_n 2, 1, 0, 0, 0, 0, 0) from rfl) rfl rfl ?_
  refine tw_ldM hM (k := 477) (k5 := 482) (show (tw_c323.drop 477).take 5 = [(929, .aload_n 0, 1, 0, 0, 0, 0, 0), (930, .iload 4, 2, 0, 0, 0, 0, 0), (932, .iconst 1, 1, 0, 0, 0, 1, 0), (933, .iadd, 1, 0, 0, 0, 0, 0), (934, .iaload, 1, 0, 0, 0, 0, 0)] from rfl) rfl (j := 1) rfl (by omega) hL ?_
  refine hM.2.1 482 _ _ _ _ _ _ _ _ (show tw_c323[482]? = some (935, .invokevirtual 114, 3, 272, 1, 91, 0, 0) from rfl) rfl rfl rfl (e_X10_hour ((I1)) L (A1) J 2 14 rt (sc1) (xs (6 * i + 1)) _ h2) rfl (Or.inl rfl) ?_
  show M (483, tw_l6 i, [.int x, .int x], ((I2), L, tw_P 2 14 rt (sc1), (A2), J, 57))
  refine hM.1 _ _ _ _ _ _ (show tw_c323[483]? = some (938, .if_icmp .eq 1016, 3, 1164, 0, 0, 0, 0) from rfl) (by exact if_pos rfl) rfl ?_
  exact K _ _ _ _ _ _ hI
theorem tw_case_23 {M : tw_C → Prop} {L0 : Nat} {xs : Nat → Int32} (hM : tw_Cl M L0 xs) {i : Nat} (hi : 6 * i + 5 < L0) (hL : L0 < 2 ^ 31) {I : Nat → Int32} {L : Nat → Int64} {A : Nat → Nat → Int32} {J : Nat → Nat → Int64} {rt sc : Nat} (h : tm_Inv I A) (K : ∀ (I : Nat → Int32) (L : Nat → Int64) (A : Nat → Nat → Int32) (J : Nat → Nat → Int64) (rt sc : Nat), tm_Inv I A → M (1164, tw_l6 i, [], (I, L, tw_P 2 14 rt sc, A, J, 57))) : M (486, tw_l6 i, [], (I, L, tw_P 2 14 rt sc, A, J, 57)) := by
  obtain ⟨x, I1, A1, sc1, h1, I2, A2, h2, hI⟩ := tm_q_longest h sc (xs (6 * i + 1))
  refine hM.1 _ _ _ _ _ (487, tw_l6 i, [.ref 0], (I, L, tw_P 2 14 rt sc, A, J, 57)) (show tw_c323[486]? = some (943, .aload_n 1, 1, 0, 0, 0, 0, 0) from rfl) rfl rfl ?_
  refine tw_ldM hM (k := 487) (k5 := 492) (show (tw_c323.drop 487).take 5 = [(944, .aload_n 0, 1, 0, 0, 0, 0, 0), (945, .iload 4, 2, 0, 0, 0, 0, 0), (947, .iconst 1, 1, 0, 0, 0, 1, 0), (948, .iadd, 1, 0, 0, 0, 0, 0), (949, .iaload, 1, 0, 0, 0, 0, 0)] from rfl) rfl (j := 1) rfl (by omega) hL ?_
  refine hM.2.1 492 _ _ _ _ _ _ _ _ (show tw_c323[492]? = some (950, .invokevirtual 115, 3, 136, 1, 81, 0, 0) from rfl) rfl rfl rfl (e_X9_longest (I) L A J rt sc (xs (6 * i + 1)) _ h1) rfl (Or.inl rfl) ?_
  show M (493, tw_l6 i, [.int x], ((I1), L, tw_P 2 14 rt (sc1), (A1), J, 57))
  refine hM.1 _ _ _ _ _ (494, tw_l6 i, [.ref 44, .int x], ((I1), L, tw_P 2 14 rt (sc1), (A1), J, 57)) (show tw_c323[493]? = some (953, .aload_n 2, 1, 0, 0, 0, 0, 0) from rfl) rfl rfl ?_
  refine tw_ldM hM (k := 494) (k5 := 499) (show (tw_c323.drop 494).take 5 = [(954, .aload_n 0, 1, 0, 0, 0, 0, 0), (955, .iload 4, 2, 0, 0, 0, 0, 0), (957, .iconst 1, 1, 0, 0, 0, 1, 0), (958, .iadd, 1, 0, 0, 0, 0, 0), (959, .iaload, 1, 0, 0, 0, 0, 0)] from rfl) rfl (j := 1) rfl (by omega) hL ?_
  refine hM.2.1 499 _ _ _ _ _ _ _ _ (show tw_c323[499]? = some (960, .invokevirtual 118, 3, 273, 1, 91, 0, 0) from rfl) rfl rfl rfl (e_X10_longest ((I1)) L (A1) J 2 14 rt (sc1) (xs (6 * i + 1)) _ h2) rfl (Or.inl rfl) ?_
  show M (500, tw_l6 i, [.int x, .int x], ((I2), L, tw_P 2 14 rt (sc1), (A2), J, 57))
  refine hM.1 _ _ _ _ _ _ (show tw_c323[500]? = some (963, .if_icmp .eq 991, 3, 1164, 0, 0, 0, 0) from rfl) (by exact if_pos rfl) rfl ?_
  exact K _ _ _ _ _ _ hI
theorem tw_case_24 {M : tw_C → Prop} {L0 : Nat} {xs : Nat → Int32} (hM : tw_Cl M L0 xs) {i : Nat} (hi : 6 * i + 5 < L0) (hL : L0 < 2 ^ 31) {I : Nat → Int32} {L : Nat → Int64} {A : Nat → Nat → Int32} {J : Nat → Nat → Int64} {rt sc : Nat} (h : tm_Inv I A) (K : ∀ (I : Nat → Int32) (L : Nat → Int64) (A : Nat → Nat → Int32) (J : Nat → Nat → Int64) (rt sc : Nat), tm_Inv I A → M (1164, tw_l6 i, [], (I, L, tw_P 2 14 rt sc, A, J, 57))) : M (503, tw_l6 i, [], (I, L, tw_P 2 14 rt sc, A, J, 57)) := by
  obtain ⟨x, I1, A1, sc1, h1, I2, A2, h2, hI⟩ := tm_q_moor h sc (xs (6 * i + 1))
  refine hM.1 _ _ _ _ _ (504, tw_l6 i, [.ref 0], (I, L, tw_P 2 14 rt sc, A, J, 57)) (show tw_c323[503]? = some (968, .aload_n 1, 1, 0, 0, 0, 0, 0) from rfl) rfl rfl ?_
  refine tw_ldM hM (k := 504) (k5 := 509) (show (tw_c323.drop 504).take 5 = [(969, .aload_n 0, 1, 0, 0, 0, 0, 0), (970, .iload 4, 2, 0, 0, 0, 0, 0), (972, .iconst 1, 1, 0, 0, 0, 1, 0), (973, .iadd, 1, 0, 0, 0, 0, 0), (974, .iaload, 1, 0, 0, 0, 0, 0)] from rfl) rfl (j := 1) rfl (by omega) hL ?_
  refine hM.2.1 509 _ _ _ _ _ _ _ _ (show tw_c323[509]? = some (975, .invokevirtual 119, 3, 137, 1, 81, 0, 0) from rfl) rfl rfl rfl (e_X9_moor (I) L A J rt sc (xs (6 * i + 1)) _ h1) rfl (Or.inl rfl) ?_
  show M (510, tw_l6 i, [.int x], ((I1), L, tw_P 2 14 rt (sc1), (A1), J, 57))
  refine hM.1 _ _ _ _ _ (511, tw_l6 i, [.ref 44, .int x], ((I1), L, tw_P 2 14 rt (sc1), (A1), J, 57)) (show tw_c323[510]? = some (978, .aload_n 2, 1, 0, 0, 0, 0, 0) from rfl) rfl rfl ?_
  refine tw_ldM hM (k := 511) (k5 := 516) (show (tw_c323.drop 511).take 5 = [(979, .aload_n 0, 1, 0, 0, 0, 0, 0), (980, .iload 4, 2, 0, 0, 0, 0, 0), (982, .iconst 1, 1, 0, 0, 0, 1, 0), (983, .iadd, 1, 0, 0, 0, 0, 0), (984, .iaload, 1, 0, 0, 0, 0, 0)] from rfl) rfl (j := 1) rfl (by omega) hL ?_
  refine hM.2.1 516 _ _ _ _ _ _ _ _ (show tw_c323[516]? = some (985, .invokevirtual 122, 3, 274, 1, 91, 0, 0) from rfl) rfl rfl rfl (e_X10_moor ((I1)) L (A1) J 2 14 rt (sc1) (xs (6 * i + 1)) _ h2) rfl (Or.inl rfl) ?_
  show M (517, tw_l6 i, [.int x, .int x], ((I2), L, tw_P 2 14 rt (sc1), (A2), J, 57))
  refine hM.1 _ _ _ _ _ _ (show tw_c323[517]? = some (988, .if_icmp .eq 966, 3, 1164, 0, 0, 0, 0) from rfl) (by exact if_pos rfl) rfl ?_
  exact K _ _ _ _ _ _ hI
theorem tw_case_25 {M : tw_C → Prop} {L0 : Nat} {xs : Nat → Int32} (hM : tw_Cl M L0 xs) {i : Nat} (hi : 6 * i + 5 < L0) (hL : L0 < 2 ^ 31) {I : Nat → Int32} {L : Nat → Int64} {A : Nat → Nat → Int32} {J : Nat → Nat → Int64} {rt sc : Nat} (h : tm_Inv I A) (K : ∀ (I : Nat → Int32) (L : Nat → Int64) (A : Nat → Nat → Int32) (J : Nat → Nat → Int64) (rt sc : Nat), tm_Inv I A → M (1164, tw_l6 i, [], (I, L, tw_P 2 14 rt sc, A, J, 57))) : M (520, tw_l6 i, [], (I, L, tw_P 2 14 rt sc, A, J, 57)) := by
  obtain ⟨x, I1, A1, sc1, h1, I2, A2, h2, hI⟩ := tm_q_bricks h sc (xs (6 * i + 1))
  refine hM.1 _ _ _ _ _ (521, tw_l6 i, [.ref 0], (I, L, tw_P 2 14 rt sc, A, J, 57)) (show tw_c323[520]? = some (993, .aload_n 1, 1, 0, 0, 0, 0, 0) from rfl) rfl rfl ?_
  refine tw_ldM hM (k := 521) (k5 := 526) (show (tw_c323.drop 521).take 5 = [(994, .aload_n 0, 1, 0, 0, 0, 0, 0), (995, .iload 4, 2, 0, 0, 0, 0, 0), (997, .iconst 1, 1, 0, 0, 0, 1, 0), (998, .iadd, 1, 0, 0, 0, 0, 0), (999, .iaload, 1, 0, 0, 0, 0, 0)] from rfl) rfl (j := 1) rfl (by omega) hL ?_
  refine hM.2.1 526 _ _ _ _ _ _ _ _ (show tw_c323[526]? = some (1000, .invokevirtual 123, 3, 138, 1, 81, 0, 0) from rfl) rfl rfl rfl (e_X9_bricks (I) L A J rt sc (xs (6 * i + 1)) _ h1) rfl (Or.inl rfl) ?_
  show M (527, tw_l6 i, [.int x], ((I1), L, tw_P 2 14 rt (sc1), (A1), J, 57))
  refine hM.1 _ _ _ _ _ (528, tw_l6 i, [.ref 44, .int x], ((I1), L, tw_P 2 14 rt (sc1), (A1), J, 57)) (show tw_c323[527]? = some (1003, .aload_n 2, 1, 0, 0, 0, 0, 0) from rfl) rfl rfl ?_
  refine tw_ldM hM (k := 528) (k5 := 533) (show (tw_c323.drop 528).take 5 = [(1004, .aload_n 0, 1, 0, 0, 0, 0, 0), (1005, .iload 4, 2, 0, 0, 0, 0, 0), (1007, .iconst 1, 1, 0, 0, 0, 1, 0), (1008, .iadd, 1, 0, 0, 0, 0, 0), (1009, .iaload, 1, 0, 0, 0, 0, 0)] from rfl) rfl (j := 1) rfl (by omega) hL ?_
  refine hM.2.1 533 _ _ _ _ _ _ _ _ (show tw_c323[533]? = some (1010, .invokevirtual 126, 3, 275, 1, 91, 0, 0) from rfl) rfl rfl rfl (e_X10_bricks ((I1)) L (A1) J 2 14 rt (sc1) (xs (6 * i + 1)) _ h2) rfl (Or.inl rfl) ?_
  show M (534, tw_l6 i, [.int x, .int x], ((I2), L, tw_P 2 14 rt (sc1), (A2), J, 57))
  refine hM.1 _ _ _ _ _ _ (show tw_c323[534]? = some (1013, .if_icmp .eq 941, 3, 1164, 0, 0, 0, 0) from rfl) (by exact if_pos rfl) rfl ?_
  exact K _ _ _ _ _ _ hI
theorem tw_case_26 {M : tw_C → Prop} {L0 : Nat} {xs : Nat → Int32} (hM : tw_Cl M L0 xs) {i : Nat} (hi : 6 * i + 5 < L0) (hL : L0 < 2 ^ 31) {I : Nat → Int32} {L : Nat → Int64} {A : Nat → Nat → Int32} {J : Nat → Nat → Int64} {rt sc : Nat} (h : tm_Inv I A) (K : ∀ (I : Nat → Int32) (L : Nat → Int64) (A : Nat → Nat → Int32) (J : Nat → Nat → Int64) (rt sc : Nat), tm_Inv I A → M (1164, tw_l6 i, [], (I, L, tw_P 2 14 rt sc, A, J, 57))) : M (537, tw_l6 i, [], (I, L, tw_P 2 14 rt sc, A, J, 57)) := by
  obtain ⟨x, I1, A1, sc1, h1, I2, A2, h2, hI⟩ := tm_q_stoppers h sc (xs (6 * i + 1))
  refine hM.1 _ _ _ _ _ (538, tw_l6 i, [.ref 0], (I, L, tw_P 2 14 rt sc, A, J, 57)) (show tw_c323[537]? = some (1018, .aload_n 1, 1, 0, 0, 0, 0, 0) from rfl) rfl rfl ?_
  refine tw_ldM hM (k := 538) (k5 := 543) (show (tw_c323.drop 538).take 5 = [(1019, .aload_n 0, 1, 0, 0, 0, 0, 0), (1020, .iload 4, 2, 0, 0, 0, 0, 0), (1022, .iconst 1, 1, 0, 0, 0, 1, 0), (1023, .iadd, 1, 0, 0, 0, 0, 0), (1024, .iaload, 1, 0, 0, 0, 0, 0)] from rfl) rfl (j := 1) rfl (by omega) hL ?_
  refine hM.2.1 543 _ _ _ _ _ _ _ _ (show tw_c323[543]? = some (1025, .invokevirtual 127, 3, 139, 1, 81, 0, 0) from rfl) rfl rfl rfl (e_X9_stoppers (I) L A J rt sc (xs (6 * i + 1)) _ h1) rfl (Or.inl rfl) ?_
  show M (544, tw_l6 i, [.int x], ((I1), L, tw_P 2 14 rt (sc1), (A1), J, 57))
  refine hM.1 _ _ _ _ _ (545, tw_l6 i, [.ref 44, .int x], ((I1), L, tw_P 2 14 rt (sc1), (A1), J, 57)) (show tw_c323[544]? = some (1028, .aload_n 2, 1, 0, 0, 0, 0, 0) from rfl) rfl rfl ?_
  refine tw_ldM hM (k := 545) (k5 := 550) (show (tw_c323.drop 545).take 5 = [(1029, .aload_n 0, 1, 0, 0, 0, 0, 0), (1030, .iload 4, 2, 0, 0, 0, 0, 0), (1032, .iconst 1, 1, 0, 0, 0, 1, 0), (1033, .iadd, 1, 0, 0, 0, 0, 0), (1034, .iaload, 1, 0, 0, 0, 0, 0)] from rfl) rfl (j := 1) rfl (by omega) hL ?_
  refine hM.2.1 550 _ _ _ _ _ _ _ _ (show tw_c323[550]? = some (1035, .invokevirtual 130, 3, 279, 1, 91, 0, 0) from rfl) rfl rfl rfl (e_X10_stoppers ((I1)) L (A1) J 2 14 rt (sc1) (xs (6 * i + 1)) _ h2) rfl (Or.inl rfl) ?_
  show M (551, tw_l6 i, [.int x, .int x], ((I2), L, tw_P 2 14 rt (sc1), (A2), J, 57))
  refine hM.1 _ _ _ _ _ _ (show tw_c323[551]? = some (1038, .if_icmp .eq 916, 3, 1164, 0, 0, 0, 0) from rfl) (by exact if_pos rfl) rfl ?_
  exact K _ _ _ _ _ _ hI
theorem tw_case_27 {M : tw_C → Prop} {L0 : Nat} {xs : Nat → Int32} (hM : tw_Cl M L0 xs) {i : Nat} (hi : 6 * i + 5 < L0) (hL : L0 < 2 ^ 31) {I : Nat → Int32} {L : Nat → Int64} {A : Nat → Nat → Int32} {J : Nat → Nat → Int64} {rt sc : Nat} (h : tm_Inv I A) (K : ∀ (I : Nat → Int32) (L : Nat → Int64) (A : Nat → Nat → Int32) (J : Nat → Nat → Int64) (rt sc : Nat), tm_Inv I A → M (1164, tw_l6 i, [], (I, L, tw_P 2 14 rt sc, A, J, 57))) : M (554, tw_l6 i, [], (I, L, tw_P 2 14 rt sc, A, J, 57)) := by
  obtain ⟨x, I1, A1, sc1, h1, I2, A2, h2, hI⟩ := tm_q_price h sc (xs (6 * i + 1))
  refine hM.1 _ _ _ _ _ (555, tw_l6 i, [.ref 0], (I, L, tw_P 2 14 rt sc, A, J, 57)) (show tw_c323[554]? = some (1043, .aload_n 1, 1, 0, 0, 0, 0, 0) from rfl) rfl rfl ?_
  refine tw_ldM hM (k := 555) (k5 := 560) (show (tw_c323.drop 555).take 5 = [(1044, .aload_n 0, 1, 0, 0, 0, 0, 0), (1045, .iload 4, 2, 0, 0, 0, 0, 0), (1047, .iconst 1, 1, 0, 0, 0, 1, 0), (1048, .iadd, 1, 0, 0, 0, 0, 0), (1049, .iaload, 1, 0, 0, 0, 0, 0)] from rfl) rfl (j := 1) rfl (by omega) hL ?_
  refine hM.2.1 560 _ _ _ _ _ _ _ _ (show tw_c323[560]? = some (1050, .invokevirtual 131, 3, 140, 1, 81, 0, 0) from rfl) rfl rfl rfl (e_X9_price (I) L A J rt sc (xs (6 * i + 1)) _ h1) rfl (Or.inl rfl) ?_
  show M (561, tw_l6 i, [.int x], ((I1), L, tw_P 2 14 rt (sc1), (A1), J, 57))
  refine hM.1 _ _ _ _ _ (562, tw_l6 i, [.ref 44, .int x], ((I1), L, tw_P 2 14 rt (sc1), (A1), J, 57)) (show tw_c323[561]? = some (1053, .aload_n 2, 1, 0, 0, 0, 0, 0) from rfl) rfl rfl ?_
  refine tw_ldM hM (k := 562) (k5 := 567) (show (tw_c323.drop 562).take 5 = [(1054, .aload_n 0, 1, 0, 0, 0, 0, 0), (1055, .iload 4, 2, 0, 0, 0, 0, 0), (1057, .iconst 1, 1, 0, 0, 0, 1, 0), (1058, .iadd, 1, 0, 0, 0, 0, 0), (1059, .iaload, 1, 0, 0, 0, 0, 0)] from rfl) rfl (j := 1) rfl (by omega) hL ?_
  refine hM.2.1 567 _ _ _ _ _ _ _ _ (show tw_c323[567]? = some (1060, .invokevirtual 134, 3, 280, 1, 91, 0, 0) from rfl) rfl rfl rfl (e_X10_price ((I1)) L (A1) J 2 14 rt (sc1) (xs (6 * i + 1)) _ h2) rfl (Or.inl rfl) ?_
  show M (568, tw_l6 i, [.int x, .int x], ((I2), L, tw_P 2 14 rt (sc1), (A2), J, 57))
  refine hM.1 _ _ _ _ _ _ (show tw_c323[568]? = some (1063, .if_icmp .eq 891, 3, 1164, 0, 0, 0, 0) from rfl) (by exact if_pos rfl) rfl ?_
  exact K _ _ _ _ _ _ hI
