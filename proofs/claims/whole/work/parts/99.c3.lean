/-! the law's calls, one by one (by wip/gen/mklaw.py) -/
set_option maxRecDepth 16000
theorem tw_case_42 {M : tw_C → Prop} {L0 : Nat} {xs : Nat → Int32} (hM : tw_Cl M L0 xs) {i : Nat} (hi : 6 * i + 5 < L0) (hL : L0 < 2 ^ 31) {I : Nat → Int32} {L : Nat → Int64} {A : Nat → Nat → Int32} {J : Nat → Nat → Int64} {rt sc : Nat} (h : tm_Inv I A) (K : ∀ (I : Nat → Int32) (L : Nat → Int64) (A : Nat → Nat → Int32) (J : Nat → Nat → Int64) (rt sc : Nat), tm_Inv I A → M (1164, tw_l6 i, [], (I, L, tw_P 2 14 rt sc, A, J, 57))) : M (852, tw_l6 i, [], (I, L, tw_P 2 14 rt sc, A, J, 57)) := by
  obtain ⟨x, I1, L1, A1, sc1, h1, I2, A2, h2, hI⟩ := tm_q_lasts (L := L) h sc (xs (6 * i + 1)) (xs (6 * i + 2)) (if xs (6 * i + 3) = 0 then 0 else 1)
  refine hM.1 _ _ _ _ _ (853, tw_l6 i, [.ref 0], (I, L, tw_P 2 14 rt sc, A, J, 57)) (show tw_c323[852]? = some (1495, .aload_n 1, 1, 0, 0, 0, 0, 0) from rfl) rfl rfl ?_
  refine tw_ldM hM (k := 853) (k5 := 858) (show (tw_c323.drop 853).take 5 = [(1496, .aload_n 0, 1, 0, 0, 0, 0, 0), (1497, .iload 4, 2, 0, 0, 0, 0, 0), (1499, .iconst 1, 1, 0, 0, 0, 1, 0), (1500, .iadd, 1, 0, 0, 0, 0, 0), (1501, .iaload, 1, 0, 0, 0, 0, 0)] from rfl) rfl (j := 1) rfl (by omega) hL ?_
  refine tw_ldM hM (k := 858) (k5 := 863) (show (tw_c323.drop 858).take 5 = [(1502, .aload_n 0, 1, 0, 0, 0, 0, 0), (1503, .iload 4, 2, 0, 0, 0, 0, 0), (1505, .iconst 2, 1, 0, 0, 0, 2, 0), (1506, .iadd, 1, 0, 0, 0, 0, 0), (1507, .iaload, 1, 0, 0, 0, 0, 0)] from rfl) rfl (j := 2) rfl (by omega) hL ?_
  refine tw_ldBM hM (k := 863) (k9 := 872) (show (tw_c323.drop 863).take 9 = [(1508, .aload_n 0, 1, 0, 0, 0, 0, 0), (1509, .iload 4, 2, 0, 0, 0, 0, 0), (1511, .iconst 3, 1, 0, 0, 0, 3, 0), (1512, .iadd, 1, 0, 0, 0, 0, 0), (1513, .iaload, 1, 0, 0, 0, 0, 0), (1514, .ifCond .eq 7, 3, 871, 0, 0, 0, 0), (1517, .iconst 1, 1, 0, 0, 0, 1, 0), (1518, .goto 4, 3, 872, 0, 0, 0, 0), (1521, .iconst 0, 1, 0, 0, 0, 0, 0)] from rfl) rfl rfl rfl (j := 3) rfl (by omega) hL ?_
  refine hM.2.1 872 _ _ _ _ _ _ _ _ (show tw_c323[872]? = some (1522, .invokevirtual 193, 3, 158, 3, 81, 0, 0) from rfl) rfl rfl rfl (e_X9_lasts (I) L A J rt sc (xs (6 * i + 1)) (xs (6 * i + 2)) (if xs (6 * i + 3) = 0 then 0 else 1) _ h1) rfl (Or.inl rfl) ?_
  show M (873, tw_l6 i, [.long x], ((I1), (L1), tw_P 2 14 rt (sc1), (A1), J, 57))
  refine hM.1 _ _ _ _ _ (874, tw_l6 i, [.ref 44, .long x], ((I1), (L1), tw_P 2 14 rt (sc1), (A1), J, 57)) (show tw_c323[873]? = some (1525, .aload_n 2, 1, 0, 0, 0, 0, 0) from rfl) rfl rfl ?_
  refine tw_ldM hM (k := 874) (k5 := 879) (show (tw_c323.drop 874).take 5 = [(1526, .aload_n 0, 1, 0, 0, 0, 0, 0), (1527, .iload 4, 2, 0, 0, 0, 0, 0), (1529, .iconst 1, 1, 0, 0, 0, 1, 0), (1530, .iadd, 1, 0, 0, 0, 0, 0), (1531, .iaload, 1, 0, 0, 0, 0, 0)] from rfl) rfl (j := 1) rfl (by omega) hL ?_
  refine tw_ldM hM (k := 879) (k5 := 884) (show (tw_c323.drop 879).take 5 = [(1532, .aload_n 0, 1, 0, 0, 0, 0, 0), (1533, .iload 4, 2, 0, 0, 0, 0, 0), (1535, .iconst 2, 1, 0, 0, 0, 2, 0), (1536, .iadd, 1, 0, 0, 0, 0, 0), (1537, .iaload, 1, 0, 0, 0, 0, 0)] from rfl) rfl (j := 2) rfl (by omega) hL ?_
  refine tw_ldBM hM (k := 884) (k9 := 893) (show (tw_c323.drop 884).take 9 = [(1538, .aload_n 0, 1, 0, 0, 0, 0, 0), (1539, .iload 4, 2, 0, 0, 0, 0, 0), (1541, .iconst 3, 1, 0, 0, 0, 3, 0), (1542, .iadd, 1, 0, 0, 0, 0, 0), (1543, .iaload, 1, 0, 0, 0, 0, 0), (1544, .ifCond .eq 7, 3, 892, 0, 0, 0, 0), (1547, .iconst 1, 1, 0, 0, 0, 1, 0), (1548, .goto 4, 3, 893, 0, 0, 0, 0), (1551, .iconst 0, 1, 0, 0, 0, 0, 0)] from rfl) rfl rfl rfl (j := 3) rfl (by omega) hL ?_
  refine hM.2.1 893 _ _ _ _ _ _ _ _ (show tw_c323[893]? = some (1552, .invokevirtual 197, 3, 303, 3, 91, 0, 0) from rfl) rfl rfl rfl (e_X10_lasts ((I1)) (L1) (A1) J 2 14 rt (sc1) (xs (6 * i + 1)) (xs (6 * i + 2)) (if xs (6 * i + 3) = 0 then 0 else 1) _ h2) rfl (Or.inl rfl) ?_
  show M (894, tw_l6 i, [.long x, .long x], ((I2), (L1), tw_P 2 14 rt (sc1), (A2), J, 57))
  refine hM.1 _ _ _ _ _ (895, tw_l6 i, [.int (lg_cmp x x)], ((I2), (L1), tw_P 2 14 rt (sc1), (A2), J, 57)) (show tw_c323[894]? = some (1555, .lcmp, 1, 0, 0, 0, 0, 0) from rfl) rfl rfl ?_
  refine hM.1 _ _ _ _ _ _ (show tw_c323[895]? = some (1556, .ifCond .eq 398, 3, 1164, 0, 0, 0, 0) from rfl) (by exact if_pos ((lg_cmp_eq _ _).mpr rfl)) rfl ?_
  exact K _ _ _ _ _ _ hI
theorem tw_case_43 {M : tw_C → Prop} {L0 : Nat} {xs : Nat → Int32} (hM : tw_Cl M L0 xs) {i : Nat} (hi : 6 * i + 5 < L0) (hL : L0 < 2 ^ 31) {I : Nat → Int32} {L : Nat → Int64} {A : Nat → Nat → Int32} {J : Nat → Nat → Int64} {rt sc : Nat} (h : tm_Inv I A) (K : ∀ (I : Nat → Int32) (L : Nat → Int64) (A : Nat → Nat → Int32) (J : Nat → Nat → Int64) (rt sc : Nat), tm_Inv I A → M (1164, tw_l6 i, [], (I, L, tw_P 2 14 rt sc, A, J, 57))) : M (898, tw_l6 i, [], (I, L, tw_P 2 14 rt sc, A, J, 57)) := by
  obtain ⟨x, I1, A1, sc1, h1, I2, A2, h2, hI⟩ := tm_q_endsBy h sc (xs (6 * i + 1)) (xs (6 * i + 2))
  refine hM.1 _ _ _ _ _ (899, tw_l6 i, [.ref 0], (I, L, tw_P 2 14 rt sc, A, J, 57)) (show tw_c323[898]? = some (1561, .aload_n 1, 1, 0, 0, 0, 0, 0) from rfl) rfl rfl ?_
  refine tw_ldM hM (k := 899) (k5 := 904) (show (tw_c323.drop 899).take 5 = [(1562, .aload_n 0, 1, 0, 0, 0, 0, 0), (1563, .iload 4, 2, 0, 0, 0, 0, 0), (1565, .iconst 1, 1, 0, 0, 0, 1, 0), (1566, .iadd, 1, 0, 0, 0, 0, 0), (1567, .iaload, 1, 0, 0, 0, 0, 0)] from rfl) rfl (j := 1) rfl (by omega) hL ?_
  refine tw_ldM hM (k := 904) (k5 := 909) (show (tw_c323.drop 904).take 5 = [(1568, .aload_n 0, 1, 0, 0, 0, 0, 0), (1569, .iload 4, 2, 0, 0, 0, 0, 0), (1571, .iconst 2, 1, 0, 0, 0, 2, 0), (1572, .iadd, 1, 0, 0, 0, 0, 0), (1573, .iaload, 1, 0, 0, 0, 0, 0)] from rfl) rfl (j := 2) rfl (by omega) hL ?_
  refine hM.2.1 909 _ _ _ _ _ _ _ _ (show tw_c323[909]? = some (1574, .invokevirtual 198, 3, 159, 2, 81, 0, 0) from rfl) rfl rfl rfl (e_X9_endsBy (I) L A J rt sc (xs (6 * i + 1)) (xs (6 * i + 2)) _ h1) rfl (Or.inl rfl) ?_
  show M (910, tw_l6 i, [.int x], ((I1), L, tw_P 2 14 rt (sc1), (A1), J, 57))
  refine hM.1 _ _ _ _ _ (911, tw_l6 i, [.ref 44, .int x], ((I1), L, tw_P 2 14 rt (sc1), (A1), J, 57)) (show tw_c323[910]? = some (1577, .aload_n 2, 1, 0, 0, 0, 0, 0) from rfl) rfl rfl ?_
  refine tw_ldM hM (k := 911) (k5 := 916) (show (tw_c323.drop 911).take 5 = [(1578, .aload_n 0, 1, 0, 0, 0, 0, 0), (1579, .iload 4, 2, 0, 0, 0, 0, 0), (1581, .iconst 1, 1, 0, 0, 0, 1, 0), (1582, .iadd, 1, 0, 0, 0, 0, 0), (1583, .iaload, 1, 0, 0, 0, 0, 0)] from rfl) rfl (j := 1) rfl (by omega) hL ?_
  refine tw_ldM hM (k := 916) (k5 := 921) (show (tw_c323.drop 916).take 5 = [(1584, .aload_n 0, 1, 0, 0, 0, 0, 0), (1585, .iload 4, 2, 0, 0, 0, 0, 0), (1587, .iconst 2, 1, 0, 0, 0, 2, 0), (1588, .iadd, 1, 0, 0, 0, 0, 0), (1589, .iaload, 1, 0, 0, 0, 0, 0)] from rfl) rfl (j := 2) rfl (by omega) hL ?_
  refine hM.2.1 921 _ _ _ _ _ _ _ _ (show tw_c323[921]? = some (1590, .invokevirtual 201, 3, 305, 2, 91, 0, 0) from rfl) rfl rfl rfl (e_X10_endsBy ((I1)) L (A1) J 2 14 rt (sc1) (xs (6 * i + 1)) (xs (6 * i + 2)) _ h2) rfl (Or.inl rfl) ?_
  show M (922, tw_l6 i, [.int x, .int x], ((I2), L, tw_P 2 14 rt (sc1), (A2), J, 57))
  refine hM.1 _ _ _ _ _ _ (show tw_c323[922]? = some (1593, .if_icmp .eq 361, 3, 1164, 0, 0, 0, 0) from rfl) (by exact if_pos rfl) rfl ?_
  exact K _ _ _ _ _ _ hI
theorem tw_case_44 {M : tw_C → Prop} {L0 : Nat} {xs : Nat → Int32} (hM : tw_Cl M L0 xs) {i : Nat} (hi : 6 * i + 5 < L0) (hL : L0 < 2 ^ 31) {I : Nat → Int32} {L : Nat → Int64} {A : Nat → Nat → Int32} {J : Nat → Nat → Int64} {rt sc : Nat} (h : tm_Inv I A) (K : ∀ (I : Nat → Int32) (L : Nat → Int64) (A : Nat → Nat → Int32) (J : Nat → Nat → Int64) (rt sc : Nat), tm_Inv I A → M (1164, tw_l6 i, [], (I, L, tw_P 2 14 rt sc, A, J, 57))) : M (925, tw_l6 i, [], (I, L, tw_P 2 14 rt sc, A, J, 57)) := by
  obtain ⟨x, I1, A1, sc1, h1, I2, A2, h2, hI⟩ := tm_q_endsByAt h sc (xs (6 * i + 1)) (xs (6 * i + 2))
  refine hM.1 _ _ _ _ _ (926, tw_l6 i, [.ref 0], (I, L, tw_P 2 14 rt sc, A, J, 57)) (show tw_c323[925]? = some (1598, .aload_n 1, 1, 0, 0, 0, 0, 0) from rfl) rfl rfl ?_
  refine tw_ldM hM (k := 926) (k5 := 931) (show (tw_c323.drop 926).take 5 = [(1599, .aload_n 0, 1, 0, 0, 0, 0, 0), (1600, .iload 4, 2, 0, 0, 0, 0, 0), (1602, .iconst 1, 1, 0, 0, 0, 1, 0), (1603, .iadd, 1, 0, 0, 0, 0, 0), (1604, .iaload, 1, 0, 0, 0, 0, 0)] from rfl) rfl (j := 1) rfl (by omega) hL ?_
  refine tw_ldM hM (k := 931) (k5 := 936) (show (tw_c323.drop 931).take 5 = [(1605, .aload_n 0, 1, 0, 0, 0, 0, 0), (1606, .iload 4, 2, 0, 0, 0, 0, 0), (1608, .iconst 2, 1, 0, 0, 0, 2, 0), (1609, .iadd, 1, 0, 0, 0, 0, 0), (1610, .iaload, 1, 0, 0, 0, 0, 0)] from rfl) rfl (j := 2) rfl (by omega) hL ?_
  refine hM.2.1 936 _ _ _ _ _ _ _ _ (show tw_c323[936]? = some (1611, .invokevirtual 202, 3, 160, 2, 81, 0, 0) from rfl) rfl rfl rfl (e_X9_endsByAt (I) L A J rt sc (xs (6 * i + 1)) (xs (6 * i + 2)) _ h1) rfl (Or.inl rfl) ?_
  show M (937, tw_l6 i, [.int x], ((I1), L, tw_P 2 14 rt (sc1), (A1), J, 57))
  refine hM.1 _ _ _ _ _ (938, tw_l6 i, [.ref 44, .int x], ((I1), L, tw_P 2 14 rt (sc1), (A1), J, 57)) (show tw_c323[937]? = some (1614, .aload_n 2, 1, 0, 0, 0, 0, 0) from rfl) rfl rfl ?_
  refine tw_ldM hM (k := 938) (k5 := 943) (show (tw_c323.drop 938).take 5 = [(1615, .aload_n 0, 1, 0, 0, 0, 0, 0), (1616, .iload 4, 2, 0, 0, 0, 0, 0), (1618, .iconst 1, 1, 0, 0, 0, 1, 0), (1619, .iadd, 1, 0, 0, 0, 0, 0), (1620, .iaload, 1, 0, 0, 0, 0, 0)] from rfl) rfl (j := 1) rfl (by omega) hL ?_
  refine tw_ldM hM (k := 943) (k5 := 948) (show (tw_c323.drop 943).take 5 = [(1621, .aload_n 0, 1, 0, 0, 0, 0, 0), (1622, .iload 4, 2, 0, 0, 0, 0, 0), (1624, .iconst 2, 1, 0, 0, 0, 2, 0), (1625, .iadd, 1, 0, 0, 0, 0, 0), (1626, .iaload, 1, 0, 0, 0, 0, 0)] from rfl) rfl (j := 2) rfl (by omega) hL ?_
  refine hM.2.1 948 _ _ _ _ _ _ _ _ (show tw_c323[948]? = some (1627, .invokevirtual 205, 3, 306, 2, 91, 0, 0) from rfl) rfl rfl rfl (e_X10_endsByAt ((I1)) L (A1) J 2 14 rt (sc1) (xs (6 * i + 1)) (xs (6 * i + 2)) _ h2) rfl (Or.inl rfl) ?_
  show M (949, tw_l6 i, [.int x, .int x], ((I2), L, tw_P 2 14 rt (sc1), (A2), J, 57))
  refine hM.1 _ _ _ _ _ _ (show tw_c323[949]? = some (1630, .if_icmp .eq 324, 3, 1164, 0, 0, 0, 0) from rfl) (by exact if_pos rfl) rfl ?_
  exact K _ _ _ _ _ _ hI
theorem tw_case_45 {M : tw_C → Prop} {L0 : Nat} {xs : Nat → Int32} (hM : tw_Cl M L0 xs) {i : Nat} (hi : 6 * i + 5 < L0) (hL : L0 < 2 ^ 31) {I : Nat → Int32} {L : Nat → Int64} {A : Nat → Nat → Int32} {J : Nat → Nat → Int64} {rt sc : Nat} (h : tm_Inv I A) (K : ∀ (I : Nat → Int32) (L : Nat → Int64) (A : Nat → Nat → Int32) (J : Nat → Nat → Int64) (rt sc : Nat), tm_Inv I A → M (1164, tw_l6 i, [], (I, L, tw_P 2 14 rt sc, A, J, 57))) : M (952, tw_l6 i, [], (I, L, tw_P 2 14 rt sc, A, J, 57)) := by
  obtain ⟨x, I1, A1, sc1, h1, I2, A2, h2, hI⟩ := tm_q_wins h sc (xs (6 * i + 1)) (xs (6 * i + 2)) (xs (6 * i + 3))
  refine hM.1 _ _ _ _ _ (953, tw_l6 i, [.ref 0], (I, L, tw_P 2 14 rt sc, A, J, 57)) (show tw_c323[952]? = some (1635, .aload_n 1, 1, 0, 0, 0, 0, 0) from rfl) rfl rfl ?_
  refine tw_ldM hM (k := 953) (k5 := 958) (show (tw_c323.drop 953).take 5 = [(1636, .aload_n 0, 1, 0, 0, 0, 0, 0), (1637, .iload 4, 2, 0, 0, 0, 0, 0), (1639, .iconst 1, 1, 0, 0, 0, 1, 0), (1640, .iadd, 1, 0, 0, 0, 0, 0), (1641, .iaload, 1, 0, 0, 0, 0, 0)] from rfl) rfl (j := 1) rfl (by omega) hL ?_
  refine tw_ldM hM (k := 958) (k5 := 963) (show (tw_c323.drop 958).take 5 = [(1642, .aload_n 0, 1, 0, 0, 0, 0, 0), (1643, .iload 4, 2, 0, 0, 0, 0, 0), (1645, .iconst 2, 1, 0, 0, 0, 2, 0), (1646, .iadd, 1, 0, 0, 0, 0, 0), (1647, .iaload, 1, 0, 0, 0, 0, 0)] from rfl) rfl (j := 2) rfl (by omega) hL ?_
  refine tw_ldM hM (k := 963) (k5 := 968) (show (tw_c323.drop 963).take 5 = [(1648, .aload_n 0, 1, 0, 0, 0, 0, 0), (1649, .iload 4, 2, 0, 0, 0, 0, 0), (1651, .iconst 3, 1, 0, 0, 0, 3, 0), (1652, .iadd, 1, 0, 0, 0, 0, 0), (1653, .iaload, 1, 0, 0, 0, 0, 0)] from rfl) rfl (j := 3) rfl (by omega) hL ?_
  refine hM.2.1 968 _ _ _ _ _ _ _ _ (show tw_c323[968]? = some (1654, .invokevirtual 206, 3, 161, 3, 81, 0, 0) from rfl) rfl rfl rfl (e_X9_wins (I) L A J rt sc (xs (6 * i + 1)) (xs (6 * i + 2)) (xs (6 * i + 3)) _ h1) rfl (Or.inl rfl) ?_
  show M (969, tw_l6 i, [.int x], ((I1), L, tw_P 2 14 rt (sc1), (A1), J, 57))
  refine hM.1 _ _ _ _ _ (970, tw_l6 i, [.ref 44, .int x], ((I1), L, tw_P 2 14 rt (sc1), (A1), J, 57)) (show tw_c323[969]? = some (1657, .aload_n 2, 1, 0, 0, 0, 0, 0) from rfl) rfl rfl ?_
  refine tw_ldM hM (k := 970) (k5 := 975) (show (tw_c323.drop 970).take 5 = [(1658, .aload_n 0, 1, 0, 0, 0, 0, 0), (1659, .iload 4, 2, 0, 0, 0, 0, 0), (1661, .iconst 1, 1, 0, 0, 0, 1, 0), (1662, .iadd, 1, 0, 0, 0, 0, 0), (1663, .iaload, 1, 0, 0, 0, 0, 0)] from rfl) rfl (j := 1) rfl (by omega) hL ?_
  refine tw_ldM hM (k := 975) (k5 := 980) (show (tw_c323.drop 975).take 5 = [(1664, .aload_n 0, 1, 0, 0, 0, 0, 0), (1665, .iload 4, 2, 0, 0, 0, 0, 0), (1667, .iconst 2, 1, 0, 0, 0, 2, 0), (1668, .iadd, 1, 0, 0, 0, 0, 0), (1669, .iaload, 1, 0, 0, 0, 0, 0)] from rfl) rfl (j := 2) rfl (by omega) hL ?_
  refine tw_ldM hM (k := 980) (k5 := 985) (show (tw_c323.drop 980).take 5 = [(1670, .aload_n 0, 1, 0, 0, 0, 0, 0), (1671, .iload 4, 2, 0, 0, 0, 0, 0), (1673, .iconst 3, 1, 0, 0, 0, 3, 0), (1674, .iadd, 1, 0, 0, 0, 0, 0), (1675, .iaload, 1, 0, 0, 0, 0, 0)] from rfl) rfl (j := 3) rfl (by omega) hL ?_
  refine hM.2.1 985 _ _ _ _ _ _ _ _ (show tw_c323[985]? = some (1676, .invokevirtual 209, 3, 307, 3, 91, 0, 0) from rfl) rfl rfl rfl (e_X10_wins ((I1)) L (A1) J 2 14 rt (sc1) (xs (6 * i + 1)) (xs (6 * i + 2)) (xs (6 * i + 3)) _ h2) rfl (Or.inl rfl) ?_
  show M (986, tw_l6 i, [.int x, .int x], ((I2), L, tw_P 2 14 rt (sc1), (A2), J, 57))
  refine hM.1 _ _ _ _ _ _ (show tw_c323[986]? = some (1679, .if_icmp .eq 275, 3, 1164, 0, 0, 0, 0) from rfl) (by exact if_pos rfl) rfl ?_
  exact K _ _ _ _ _ _ hI
theorem tw_case_46 {M : tw_C → Prop} {L0 : Nat} {xs : Nat → Int32} (hM : tw_Cl M L0 xs) {i : Nat} (hi : 6 * i + 5 < L0) (hL : L0 < 2 ^ 31) {I : Nat → Int32} {L : Nat → Int64} {A : Nat → Nat → Int32} {J : Nat → Nat → Int64} {rt sc : Nat} (h : tm_Inv I A) (K : ∀ (I : Nat → Int32) (L : Nat → Int64) (A : Nat → Nat → Int32) (J : Nat → Nat → Int64) (rt sc : Nat), tm_Inv I A → M (1164, tw_l6 i, [], (I, L, tw_P 2 14 rt sc, A, J, 57))) : M (989, tw_l6 i, [], (I, L, tw_P 2 14 rt sc, A, J, 57)) := by
  obtain ⟨x, I1, A1, h1, I2, A2, h2, hI⟩ := tm_q_brick h (xs (6 * i + 1))
  refine hM.1 _ _ _ _ _ (990, tw_l6 i, [.ref 0], (I, L, tw_P 2 14 rt sc, A, J, 57)) (show tw_c323[989]? = some (1684, .aload_n 1, 1, 0, 0, 0, 0, 0) from rfl) rfl rfl ?_
  refine tw_ldM hM (k := 990) (k5 := 995) (show (tw_c323.drop 990).take 5 = [(1685, .aload_n 0, 1, 0, 0, 0, 0, 0), (1686, .iload 4, 2, 0, 0, 0, 0, 0), (1688, .iconst 1, 1, 0, 0, 0, 1, 0), (1689, .iadd, 1, 0, 0, 0, 0, 0), (1690, .iaload, 1, 0, 0, 0, 0, 0)] from rfl) rfl (j := 1) rfl (by omega) hL ?_
  refine hM.2.1 995 _ _ _ _ _ _ _ _ (show tw_c323[995]? = some (1691, .invokevirtual 210, 3, 162, 1, 81, 0, 0) from rfl) rfl rfl rfl (e_X9_brick (I) L A J rt sc (xs (6 * i + 1)) _ h1) rfl (Or.inl rfl) ?_
  show M (996, tw_l6 i, [.int (tw_b x)], ((I1), L, tw_P 2 14 rt sc, (A1), J, 57))
  refine hM.1 _ _ _ _ _ (997, tw_l6 i, [.ref 44, .int (tw_b x)], ((I1), L, tw_P 2 14 rt sc, (A1), J, 57)) (show tw_c323[996]? = some (1694, .aload_n 2, 1, 0, 0, 0, 0, 0) from rfl) rfl rfl ?_
  refine tw_ldM hM (k := 997) (k5 := 1002) (show (tw_c323.drop 997).take 5 = [(1695, .aload_n 0, 1, 0, 0, 0, 0, 0), (1696, .iload 4, 2, 0, 0, 0, 0, 0), (1698, .iconst 1, 1, 0, 0, 0, 1, 0), (1699, .iadd, 1, 0, 0, 0, 0, 0), (1700, .iaload, 1, 0, 0, 0, 0, 0)] from rfl) rfl (j := 1) rfl (by omega) hL ?_
  refine hM.2.1 1002 _ _ _ _ _ _ _ _ (show tw_c323[1002]? = some (1701, .invokevirtual 214, 3, 310, 1, 91, 0, 0) from rfl) rfl rfl rfl (e_X10_brick ((I1)) L (A1) J 2 14 rt sc (xs (6 * i + 1)) _ h2) rfl (Or.inl rfl) ?_
  show M (1003, tw_l6 i, [.int (tw_b x), .int (tw_b x)], ((I2), L, tw_P 2 14 rt sc, (A2), J, 57))
  refine hM.1 _ _ _ _ _ _ (show tw_c323[1003]? = some (1704, .if_icmp .eq 250, 3, 1164, 0, 0, 0, 0) from rfl) (by exact if_pos rfl) rfl ?_
  exact K _ _ _ _ _ _ hI
theorem tw_case_47 {M : tw_C → Prop} {L0 : Nat} {xs : Nat → Int32} (hM : tw_Cl M L0 xs) {i : Nat} (hi : 6 * i + 5 < L0) (hL : L0 < 2 ^ 31) {I : Nat → Int32} {L : Nat → Int64} {A : Nat → Nat → Int32} {J : Nat → Nat → Int64} {rt sc : Nat} (h : tm_Inv I A) (K : ∀ (I : Nat → Int32) (L : Nat → Int64) (A : Nat → Nat → Int32) (J : Nat → Nat → Int64) (rt sc : Nat), tm_Inv I A → M (1164, tw_l6 i, [], (I, L, tw_P 2 14 rt sc, A, J, 57))) : M (1006, tw_l6 i, [], (I, L, tw_P 2 14 rt sc, A, J, 57)) := by
  obtain ⟨x, I1, A1, h1, I2, A2, h2, hI⟩ := tm_q_open h (xs (6 * i + 1))
  refine hM.1 _ _ _ _ _ (1007, tw_l6 i, [.ref 0], (I, L, tw_P 2 14 rt sc, A, J, 57)) (show tw_c323[1006]? = some (1709, .aload_n 1, 1, 0, 0, 0, 0, 0) from rfl) rfl rfl ?_
  refine tw_ldM hM (k := 1007) (k5 := 1012) (show (tw_c323.drop 1007).take 5 = [(1710, .aload_n 0, 1, 0, 0, 0, 0, 0), (1711, .iload 4, 2, 0, 0, 0, 0, 0), (1713, .iconst 1, 1, 0, 0, 0, 1, 0), (1714, .iadd, 1, 0, 0, 0, 0, 0), (1715, .iaload, 1, 0, 0, 0, 0, 0)] from rfl) rfl (j := 1) rfl (by omega) hL ?_
  refine hM.2.1 1012 _ _ _ _ _ _ _ _ (show tw_c323[1012]? = some (1716, .invokevirtual 215, 3, 163, 1, 81, 0, 0) from rfl) rfl rfl rfl (e_X9_open (I) L A J rt sc (xs (6 * i + 1)) _ h1) rfl (Or.inl rfl) ?_
  show M (1013, tw_l6 i, [.int (tw_b x)], ((I1), L, tw_P 2 14 rt sc, (A1), J, 57))
  refine hM.1 _ _ _ _ _ (1014, tw_l6 i, [.ref 44, .int (tw_b x)], ((I1), L, tw_P 2 14 rt sc, (A1), J, 57)) (show tw_c323[1013]? = some (1719, .aload_n 2, 1, 0, 0, 0, 0, 0) from rfl) rfl rfl ?_
  refine tw_ldM hM (k := 1014) (k5 := 1019) (show (tw_c323.drop 1014).take 5 = [(1720, .aload_n 0, 1, 0, 0, 0, 0, 0), (1721, .iload 4, 2, 0, 0, 0, 0, 0), (1723, .iconst 1, 1, 0, 0, 0, 1, 0), (1724, .iadd, 1, 0, 0, 0, 0, 0), (1725, .iaload, 1, 0, 0, 0, 0, 0)] from rfl) rfl (j := 1) rfl (by omega) hL ?_
  refine hM.2.1 1019 _ _ _ _ _ _ _ _ (show tw_c323[1019]? = some (1726, .invokevirtual 218, 3, 311, 1, 91, 0, 0) from rfl) rfl rfl rfl (e_X10_open ((I1)) L (A1) J 2 14 rt sc (xs (6 * i + 1)) _ h2) rfl (Or.inl rfl) ?_
  show M (1020, tw_l6 i, [.int (tw_b x), .int (tw_b x)], ((I2), L, tw_P 2 14 rt sc, (A2), J, 57))
  refine hM.1 _ _ _ _ _ _ (show tw_c323[1020]? = some (1729, .if_icmp .eq 225, 3, 1164, 0, 0, 0, 0) from rfl) (by exact if_pos rfl) rfl ?_
  exact K _ _ _ _ _ _ hI
theorem tw_case_48 {M : tw_C → Prop} {L0 : Nat} {xs : Nat → Int32} (hM : tw_Cl M L0 xs) {i : Nat} (hi : 6 * i + 5 < L0) (hL : L0 < 2 ^ 31) {I : Nat → Int32} {L : Nat → Int64} {A : Nat → Nat → Int32} {J : Nat → Nat → Int64} {rt sc : Nat} (h : tm_Inv I A) (K : ∀ (I : Nat → Int32) (L : Nat → Int64) (A : Nat → Nat → Int32) (J : Nat → Nat → Int64) (rt sc : Nat), tm_Inv I A → M (1164, tw_l6 i, [], (I, L, tw_P 2 14 rt sc, A, J, 57))) : M (1023, tw_l6 i, [], (I, L, tw_P 2 14 rt sc, A, J, 57)) := by
  obtain ⟨x, I1, A1, h1, I2, A2, h2, hI⟩ := tm_q_hire h (xs (6 * i + 1)) (xs (6 * i + 2))
  refine hM.1 _ _ _ _ _ (1024, tw_l6 i, [.ref 0], (I, L, tw_P 2 14 rt sc, A, J, 57)) (show tw_c323[1023]? = some (1734, .aload_n 1, 1, 0, 0, 0, 0, 0) from rfl) rfl rfl ?_
  refine tw_ldM hM (k := 1024) (k5 := 1029) (show (tw_c323.drop 1024).take 5 = [(1735, .aload_n 0, 1, 0, 0, 0, 0, 0), (1736, .iload 4, 2, 0, 0, 0, 0, 0), (1738, .iconst 1, 1, 0, 0, 0, 1, 0), (1739, .iadd, 1, 0, 0, 0, 0, 0), (1740, .iaload, 1, 0, 0, 0, 0, 0)] from rfl) rfl (j := 1) rfl (by omega) hL ?_
  refine tw_ldM hM (k := 1029) (k5 := 1034) (show (tw_c323.drop 1029).take 5 = [(1741, .aload_n 0, 1, 0, 0, 0, 0, 0), (1742, .iload 4, 2, 0, 0, 0, 0, 0), (1744, .iconst 2, 1, 0, 0, 0, 2, 0), (1745, .iadd, 1, 0, 0, 0, 0, 0), (1746, .iaload, 1, 0, 0, 0, 0, 0)] from rfl) rfl (j := 2) rfl (by omega) hL ?_
  refine hM.2.1 1034 _ _ _ _ _ _ _ _ (show tw_c323[1034]? = some (1747, .invokevirtual 219, 3, 164, 2, 81, 0, 0) from rfl) rfl rfl rfl (e_X9_hire (I) L A J rt sc (xs (6 * i + 1)) (xs (6 * i + 2)) _ h1) rfl (Or.inl rfl) ?_
  show M (1035, tw_l6 i, [.int x], ((I1), L, tw_P 2 14 rt sc, (A1), J, 57))
  refine hM.1 _ _ _ _ _ (1036, tw_l6 i, [.ref 44, .int x], ((I1), L, tw_P 2 14 rt sc, (A1), J, 57)) (show tw_c323[1035]? = some (1750, .aload_n 2, 1, 0, 0, 0, 0, 0) from rfl) rfl rfl ?_
  refine tw_ldM hM (k := 1036) (k5 := 1041) (show (tw_c323.drop 1036).take 5 = [(1751, .aload_n 0, 1, 0, 0, 0, 0, 0), (1752, .iload 4, 2, 0, 0, 0, 0, 0), (1754, .iconst 1, 1, 0, 0, 0, 1, 0), (1755, .iadd, 1, 0, 0, 0, 0, 0), (1756, .iaload, 1, 0, 0, 0, 0, 0)] from rfl) rfl (j := 1) rfl (by omega) hL ?_
  refine tw_ldM hM (k := 1041) (k5 := 1046) (show (tw_c323.drop 1041).take 5 = [(1757, .aload_n 0, 1, 0, 0, 0, 0, 0), (1758, .iload 4, 2, 0, 0, 0, 0, 0), (1760, .iconst 2, 1, 0, 0, 0, 2, 0), (1761, .iadd, 1, 0, 0, 0, 0, 0), (1762, .iaload, 1, 0, 0, 0, 0, 0)] from rfl) rfl (j := 2) rfl (by omega) hL ?_
  refine hM.2.1 1046 _ _ _ _ _ _ _ _ (show tw_c323[1046]? = some (1763, .invokevirtual 222, 3, 312, 2, 91, 0, 0) from rfl) rfl rfl rfl (e_X10_hire ((I1)) L (A1) J 2 14 rt sc (xs (6 * i + 1)) (xs (6 * i + 2)) _ h2) rfl (Or.inl rfl) ?_
  show M (1047, tw_l6 i, [.int x, .int x], ((I2), L, tw_P 2 14 rt sc, (A2), J, 57))
  refine hM.1 _ _ _ _ _ _ (show tw_c323[1047]? = some (1766, .if_icmp .eq 188, 3, 1164, 0, 0, 0, 0) from rfl) (by exact if_pos rfl) rfl ?_
  exact K _ _ _ _ _ _ hI
theorem tw_case_49 {M : tw_C → Prop} {L0 : Nat} {xs : Nat → Int32} (hM : tw_Cl M L0 xs) {i : Nat} (hi : 6 * i + 5 < L0) (hL : L0 < 2 ^ 31) {I : Nat → Int32} {L : Nat → Int64} {A : Nat → Nat → Int32} {J : Nat → Nat → Int64} {rt sc : Nat} (h : tm_Inv I A) (K : ∀ (I : Nat → Int32) (L : Nat → Int64) (A : Nat → Nat → Int32) (J : Nat → Nat → Int64) (rt sc : Nat), tm_Inv I A → M (1164, tw_l6 i, [], (I, L, tw_P 2 14 rt sc, A, J, 57))) : M (1050, tw_l6 i, [], (I, L, tw_P 2 14 rt sc, A, J, 57)) := by
  obtain ⟨x, I1, A1, h1, I2, A2, h2, hI⟩ := tm_q_dismiss h (xs (6 * i + 1))
  refine hM.1 _ _ _ _ _ (1051, tw_l6 i, [.ref 0], (I, L, tw_P 2 14 rt sc, A, J, 57)) (show tw_c323[1050]? = some (1771, .aload_n 1, 1, 0, 0, 0, 0, 0) from rfl) rfl rfl ?_
  refine tw_ldM hM (k := 1051) (k5 := 1056) (show (tw_c323.drop 1051).take 5 = [(1772, .aload_n 0, 1, 0, 0, 0, 0, 0), (1773, .iload 4, 2, 0, 0, 0, 0, 0), (1775, .iconst 1, 1, 0, 0, 0, 1, 0), (1776, .iadd, 1, 0, 0, 0, 0, 0), (1777, .iaload, 1, 0, 0, 0, 0, 0)] from rfl) rfl (j := 1) rfl (by omega) hL ?_
  refine hM.2.1 1056 _ _ _ _ _ _ _ _ (show tw_c323[1056]? = some (1778, .invokevirtual 223, 3, 165, 1, 81, 0, 0) from rfl) rfl rfl rfl (e_X9_dismiss (I) L A J rt sc (xs (6 * i + 1)) _ h1) rfl (Or.inl rfl) ?_
  show M (1057, tw_l6 i, [.int (tw_b x)], ((I1), L, tw_P 2 14 rt sc, (A1), J, 57))
  refine hM.1 _ _ _ _ _ (1058, tw_l6 i, [.ref 44, .int (tw_b x)], ((I1), L, tw_P 2 14 rt sc, (A1), J, 57)) (show tw_c323[1057]? = some (1781, .aload_n 2, 1, 0, 0, 0, 0, 0) from rfl) rfl rfl ?_
  refine tw_ldM hM (k := 1058) (k5 := 1063) (show (tw_c323.drop 1058).take 5 = [(1782, .aload_n 0, 1, 0, 0, 0, 0, 0), (1783, .iload 4, 2, 0, 0, 0, 0, 0), (1785, .iconst 1, 1, 0, 0, 0, 1, 0), (1786, .iadd, 1, 0, 0, 0, 0, 0), (1787, .iaload, 1, 0, 0, 0, 0, 0)] from rfl) rfl (j := 1) rfl (by omega) hL ?_
  refine hM.2.1 1063 _ _ _ _ _ _ _ _ (show tw_c323[1063]? = some (1788, .invokevirtual 226, 3, 313, 1, 91, 0, 0) from rfl) rfl rfl rfl (e_X10_dismiss ((I1)) L (A1) J 2 14 rt sc (xs (6 * i + 1)) _ h2) rfl (Or.inl rfl) ?_
  show M (1064, tw_l6 i, [.int (tw_b x), .int (tw_b x)], ((I2), L, tw_P 2 14 rt sc, (A2), J, 57))
  refine hM.1 _ _ _ _ _ _ (show tw_c323[1064]? = some (1791, .if_icmp .eq 163, 3, 1164, 0, 0, 0, 0) from rfl) (by exact if_pos rfl) rfl ?_
  exact K _ _ _ _ _ _ hI
theorem tw_case_50 {M : tw_C → Prop} {L0 : Nat} {xs : Nat → Int32} (hM : tw_Cl M L0 xs) {i : Nat} (hi : 6 * i + 5 < L0) (hL : L0 < 2 ^ 31) {I : Nat → Int32} {L : Nat → Int64} {A : Nat → Nat → Int32} {J : Nat → Nat → Int64} {rt sc : Nat} (h : tm_Inv I A) (K : ∀ (I : Nat → Int32) (L : Nat → Int64) (A : Nat → Nat → Int32) (J : Nat → Nat → Int64) (rt sc : Nat), tm_Inv I A → M (1164, tw_l6 i, [], (I, L, tw_P 2 14 rt sc, A, J, 57))) : M (1067, tw_l6 i, [], (I, L, tw_P 2 14 rt sc, A, J, 57)) := by
  obtain ⟨x, I1, h1, I2, h2, hI⟩ := tm_q_spent h 
  refine hM.1 _ _ _ _ _ (1068, tw_l6 i, [.ref 0], (I, L, tw_P 2 14 rt sc, A, J, 57)) (show tw_c323[1067]? = some (1796, .aload_n 1, 1, 0, 0, 0, 0, 0) from rfl) rfl rfl ?_
  refine hM.2.1 1068 _ _ _ _ _ _ _ _ (show tw_c323[1068]? = some (1797, .invokevirtual 227, 3, 166, 0, 81, 0, 0) from rfl) rfl rfl rfl (e_X9_spent (I) L A J rt sc  _ h1) rfl (Or.inl rfl) ?_
  show M (1069, tw_l6 i, [.int x], ((I1), L, tw_P 2 14 rt sc, A, J, 57))
  refine hM.1 _ _ _ _ _ (1070, tw_l6 i, [.ref 44, .int x], ((I1), L, tw_P 2 14 rt sc, A, J, 57)) (show tw_c323[1069]? = some (1800, .aload_n 2, 1, 0, 0, 0, 0, 0) from rfl) rfl rfl ?_
  refine hM.2.1 1070 _ _ _ _ _ _ _ _ (show tw_c323[1070]? = some (1801, .invokevirtual 230, 3, 314, 0, 91, 0, 0) from rfl) rfl rfl rfl (e_X10_spent ((I1)) L A J 2 14 rt sc  _ h2) rfl (Or.inl rfl) ?_
  show M (1071, tw_l6 i, [.int x, .int x], ((I2), L, tw_P 2 14 rt sc, A, J, 57))
  refine hM.1 _ _ _ _ _ _ (show tw_c323[1071]? = some (1804, .if_icmp .eq 150, 3, 1164, 0, 0, 0, 0) from rfl) (by exact if_pos rfl) rfl ?_
  exact K _ _ _ _ _ _ hI
theorem tw_case_51 {M : tw_C → Prop} {L0 : Nat} {xs : Nat → Int32} (hM : tw_Cl M L0 xs) {i : Nat} (hi : 6 * i + 5 < L0) (hL : L0 < 2 ^ 31) {I : Nat → Int32} {L : Nat → Int64} {A : Nat → Nat → Int32} {J : Nat → Nat → Int64} {rt sc : Nat} (h : tm_Inv I A) (K : ∀ (I : Nat → Int32) (L : Nat → Int64) (A : Nat → Nat → Int32) (J : Nat → Nat → Int64) (rt sc : Nat), tm_Inv I A → M (1164, tw_l6 i, [], (I, L, tw_P 2 14 rt sc, A, J, 57))) : M (1074, tw_l6 i, [], (I, L, tw_P 2 14 rt sc, A, J, 57)) := by
  obtain ⟨x, I1, h1, I2, A2, h2, hI⟩ := tm_q_undo h 
  refine hM.1 _ _ _ _ _ (1075, tw_l6 i, [.ref 0], (I, L, tw_P 2 14 rt sc, A, J, 57)) (show tw_c323[1074]? = some (1809, .aload_n 1, 1, 0, 0, 0, 0, 0) from rfl) rfl rfl ?_
  refine hM.2.1 1075 _ _ _ _ _ _ _ _ (show tw_c323[1075]? = some (1810, .invokevirtual 231, 3, 167, 0, 81, 0, 0) from rfl) rfl rfl rfl (e_X9_undo (I) L A J 2 14 rt sc  _ h1) rfl (Or.inl rfl) ?_
  show M (1076, tw_l6 i, [.int (tw_b x)], ((I1), L, tw_P 2 14 rt sc, A, J, 57))
  refine hM.1 _ _ _ _ _ (1077, tw_l6 i, [.ref 44, .int (tw_b x)], ((I1), L, tw_P 2 14 rt sc, A, J, 57)) (show tw_c323[1076]? = some (1813, .aload_n 2, 1, 0, 0, 0, 0, 0) from rfl) rfl rfl ?_
  refine hM.2.1 1077 _ _ _ _ _ _ _ _ (show tw_c323[1077]? = some (1814, .invokevirtual 235, 3, 315, 0, 91, 0, 0) from rfl) rfl rfl rfl (e_X10_undo ((I1)) L A J 2 14 rt sc  _ h2) rfl (Or.inl rfl) ?_
  show M (1078, tw_l6 i, [.int (tw_b x), .int (tw_b x)], ((I2), L, tw_P 2 14 rt sc, (A2), J, 57))
  refine hM.1 _ _ _ _ _ _ (show tw_c323[1078]? = some (1817, .if_icmp .eq 137, 3, 1164, 0, 0, 0, 0) from rfl) (by exact if_pos rfl) rfl ?_
  exact K _ _ _ _ _ _ hI
theorem tw_case_52 {M : tw_C → Prop} {L0 : Nat} {xs : Nat → Int32} (hM : tw_Cl M L0 xs) {i : Nat} (hi : 6 * i + 5 < L0) (hL : L0 < 2 ^ 31) {I : Nat → Int32} {L : Nat → Int64} {A : Nat → Nat → Int32} {J : Nat → Nat → Int64} {rt sc : Nat} (h : tm_Inv I A) (K : ∀ (I : Nat → Int32) (L : Nat → Int64) (A : Nat → Nat → Int32) (J : Nat → Nat → Int64) (rt sc : Nat), tm_Inv I A → M (1164, tw_l6 i, [], (I, L, tw_P 2 14 rt sc, A, J, 57))) : M (1081, tw_l6 i, [], (I, L, tw_P 2 14 rt sc, A, J, 57)) := by
  obtain ⟨x, I1, A1, h1, I2, A2, h2, hI⟩ := tm_q_image h 
  refine hM.1 _ _ _ _ _ (1082, tw_l6 i, [.ref 0], (I, L, tw_P 2 14 rt sc, A, J, 57)) (show tw_c323[1081]? = some (1822, .aload_n 1, 1, 0, 0, 0, 0, 0) from rfl) rfl rfl ?_
  refine hM.2.1 1082 _ _ _ _ _ _ _ _ (show tw_c323[1082]? = some (1823, .invokevirtual 236, 3, 168, 0, 81, 0, 0) from rfl) rfl rfl rfl (e_X9_image (I) L A J rt sc  _ h1) rfl (Or.inl rfl) ?_
  show M (1083, tw_l6 i, [.int x], ((I1), L, tw_P 2 14 rt sc, (A1), J, 57))
  refine hM.1 _ _ _ _ _ (1084, tw_l6 i, [.ref 44, .int x], ((I1), L, tw_P 2 14 rt sc, (A1), J, 57)) (show tw_c323[1083]? = some (1826, .aload_n 2, 1, 0, 0, 0, 0, 0) from rfl) rfl rfl ?_
  refine hM.2.1 1084 _ _ _ _ _ _ _ _ (show tw_c323[1084]? = some (1827, .invokevirtual 239, 3, 316, 0, 91, 0, 0) from rfl) rfl rfl rfl (e_X10_image ((I1)) L (A1) J 2 14 rt sc  _ h2) rfl (Or.inl rfl) ?_
  show M (1085, tw_l6 i, [.int x, .int x], ((I2), L, tw_P 2 14 rt sc, (A2), J, 57))
  refine hM.1 _ _ _ _ _ _ (show tw_c323[1085]? = some (1830, .if_icmp .eq 124, 3, 1164, 0, 0, 0, 0) from rfl) (by exact if_pos rfl) rfl ?_
  exact K _ _ _ _ _ _ hI
theorem tw_case_53 {M : tw_C → Prop} {L0 : Nat} {xs : Nat → Int32} (hM : tw_Cl M L0 xs) {i : Nat} (hi : 6 * i + 5 < L0) (hL : L0 < 2 ^ 31) {I : Nat → Int32} {L : Nat → Int64} {A : Nat → Nat → Int32} {J : Nat → Nat → Int64} {rt sc : Nat} (h : tm_Inv I A) (K : ∀ (I : Nat → Int32) (L : Nat → Int64) (A : Nat → Nat → Int32) (J : Nat → Nat → Int64) (rt sc : Nat), tm_Inv I A → M (1164, tw_l6 i, [], (I, L, tw_P 2 14 rt sc, A, J, 57))) : M (1088, tw_l6 i, [], (I, L, tw_P 2 14 rt sc, A, J, 57)) := by
  obtain ⟨x, I1, h1, I2, A2, h2, hI⟩ := tm_q_back h (xs (6 * i + 1))
  refine hM.1 _ _ _ _ _ (1089, tw_l6 i, [.ref 0], (I, L, tw_P 2 14 rt sc, A, J, 57)) (show tw_c323[1088]? = some (1835, .aload_n 1, 1, 0, 0, 0, 0, 0) from rfl) rfl rfl ?_
  refine tw_ldM hM (k := 1089) (k5 := 1094) (show (tw_c323.drop 1089).take 5 = [(1836, .aload_n 0, 1, 0, 0, 0, 0, 0), (1837, .iload 4, 2, 0, 0, 0, 0, 0), (1839, .iconst 1, 1, 0, 0, 0, 1, 0), (1840, .iadd, 1, 0, 0, 0, 0, 0), (1841, .iaload, 1, 0, 0, 0, 0, 0)] from rfl) rfl (j := 1) rfl (by omega) hL ?_
  refine hM.2.1 1094 _ _ _ _ _ _ _ _ (show tw_c323[1094]? = some (1842, .invokevirtual 240, 3, 169, 1, 81, 0, 0) from rfl) rfl rfl rfl (e_X9_back (I) L A J 2 14 rt sc (xs (6 * i + 1)) _ h1) rfl (Or.inl rfl) ?_
  show M (1095, tw_l6 i, [.int (tw_b x)], ((I1), L, tw_P 2 14 rt sc, A, J, 57))
  refine hM.1 _ _ _ _ _ (1096, tw_l6 i, [.ref 44, .int (tw_b x)], ((I1), L, tw_P 2 14 rt sc, A, J, 57)) (show tw_c323[1095]? = some (1845, .aload_n 2, 1, 0, 0, 0, 0, 0) from rfl) rfl rfl ?_
  refine tw_ldM hM (k := 1096) (k5 := 1101) (show (tw_c323.drop 1096).take 5 = [(1846, .aload_n 0, 1, 0, 0, 0, 0, 0), (1847, .iload 4, 2, 0, 0, 0, 0, 0), (1849, .iconst 1, 1, 0, 0, 0, 1, 0), (1850, .iadd, 1, 0, 0, 0, 0, 0), (1851, .iaload, 1, 0, 0, 0, 0, 0)] from rfl) rfl (j := 1) rfl (by omega) hL ?_
  refine hM.2.1 1101 _ _ _ _ _ _ _ _ (show tw_c323[1101]? = some (1852, .invokevirtual 243, 3, 317, 1, 91, 0, 0) from rfl) rfl rfl rfl (e_X10_back ((I1)) L A J 2 14 rt sc (xs (6 * i + 1)) _ h2) rfl (Or.inl rfl) ?_
  show M (1102, tw_l6 i, [.int (tw_b x), .int (tw_b x)], ((I2), L, tw_P 2 14 rt sc, (A2), J, 57))
  refine hM.1 _ _ _ _ _ _ (show tw_c323[1102]? = some (1855, .if_icmp .eq 99, 3, 1164, 0, 0, 0, 0) from rfl) (by exact if_pos rfl) rfl ?_
  exact K _ _ _ _ _ _ hI
theorem tw_case_55 {M : tw_C → Prop} {L0 : Nat} {xs : Nat → Int32} (hM : tw_Cl M L0 xs) {i : Nat} (hi : 6 * i + 5 < L0) (hL : L0 < 2 ^ 31) {I : Nat → Int32} {L : Nat → Int64} {A : Nat → Nat → Int32} {J : Nat → Nat → Int64} {rt sc : Nat} (h : tm_Inv I A) (K : ∀ (I : Nat → Int32) (L : Nat → Int64) (A : Nat → Nat → Int32) (J : Nat → Nat → Int64) (rt sc : Nat), tm_Inv I A → M (1164, tw_l6 i, [], (I, L, tw_P 2 14 rt sc, A, J, 57))) : M (1140, tw_l6 i, [], (I, L, tw_P 2 14 rt sc, A, J, 57)) := by
  obtain ⟨x, h1, I2, h2, hI⟩ := tm_q_size h (xs (6 * i + 1))
  refine hM.1 _ _ _ _ _ (1141, tw_l6 i, [.ref 0], (I, L, tw_P 2 14 rt sc, A, J, 57)) (show tw_c323[1140]? = some (1916, .aload_n 1, 1, 0, 0, 0, 0, 0) from rfl) rfl rfl ?_
  refine tw_ldM hM (k := 1141) (k5 := 1146) (show (tw_c323.drop 1141).take 5 = [(1917, .aload_n 0, 1, 0, 0, 0, 0, 0), (1918, .iload 4, 2, 0, 0, 0, 0, 0), (1920, .iconst 1, 1, 0, 0, 0, 1, 0), (1921, .iadd, 1, 0, 0, 0, 0, 0), (1922, .iaload, 1, 0, 0, 0, 0, 0)] from rfl) rfl (j := 1) rfl (by omega) hL ?_
  refine hM.2.1 1146 _ _ _ _ _ _ _ _ (show tw_c323[1146]? = some (1923, .invokevirtual 253, 3, 171, 1, 81, 0, 0) from rfl) rfl rfl rfl (e_X9_size (I) L A J rt sc (xs (6 * i + 1)) _ h1) rfl (Or.inl rfl) ?_
  show M (1147, tw_l6 i, [.int x], (I, L, tw_P 2 14 rt sc, A, J, 57))
  refine hM.1 _ _ _ _ _ (1148, tw_l6 i, [.ref 44, .int x], (I, L, tw_P 2 14 rt sc, A, J, 57)) (show tw_c323[1147]? = some (1926, .aload_n 2, 1, 0, 0, 0, 0, 0) from rfl) rfl rfl ?_
  refine tw_ldM hM (k := 1148) (k5 := 1153) (show (tw_c323.drop 1148).take 5 = [(1927, .aload_n 0, 1, 0, 0, 0, 0, 0), (1928, .iload 4, 2, 0, 0, 0, 0, 0), (1930, .iconst 1, 1, 0, 0, 0, 1, 0), (1931, .iadd, 1, 0, 0, 0, 0, 0), (1932, .iaload, 1, 0, 0, 0, 0, 0)] from rfl) rfl (j := 1) rfl (by omega) hL ?_
  refine hM.2.1 1153 _ _ _ _ _ _ _ _ (show tw_c323[1153]? = some (1933, .invokevirtual 256, 3, 319, 1, 91, 0, 0) from rfl) rfl rfl rfl (e_X10_size (I) L A J 2 14 rt sc (xs (6 * i + 1)) _ h2) rfl (Or.inl rfl) ?_
  show M (1154, tw_l6 i, [.int x, .int x], ((I2), L, tw_P 2 14 rt sc, A, J, 57))
  refine hM.1 _ _ _ _ _ _ (show tw_c323[1154]? = some (1936, .if_icmp .eq 18, 3, 1164, 0, 0, 0, 0) from rfl) (by exact if_pos rfl) rfl ?_
  exact K _ _ _ _ _ _ hI
theorem tw_case_56 {M : tw_C → Prop} {L0 : Nat} {xs : Nat → Int32} (hM : tw_Cl M L0 xs) {i : Nat} (hi : 6 * i + 5 < L0) (hL : L0 < 2 ^ 31) {I : Nat → Int32} {L : Nat → Int64} {A : Nat → Nat → Int32} {J : Nat → Nat → Int64} {rt sc : Nat} (h : tm_Inv I A) (K : ∀ (I : Nat → Int32) (L : Nat → Int64) (A : Nat → Nat → Int32) (J : Nat → Nat → Int64) (rt sc : Nat), tm_Inv I A → M (1164, tw_l6 i, [], (I, L, tw_P 2 14 rt sc, A, J, 57))) : M (1157, tw_l6 i, [], (I, L, tw_P 2 14 rt sc, A, J, 57)) := by
  obtain ⟨x, h1, I2, h2, hI⟩ := tm_q_trouble h 
  refine hM.1 _ _ _ _ _ (1158, tw_l6 i, [.ref 0], (I, L, tw_P 2 14 rt sc, A, J, 57)) (show tw_c323[1157]? = some (1941, .aload_n 1, 1, 0, 0, 0, 0, 0) from rfl) rfl rfl ?_
  refine hM.2.1 1158 _ _ _ _ _ _ _ _ (show tw_c323[1158]? = some (1942, .invokevirtual 257, 3, 172, 0, 81, 0, 0) from rfl) rfl rfl rfl (e_X9_trouble (I) L A J 2 14 rt sc  _ h1) rfl (Or.inl rfl) ?_
  show M (1159, tw_l6 i, [.int x], (I, L, tw_P 2 14 rt sc, A, J, 57))
  refine hM.1 _ _ _ _ _ (1160, tw_l6 i, [.ref 44, .int x], (I, L, tw_P 2 14 rt sc, A, J, 57)) (show tw_c323[1159]? = some (1945, .aload_n 2, 1, 0, 0, 0, 0, 0) from rfl) rfl rfl ?_
  refine hM.2.1 1160 _ _ _ _ _ _ _ _ (show tw_c323[1160]? = some (1946, .invokevirtual 260, 3, 320, 0, 91, 0, 0) from rfl) rfl rfl rfl (e_X10_trouble (I) L A J 2 14 rt sc  _ h2) rfl (Or.inl rfl) ?_
  show M (1161, tw_l6 i, [.int x, .int x], ((I2), L, tw_P 2 14 rt sc, A, J, 57))
  refine hM.1 _ _ _ _ _ _ (show tw_c323[1161]? = some (1949, .if_icmp .eq 5, 3, 1164, 0, 0, 0, 0) from rfl) (by exact if_pos rfl) rfl ?_
  exact K _ _ _ _ _ _ hI
