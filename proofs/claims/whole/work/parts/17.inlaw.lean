/-! the machine's words stand in the tables, and are good ones -/
def tw_cps : List Nat := [298, 757, 790, 1088, 787, 1264, 1300, 1313, 1321, 1271, 1304, 359, 913, 918, 1247, 981, 922, 929, 934, 944, 1229, 1233, 420, 1124, 1129, 1138, 1154, 1162, 1170, 1174, 407, 975, 993, 989, 1022, 1030, 1048, 1040, 1057, 1061, 1070, 1074, 1085, 1108, 220, 496, 753, 538, 542, 610, 620, 624, 628, 642, 653, 634, 638, 696, 662, 658, 676, 688, 680, 722, 714, 649, 666, 692, 706, 718, 728, 737, 745, 749, 617, 645, 331, 835, 938, 1134, 1005, 1009, 885, 842, 855, 872, 876, 868, 226, 508, 512, 523, 532, 516, 519, 528, 547, 550, 154, 500, 614, 670, 710, 684, 741, 732, 803, 799, 795, 783, 1081, 146, 480, 484, 488, 766, 770, 774, 807, 815, 824, 847, 860, 881, 889, 897, 901, 952, 956, 960, 964, 971, 985, 1013, 1018, 1026, 1036, 1044, 1053, 1066, 1092, 1097, 1104, 1112, 1146, 1150, 1158, 1166, 1181, 1186, 1191, 1199, 1203, 1214, 1221, 1210, 1217, 1207, 1225, 1238, 1251, 1255, 1260, 1280, 1284, 1288, 1292, 1296, 1309, 1317, 1337, 1325, 1329, 492, 762, 909, 1276, 893, 851, 811, 778, 819, 827, 831, 1120, 864, 905, 1242, 1116, 967, 1195, 1407, 1524, 1536, 1543, 2006, 1539, 1759, 1839, 1685, 1946, 1528, 1551, 1554, 1557, 1547, 1576, 1566, 1589, 1585, 1618, 1629, 1614, 1645, 1641, 1663, 1601, 1637, 1597, 1593, 1581, 1532, 1606, 1561, 1572, 1610, 1633, 1649, 1659, 1667, 1673, 1678, 1682, 1689, 1693, 1752, 1701, 1724, 1716, 1704, 1740, 1744, 1756, 1767, 1775, 1807, 1803, 1799, 1736, 1732, 1708, 1697, 1712, 1720, 1728, 1748, 1763, 1771, 1779, 1787, 1783, 1795, 1791, 1812, 1816, 1820, 1824, 1828, 1836, 1832, 1843, 1847, 1851, 1855, 1859, 1863, 1875, 1879, 1871, 1867, 1883, 1891, 1887, 1895, 1907, 1903, 1899, 1911, 1915, 1919, 1931, 1927, 1923, 1935, 1939, 1943, 1950, 1957, 1954, 1965, 1961, 1969, 1977, 1973, 1985, 1981, 1990, 1994, 2010, 2002, 1998, 2014, 2018, 2022, 2026, 2030, 2034, 2038, 2042, 2046, 2050, 998, 503]
set_option maxRecDepth 100000 in
theorem tw_cpo_0 : (List.range' 0 25).all (fun y => decide (lw_tbl[tw_cps.getD y 0]? = some (tw_cw y))) = true := by decide +kernel
set_option maxRecDepth 100000 in
theorem tw_cpo_25 : (List.range' 25 25).all (fun y => decide (lw_tbl[tw_cps.getD y 0]? = some (tw_cw y))) = true := by decide +kernel
set_option maxRecDepth 100000 in
theorem tw_cpo_50 : (List.range' 50 25).all (fun y => decide (lw_tbl[tw_cps.getD y 0]? = some (tw_cw y))) = true := by decide +kernel
set_option maxRecDepth 100000 in
theorem tw_cpo_75 : (List.range' 75 25).all (fun y => decide (lw_tbl[tw_cps.getD y 0]? = some (tw_cw y))) = true := by decide +kernel
set_option maxRecDepth 100000 in
theorem tw_cpo_100 : (List.range' 100 25).all (fun y => decide (lw_tbl[tw_cps.getD y 0]? = some (tw_cw y))) = true := by decide +kernel
set_option maxRecDepth 100000 in
theorem tw_cpo_125 : (List.range' 125 25).all (fun y => decide (lw_tbl[tw_cps.getD y 0]? = some (tw_cw y))) = true := by decide +kernel
set_option maxRecDepth 100000 in
theorem tw_cpo_150 : (List.range' 150 25).all (fun y => decide (lw_tbl[tw_cps.getD y 0]? = some (tw_cw y))) = true := by decide +kernel
set_option maxRecDepth 100000 in
theorem tw_cpo_175 : (List.range' 175 25).all (fun y => decide (lw_tbl[tw_cps.getD y 0]? = some (tw_cw y))) = true := by decide +kernel
set_option maxRecDepth 100000 in
theorem tw_cpo_200 : (List.range' 200 25).all (fun y => decide (lw_tbl[tw_cps.getD y 0]? = some (tw_cw y))) = true := by decide +kernel
set_option maxRecDepth 100000 in
theorem tw_cpo_225 : (List.range' 225 25).all (fun y => decide (lw_tbl[tw_cps.getD y 0]? = some (tw_cw y))) = true := by decide +kernel
set_option maxRecDepth 100000 in
theorem tw_cpo_250 : (List.range' 250 25).all (fun y => decide (lw_tbl[tw_cps.getD y 0]? = some (tw_cw y))) = true := by decide +kernel
set_option maxRecDepth 100000 in
theorem tw_cpo_275 : (List.range' 275 25).all (fun y => decide (lw_tbl[tw_cps.getD y 0]? = some (tw_cw y))) = true := by decide +kernel
set_option maxRecDepth 100000 in
theorem tw_cpo_300 : (List.range' 300 23).all (fun y => decide (lw_tbl[tw_cps.getD y 0]? = some (tw_cw y))) = true := by decide +kernel
def tw_wok (w : Cond) : Bool := k2_isCode w || (decide (w ∈ lw_tbl) && goodWord w)
def tw_mok (y : Nat) : Bool := (tw_code y).all (fun e => (tw_ew (tw_nm y).cls e).all tw_wok && (!tw_call e || decide (e.2.2.2.1 < 323)))
set_option maxRecDepth 100000 in
theorem tw_mo_0 : (List.range' 0 25).all tw_mok = true := by decide +kernel
set_option maxRecDepth 100000 in
theorem tw_mo_25 : (List.range' 25 25).all tw_mok = true := by decide +kernel
set_option maxRecDepth 100000 in
theorem tw_mo_50 : (List.range' 50 25).all tw_mok = true := by decide +kernel
set_option maxRecDepth 100000 in
theorem tw_mo_75 : (List.range' 75 25).all tw_mok = true := by decide +kernel
set_option maxRecDepth 100000 in
theorem tw_mo_100 : (List.range' 100 25).all tw_mok = true := by decide +kernel
set_option maxRecDepth 100000 in
theorem tw_mo_125 : (List.range' 125 25).all tw_mok = true := by decide +kernel
set_option maxRecDepth 100000 in
theorem tw_mo_150 : (List.range' 150 25).all tw_mok = true := by decide +kernel
set_option maxRecDepth 100000 in
theorem tw_mo_175 : (List.range' 175 25).all tw_mok = true := by decide +kernel
set_option maxRecDepth 100000 in
theorem tw_mo_200 : (List.range' 200 25).all tw_mok = true := by decide +kernel
set_option maxRecDepth 100000 in
theorem tw_mo_225 : (List.range' 225 25).all tw_mok = true := by decide +kernel
set_option maxRecDepth 100000 in
theorem tw_mo_250 : (List.range' 250 25).all tw_mok = true := by decide +kernel
set_option maxRecDepth 100000 in
theorem tw_mo_275 : (List.range' 275 25).all tw_mok = true := by decide +kernel
set_option maxRecDepth 100000 in
theorem tw_mo_300 : (List.range' 300 24).all tw_mok = true := by decide +kernel
