def mmPlL : List (List Nat) := [[407, 115, 406, 0], [798, 115, 796, 797], [837, 115, 835, 836], [802, 115, 801, 21], [849, 115, 848, 26], [853, 115, 852, 27], [889, 115, 887, 888], [959, 115, 957, 958], [833, 115, 831, 832], [829, 115, 827, 828], [885, 115, 883, 884], [893, 115, 891, 892], [845, 115, 844, 25], [943, 115, 941, 942], [857, 115, 856, 28], [861, 115, 860, 29], [813, 115, 811, 812], [821, 115, 819, 820], [817, 115, 816, 23], [221, 112, 220, 0], [665, 112, 663, 664], [865, 112, 863, 864], [869, 112, 868, 0], [186, 110, 185, 0], [649, 110, 647, 648], [688, 110, 687, 16], [692, 110, 691, 17], [653, 110, 652, 11], [680, 110, 679, 14], [675, 110, 674, 13], [684, 110, 683, 15], [658, 110, 657, 12], [669, 110, 668, 0], [661, 110, 660, 0], [333, 113, 332, 0], [707, 113, 705, 706], [741, 113, 739, 740], [737, 113, 735, 736], [745, 113, 743, 744], [764, 113, 762, 763], [756, 113, 754, 755], [1030, 113, 1028, 1029], [774, 113, 772, 773], [778, 113, 776, 777], [1070, 113, 1068, 1069], [1074, 113, 1073, 36], [790, 113, 788, 789], [1019, 113, 1017, 1018], [1038, 113, 1036, 1037], [1043, 113, 1042, 34], [1082, 113, 1080, 1081], [180, 109, 179, 0], [574, 109, 572, 573], [579, 109, 578, 3], [591, 109, 590, 5], [596, 109, 595, 6], [587, 109, 586, 4], [600, 109, 599, 7], [624, 109, 623, 8], [632, 109, 631, 9], [641, 109, 640, 10], [699, 109, 698, 18], [703, 109, 702, 19], [401, 114, 400, 0], [794, 114, 792, 793], [806, 114, 805, 22], [809, 114, 808, 0], [825, 114, 824, 24], [876, 114, 875, 30], [880, 114, 879, 31], [897, 114, 895, 896], [1062, 114, 1060, 1061], [215, 111, 214, 0], [240, 111, 238, 239], [841, 111, 839, 840], [614, 111, 612, 613], [636, 111, 634, 635], [645, 111, 643, 644], [489, 116, 488, 0], [953, 116, 951, 952], [967, 116, 966, 32], [985, 116, 984, 33], [1011, 116, 1009, 1010], [981, 116, 979, 980], [999, 116, 997, 998], [990, 116, 988, 989], [138, 108, 137, 0], [541, 108, 539, 540], [545, 108, 543, 544], [553, 108, 551, 552], [583, 108, 581, 582], [619, 108, 617, 618], [628, 108, 626, 627], [557, 108, 555, 556], [561, 108, 560, 0], [565, 108, 564, 1], [570, 108, 569, 2], [608, 118, 607, 0], [603, 118, 602, 0], [130, 107, 129, 0], [537, 107, 535, 536], [549, 107, 547, 548], [711, 107, 709, 710], [715, 107, 713, 714], [1102, 107, 1100, 1101], [720, 107, 718, 719], [727, 107, 725, 726], [749, 107, 747, 748], [760, 107, 758, 759], [769, 107, 767, 768], [782, 107, 780, 781], [901, 107, 899, 900], [908, 107, 906, 907], [912, 107, 910, 911], [916, 107, 914, 915], [921, 107, 919, 920], [926, 107, 924, 925], [930, 107, 928, 929], [934, 107, 932, 933], [938, 107, 936, 937], [948, 107, 946, 947], [963, 107, 961, 962], [974, 107, 972, 973], [995, 107, 993, 994], [1003, 107, 1001, 1002], [1007, 107, 1005, 1006], [1015, 107, 1013, 1014], [1026, 107, 1024, 1025], [1034, 107, 1032, 1033], [1050, 107, 1048, 1049], [1066, 107, 1064, 1065], [1078, 107, 1076, 1077], [1089, 107, 1087, 1088], [1093, 107, 1091, 1092], [786, 107, 785, 20], [1054, 107, 1053, 35], [904, 107, 903, 0], [730, 107, 729, 0], [733, 107, 732, 0], [723, 107, 722, 0], [752, 107, 751, 0], [977, 107, 976, 0], [1190, 117, 1189, 0], [1474, 117, 1472, 1473], [1478, 117, 1476, 1477], [1525, 117, 1524, 0], [1514, 117, 1513, 47], [1494, 117, 1493, 42], [1490, 117, 1489, 41], [1502, 117, 1501, 44], [1486, 117, 1485, 40], [1506, 117, 1505, 45], [1498, 117, 1497, 43], [1536, 117, 1535, 51], [1548, 117, 1547, 54], [1522, 117, 1521, 49], [1195, 117, 1194, 38], [1202, 117, 1201, 0], [1199, 117, 1198, 39], [1532, 117, 1531, 0], [1518, 117, 1517, 48], [1552, 117, 1551, 55], [1544, 117, 1543, 53], [1540, 117, 1539, 52], [1529, 117, 1528, 50], [1556, 117, 1555, 56], [1599, 117, 1598, 66], [1510, 117, 1509, 46], [1482, 117, 1480, 1481], [1603, 117, 1601, 1602], [1607, 117, 1605, 1606], [1615, 117, 1614, 67], [1611, 117, 1609, 1610], [1591, 117, 1590, 0], [1580, 117, 1579, 62], [1595, 117, 1594, 65], [1588, 117, 1587, 64], [1572, 117, 1571, 60], [1568, 117, 1567, 59], [1576, 117, 1575, 61], [1564, 117, 1563, 58], [1584, 117, 1583, 63], [1560, 117, 1559, 57], [1729, 117, 1728, 87], [1738, 117, 1737, 0], [1735, 117, 1734, 88], [1725, 117, 1724, 86], [1693, 117, 1692, 0], [1662, 117, 1661, 71], [1686, 117, 1685, 77], [1690, 117, 1689, 78], [1717, 117, 1716, 84], [1705, 117, 1704, 81], [1713, 117, 1712, 83], [1721, 117, 1720, 85], [1709, 117, 1708, 82], [1701, 117, 1700, 80], [1762, 117, 1761, 94], [1742, 117, 1741, 89], [1697, 117, 1696, 79], [1682, 117, 1681, 76], [1766, 117, 1765, 95], [1746, 117, 1745, 90], [1678, 117, 1677, 75], [1750, 117, 1749, 91], [1674, 117, 1673, 74], [1630, 117, 1629, 68], [1622, 117, 1621, 0], [1650, 117, 1649, 69], [1619, 117, 1617, 1618], [1626, 117, 1624, 1625], [1637, 117, 1636, 0], [1634, 117, 1632, 1633], [1641, 117, 1639, 1640], [1645, 117, 1643, 1644], [1670, 117, 1669, 73], [1666, 117, 1665, 72], [1754, 117, 1753, 92], [1758, 117, 1757, 93], [1658, 117, 1657, 70], [1773, 117, 1772, 0], [1654, 117, 1652, 1653], [1770, 117, 1768, 1769], [1777, 117, 1775, 1776], [1781, 117, 1779, 1780], [1785, 117, 1783, 1784], [1789, 117, 1787, 1788], [1793, 117, 1791, 1792], [1797, 117, 1795, 1796], [1801, 117, 1799, 1800], [1805, 117, 1803, 1804], [1810, 117, 1808, 1809], [1818, 117, 1817, 96], [1822, 117, 1821, 97], [1814, 117, 1812, 1813], [1841, 117, 1840, 100], [1865, 117, 1864, 103], [1861, 117, 1860, 102], [1837, 117, 1836, 99], [1833, 117, 1832, 98], [1829, 117, 1828, 0], [1845, 117, 1844, 101], [1826, 117, 1824, 1825], [1849, 117, 1847, 1848], [1853, 117, 1851, 1852], [1857, 117, 1855, 1856], [1873, 117, 1872, 104], [1869, 117, 1867, 1868], [1877, 117, 1875, 1876], [1885, 117, 1884, 105], [1881, 117, 1879, 1880], [1889, 117, 1887, 1888], [1897, 117, 1895, 1896], [1901, 117, 1899, 1900], [1905, 117, 1903, 1904], [1909, 117, 1907, 1908], [9999, 106, 1095, 0], [9999, 106, 9999, 9999]]
def mmKdL : List (Nat) := [2, 0, 0, 0, 0, 0, 0, 0, 0, 0, 0, 0, 0, 0, 0, 0, 0, 0, 0, 2, 0, 0, 1, 2, 0, 0, 0, 0, 0, 0, 0, 0, 1, 1, 2, 0, 0, 0, 0, 0, 0, 0, 0, 0, 0, 0, 0, 0, 0, 0, 0, 2, 0, 0, 0, 0, 0, 0, 0, 0, 0, 0, 0, 2, 0, 0, 1, 0, 0, 0, 0, 0, 2, 0, 0, 0, 0, 0, 2, 0, 0, 0, 0, 0, 0, 0, 2, 0, 0, 0, 0, 0, 0, 0, 0, 0, 0, 1, 1, 2, 0, 0, 0, 0, 0, 0, 0, 0, 0, 0, 0, 0, 0, 0, 0, 0, 0, 0, 0, 0, 0, 0, 0, 0, 0, 0, 0, 0, 0, 0, 0, 0, 0, 0, 0, 0, 1, 1, 1, 1, 1, 1, 2, 0, 0, 1, 0, 0, 0, 0, 0, 0, 0, 0, 0, 0, 0, 1, 0, 1, 0, 0, 0, 0, 0, 0, 0, 0, 0, 0, 0, 0, 0, 1, 0, 0, 0, 0, 0, 0, 0, 0, 0, 0, 1, 0, 0, 1, 0, 0, 0, 0, 0, 0, 0, 0, 0, 0, 0, 0, 0, 0, 0, 0, 0, 0, 0, 1, 0, 0, 0, 1, 0, 0, 0, 0, 0, 0, 0, 0, 1, 0, 0, 0, 0, 0, 0, 0, 0, 0, 0, 0, 0, 0, 0, 0, 0, 0, 0, 0, 1, 0, 0, 0, 0, 0, 0, 0, 0, 0, 0, 0, 0, 0, 0, 0, 1, 0]
def mmNaL : List (Nat) := [0, 1, 0, 2, 1, 1, 1, 2, 0, 0, 1, 1, 3, 1, 1, 3, 0, 0, 2, 0, 1, 1, 3, 0, 2, 3, 1, 2, 3, 2, 1, 2, 1, 1, 0, 0, 1, 0, 4, 3, 3, 2, 1, 1, 0, 1, 2, 1, 2, 1, 1, 0, 2, 2, 2, 3, 2, 2, 3, 1, 2, 2, 2, 0, 3, 2, 4, 0, 0, 1, 3, 1, 0, 0, 0, 1, 3, 3, 0, 2, 3, 4, 2, 2, 3, 2, 0, 0, 1, 1, 1, 1, 1, 0, 0, 0, 0, 1, 1, 0, 5, 1, 1, 1, 2, 1, 4, 3, 3, 2, 3, 1, 2, 2, 2, 1, 1, 1, 2, 2, 4, 2, 4, 4, 3, 1, 2, 2, 0, 3, 0, 0, 0, 1, 1, 1, 1, 1, 1, 1, 1, 3, 0, 0, 5, 3, 1, 2, 1, 1, 0, 0, 2, 1, 1, 2, 0, 2, 0, 4, 0, 0, 1, 1, 0, 0, 0, 0, 1, 1, 1, 1, 2, 1, 3, 0, 1, 0, 1, 0, 0, 0, 0, 1, 3, 2, 1, 1, 0, 0, 3, 2, 3, 6, 0, 6, 1, 4, 2, 4, 3, 3, 2, 3, 0, 0, 1, 1, 1, 1, 4, 1, 3, 3, 2, 2, 0, 2, 1, 1, 1, 3, 1, 2, 2, 2, 1, 1, 1, 2, 2, 4, 2, 1, 2, 1, 1, 1, 2, 2, 3, 1, 4, 4, 3, 1, 1, 2, 2, 1, 0, 3, 0, 0, 0, 1, 4, 1]
def mmMBL : List (Bool) := [true, true, true, true, true, true, true, true, true, true, true, true, true, true, true, true, true, true, true, true, true, true, true, true, true, true, true, true, true, true, true, true, true, true, true, true, true, true, true, true, true, true, true, true, true, true, true, true, true, true, true, true, true, true, true, true, true, true, true, true, true, true, true, true, true, true, true, true, true, true, true, true, true, true, true, true, true, true, true, true, true, true, true, true, true, true, true, true, true, true, true, true, true, true, true, true, true, true, true, true, true, true, true, true, false, true, true, true, true, true, true, true, true, true, true, true, true, true, true, true, true, true, true, true, true, true, true, true, true, true, true, true, true, true, true, true, true, true, true, true, true, true, true, true, true, true, true, true, true, true, true, true, true, true, true, true, true, true, true, true, true, true, true, true, true, true, true, true, true, true, true, true, true, true, true, true, true, true, true, true, true, true, true, true, true, true, true, true, true, true, true, true, true, true, true, true, true, true, true, true, true, true, true, true, true, true, true, true, true, true, true, true, true, true, true, true, true, true, true, true, true, true, true, true, true, true, true, true, true, true, true, true, true, true, true, true, true, true, true, true, true, true, true, true, true, true, true, true, true, true, true, true, true, true, true, true, false, false]
def mmKd (y : Nat) : Nat := mmKdL.getD y 9
def mmNa (y : Nat) : Nat := mmNaL.getD y 99
def mmMB (y : Nat) : Bool := mmMBL.getD y false
def mmWb (k : Nat) (w : Cond) : Bool := decide (lw_tbl[k]? = some w) && goodWord w
theorem mmWb_in {k : Nat} {w : Cond} (h : mmWb k w = true) : w ∈ mmTs := by
  simp only [mmWb, Bool.and_eq_true, decide_eq_true_eq] at h
  exact mm_w h.1 h.2
/-- the words of a method that is called, but its code -/
def mmMC (y : Nat) : Bool := match mmPlL.getD y [] with
  | [_, b, c, d] => mmWb b (.initialized (mmNm y).cls) && decide (mmMl y ≤ 40) && decide ((mmNm y).cls ≠ "java/lang/invoke/MethodHandle" ∧ (mmNm y).cls ≠ "java/lang/invoke/VarHandle" ∧ (parseMethodDescriptor (mmNm y).desc).map (fun d => d.parameters.length) = some (mmNa y)) && plainName (mmNm y).cls &&
      (match mmKd y with
      | 0 => mmWb c (.instanceMethod (mmNm y)) && mmWb d (.selects (mmNm y).cls (mmNm y) (mmNm y))
      | 1 => mmWb c (.static (mmNm y))
      | 2 => mmWb c (.instanceMethod (mmNm y)) && decide ((mmNm y).name = "<init>") && decide (mmRt y = none)
      | _ => false)
  | _ => false
theorem mm_codeGood (y : MethodName) (b : ByteArray) (n : Nat) (r : Option FieldType) : goodWord (.code y b n r) = true := rfl
set_option maxRecDepth 100000 in
theorem mcc_0 : Cond.code (mmNm 0) (mmBy 0) (mmMl 0) (mmRt 0) ∈ mmTs := mm_w (k := 407) rfl (mm_codeGood _ _ _ _)
set_option maxRecDepth 100000 in
theorem mcc_1 : Cond.code (mmNm 1) (mmBy 1) (mmMl 1) (mmRt 1) ∈ mmTs := mm_w (k := 798) rfl (mm_codeGood _ _ _ _)
set_option maxRecDepth 100000 in
theorem mcc_2 : Cond.code (mmNm 2) (mmBy 2) (mmMl 2) (mmRt 2) ∈ mmTs := mm_w (k := 837) rfl (mm_codeGood _ _ _ _)
set_option maxRecDepth 100000 in
theorem mcc_3 : Cond.code (mmNm 3) (mmBy 3) (mmMl 3) (mmRt 3) ∈ mmTs := mm_w (k := 802) rfl (mm_codeGood _ _ _ _)
set_option maxRecDepth 100000 in
theorem mcc_4 : Cond.code (mmNm 4) (mmBy 4) (mmMl 4) (mmRt 4) ∈ mmTs := mm_w (k := 849) rfl (mm_codeGood _ _ _ _)
set_option maxRecDepth 100000 in
theorem mcc_5 : Cond.code (mmNm 5) (mmBy 5) (mmMl 5) (mmRt 5) ∈ mmTs := mm_w (k := 853) rfl (mm_codeGood _ _ _ _)
set_option maxRecDepth 100000 in
theorem mcc_6 : Cond.code (mmNm 6) (mmBy 6) (mmMl 6) (mmRt 6) ∈ mmTs := mm_w (k := 889) rfl (mm_codeGood _ _ _ _)
set_option maxRecDepth 100000 in
theorem mcc_7 : Cond.code (mmNm 7) (mmBy 7) (mmMl 7) (mmRt 7) ∈ mmTs := mm_w (k := 959) rfl (mm_codeGood _ _ _ _)
set_option maxRecDepth 100000 in
theorem mcc_8 : Cond.code (mmNm 8) (mmBy 8) (mmMl 8) (mmRt 8) ∈ mmTs := mm_w (k := 833) rfl (mm_codeGood _ _ _ _)
set_option maxRecDepth 100000 in
theorem mcc_9 : Cond.code (mmNm 9) (mmBy 9) (mmMl 9) (mmRt 9) ∈ mmTs := mm_w (k := 829) rfl (mm_codeGood _ _ _ _)
set_option maxRecDepth 100000 in
theorem mcc_10 : Cond.code (mmNm 10) (mmBy 10) (mmMl 10) (mmRt 10) ∈ mmTs := mm_w (k := 885) rfl (mm_codeGood _ _ _ _)
set_option maxRecDepth 100000 in
theorem mcc_11 : Cond.code (mmNm 11) (mmBy 11) (mmMl 11) (mmRt 11) ∈ mmTs := mm_w (k := 893) rfl (mm_codeGood _ _ _ _)
set_option maxRecDepth 100000 in
theorem mcc_12 : Cond.code (mmNm 12) (mmBy 12) (mmMl 12) (mmRt 12) ∈ mmTs := mm_w (k := 845) rfl (mm_codeGood _ _ _ _)
set_option maxRecDepth 100000 in
theorem mcc_13 : Cond.code (mmNm 13) (mmBy 13) (mmMl 13) (mmRt 13) ∈ mmTs := mm_w (k := 943) rfl (mm_codeGood _ _ _ _)
set_option maxRecDepth 100000 in
theorem mcc_14 : Cond.code (mmNm 14) (mmBy 14) (mmMl 14) (mmRt 14) ∈ mmTs := mm_w (k := 857) rfl (mm_codeGood _ _ _ _)
set_option maxRecDepth 100000 in
theorem mcc_15 : Cond.code (mmNm 15) (mmBy 15) (mmMl 15) (mmRt 15) ∈ mmTs := mm_w (k := 861) rfl (mm_codeGood _ _ _ _)
set_option maxRecDepth 100000 in
theorem mcc_16 : Cond.code (mmNm 16) (mmBy 16) (mmMl 16) (mmRt 16) ∈ mmTs := mm_w (k := 813) rfl (mm_codeGood _ _ _ _)
set_option maxRecDepth 100000 in
theorem mcc_17 : Cond.code (mmNm 17) (mmBy 17) (mmMl 17) (mmRt 17) ∈ mmTs := mm_w (k := 821) rfl (mm_codeGood _ _ _ _)
set_option maxRecDepth 100000 in
theorem mcc_18 : Cond.code (mmNm 18) (mmBy 18) (mmMl 18) (mmRt 18) ∈ mmTs := mm_w (k := 817) rfl (mm_codeGood _ _ _ _)
set_option maxRecDepth 100000 in
theorem mcc_19 : Cond.code (mmNm 19) (mmBy 19) (mmMl 19) (mmRt 19) ∈ mmTs := mm_w (k := 221) rfl (mm_codeGood _ _ _ _)
set_option maxRecDepth 100000 in
theorem mcc_20 : Cond.code (mmNm 20) (mmBy 20) (mmMl 20) (mmRt 20) ∈ mmTs := mm_w (k := 665) rfl (mm_codeGood _ _ _ _)
set_option maxRecDepth 100000 in
theorem mcc_21 : Cond.code (mmNm 21) (mmBy 21) (mmMl 21) (mmRt 21) ∈ mmTs := mm_w (k := 865) rfl (mm_codeGood _ _ _ _)
set_option maxRecDepth 100000 in
theorem mcc_22 : Cond.code (mmNm 22) (mmBy 22) (mmMl 22) (mmRt 22) ∈ mmTs := mm_w (k := 869) rfl (mm_codeGood _ _ _ _)
set_option maxRecDepth 100000 in
theorem mcc_23 : Cond.code (mmNm 23) (mmBy 23) (mmMl 23) (mmRt 23) ∈ mmTs := mm_w (k := 186) rfl (mm_codeGood _ _ _ _)
set_option maxRecDepth 100000 in
theorem mcc_24 : Cond.code (mmNm 24) (mmBy 24) (mmMl 24) (mmRt 24) ∈ mmTs := mm_w (k := 649) rfl (mm_codeGood _ _ _ _)
set_option maxRecDepth 100000 in
theorem mcc_25 : Cond.code (mmNm 25) (mmBy 25) (mmMl 25) (mmRt 25) ∈ mmTs := mm_w (k := 688) rfl (mm_codeGood _ _ _ _)
set_option maxRecDepth 100000 in
theorem mcc_26 : Cond.code (mmNm 26) (mmBy 26) (mmMl 26) (mmRt 26) ∈ mmTs := mm_w (k := 692) rfl (mm_codeGood _ _ _ _)
set_option maxRecDepth 100000 in
theorem mcc_27 : Cond.code (mmNm 27) (mmBy 27) (mmMl 27) (mmRt 27) ∈ mmTs := mm_w (k := 653) rfl (mm_codeGood _ _ _ _)
set_option maxRecDepth 100000 in
theorem mcc_28 : Cond.code (mmNm 28) (mmBy 28) (mmMl 28) (mmRt 28) ∈ mmTs := mm_w (k := 680) rfl (mm_codeGood _ _ _ _)
set_option maxRecDepth 100000 in
theorem mcc_29 : Cond.code (mmNm 29) (mmBy 29) (mmMl 29) (mmRt 29) ∈ mmTs := mm_w (k := 675) rfl (mm_codeGood _ _ _ _)
set_option maxRecDepth 100000 in
theorem mcc_30 : Cond.code (mmNm 30) (mmBy 30) (mmMl 30) (mmRt 30) ∈ mmTs := mm_w (k := 684) rfl (mm_codeGood _ _ _ _)
set_option maxRecDepth 100000 in
theorem mcc_31 : Cond.code (mmNm 31) (mmBy 31) (mmMl 31) (mmRt 31) ∈ mmTs := mm_w (k := 658) rfl (mm_codeGood _ _ _ _)
set_option maxRecDepth 100000 in
theorem mcc_32 : Cond.code (mmNm 32) (mmBy 32) (mmMl 32) (mmRt 32) ∈ mmTs := mm_w (k := 669) rfl (mm_codeGood _ _ _ _)
set_option maxRecDepth 100000 in
theorem mcc_33 : Cond.code (mmNm 33) (mmBy 33) (mmMl 33) (mmRt 33) ∈ mmTs := mm_w (k := 661) rfl (mm_codeGood _ _ _ _)
set_option maxRecDepth 100000 in
theorem mcc_34 : Cond.code (mmNm 34) (mmBy 34) (mmMl 34) (mmRt 34) ∈ mmTs := mm_w (k := 333) rfl (mm_codeGood _ _ _ _)
set_option maxRecDepth 100000 in
theorem mcc_35 : Cond.code (mmNm 35) (mmBy 35) (mmMl 35) (mmRt 35) ∈ mmTs := mm_w (k := 707) rfl (mm_codeGood _ _ _ _)
set_option maxRecDepth 100000 in
theorem mcc_36 : Cond.code (mmNm 36) (mmBy 36) (mmMl 36) (mmRt 36) ∈ mmTs := mm_w (k := 741) rfl (mm_codeGood _ _ _ _)
set_option maxRecDepth 100000 in
theorem mcc_37 : Cond.code (mmNm 37) (mmBy 37) (mmMl 37) (mmRt 37) ∈ mmTs := mm_w (k := 737) rfl (mm_codeGood _ _ _ _)
set_option maxRecDepth 100000 in
theorem mcc_38 : Cond.code (mmNm 38) (mmBy 38) (mmMl 38) (mmRt 38) ∈ mmTs := mm_w (k := 745) rfl (mm_codeGood _ _ _ _)
set_option maxRecDepth 100000 in
theorem mcc_39 : Cond.code (mmNm 39) (mmBy 39) (mmMl 39) (mmRt 39) ∈ mmTs := mm_w (k := 764) rfl (mm_codeGood _ _ _ _)
set_option maxRecDepth 100000 in
theorem mcc_40 : Cond.code (mmNm 40) (mmBy 40) (mmMl 40) (mmRt 40) ∈ mmTs := mm_w (k := 756) rfl (mm_codeGood _ _ _ _)
set_option maxRecDepth 100000 in
theorem mcc_41 : Cond.code (mmNm 41) (mmBy 41) (mmMl 41) (mmRt 41) ∈ mmTs := mm_w (k := 1030) rfl (mm_codeGood _ _ _ _)
set_option maxRecDepth 100000 in
theorem mcc_42 : Cond.code (mmNm 42) (mmBy 42) (mmMl 42) (mmRt 42) ∈ mmTs := mm_w (k := 774) rfl (mm_codeGood _ _ _ _)
set_option maxRecDepth 100000 in
theorem mcc_43 : Cond.code (mmNm 43) (mmBy 43) (mmMl 43) (mmRt 43) ∈ mmTs := mm_w (k := 778) rfl (mm_codeGood _ _ _ _)
set_option maxRecDepth 100000 in
theorem mcc_44 : Cond.code (mmNm 44) (mmBy 44) (mmMl 44) (mmRt 44) ∈ mmTs := mm_w (k := 1070) rfl (mm_codeGood _ _ _ _)
set_option maxRecDepth 100000 in
theorem mcc_45 : Cond.code (mmNm 45) (mmBy 45) (mmMl 45) (mmRt 45) ∈ mmTs := mm_w (k := 1074) rfl (mm_codeGood _ _ _ _)
set_option maxRecDepth 100000 in
theorem mcc_46 : Cond.code (mmNm 46) (mmBy 46) (mmMl 46) (mmRt 46) ∈ mmTs := mm_w (k := 790) rfl (mm_codeGood _ _ _ _)
set_option maxRecDepth 100000 in
theorem mcc_47 : Cond.code (mmNm 47) (mmBy 47) (mmMl 47) (mmRt 47) ∈ mmTs := mm_w (k := 1019) rfl (mm_codeGood _ _ _ _)
set_option maxRecDepth 100000 in
theorem mcc_48 : Cond.code (mmNm 48) (mmBy 48) (mmMl 48) (mmRt 48) ∈ mmTs := mm_w (k := 1038) rfl (mm_codeGood _ _ _ _)
set_option maxRecDepth 100000 in
theorem mcc_49 : Cond.code (mmNm 49) (mmBy 49) (mmMl 49) (mmRt 49) ∈ mmTs := mm_w (k := 1043) rfl (mm_codeGood _ _ _ _)
set_option maxRecDepth 100000 in
theorem mcc_50 : Cond.code (mmNm 50) (mmBy 50) (mmMl 50) (mmRt 50) ∈ mmTs := mm_w (k := 1082) rfl (mm_codeGood _ _ _ _)
set_option maxRecDepth 100000 in
theorem mcc_51 : Cond.code (mmNm 51) (mmBy 51) (mmMl 51) (mmRt 51) ∈ mmTs := mm_w (k := 180) rfl (mm_codeGood _ _ _ _)
set_option maxRecDepth 100000 in
theorem mcc_52 : Cond.code (mmNm 52) (mmBy 52) (mmMl 52) (mmRt 52) ∈ mmTs := mm_w (k := 574) rfl (mm_codeGood _ _ _ _)
set_option maxRecDepth 100000 in
theorem mcc_53 : Cond.code (mmNm 53) (mmBy 53) (mmMl 53) (mmRt 53) ∈ mmTs := mm_w (k := 579) rfl (mm_codeGood _ _ _ _)
set_option maxRecDepth 100000 in
theorem mcc_54 : Cond.code (mmNm 54) (mmBy 54) (mmMl 54) (mmRt 54) ∈ mmTs := mm_w (k := 591) rfl (mm_codeGood _ _ _ _)
set_option maxRecDepth 100000 in
theorem mcc_55 : Cond.code (mmNm 55) (mmBy 55) (mmMl 55) (mmRt 55) ∈ mmTs := mm_w (k := 596) rfl (mm_codeGood _ _ _ _)
set_option maxRecDepth 100000 in
theorem mcc_56 : Cond.code (mmNm 56) (mmBy 56) (mmMl 56) (mmRt 56) ∈ mmTs := mm_w (k := 587) rfl (mm_codeGood _ _ _ _)
set_option maxRecDepth 100000 in
theorem mcc_57 : Cond.code (mmNm 57) (mmBy 57) (mmMl 57) (mmRt 57) ∈ mmTs := mm_w (k := 600) rfl (mm_codeGood _ _ _ _)
set_option maxRecDepth 100000 in
theorem mcc_58 : Cond.code (mmNm 58) (mmBy 58) (mmMl 58) (mmRt 58) ∈ mmTs := mm_w (k := 624) rfl (mm_codeGood _ _ _ _)
set_option maxRecDepth 100000 in
theorem mcc_59 : Cond.code (mmNm 59) (mmBy 59) (mmMl 59) (mmRt 59) ∈ mmTs := mm_w (k := 632) rfl (mm_codeGood _ _ _ _)
set_option maxRecDepth 100000 in
theorem mcc_60 : Cond.code (mmNm 60) (mmBy 60) (mmMl 60) (mmRt 60) ∈ mmTs := mm_w (k := 641) rfl (mm_codeGood _ _ _ _)
set_option maxRecDepth 100000 in
theorem mcc_61 : Cond.code (mmNm 61) (mmBy 61) (mmMl 61) (mmRt 61) ∈ mmTs := mm_w (k := 699) rfl (mm_codeGood _ _ _ _)
set_option maxRecDepth 100000 in
theorem mcc_62 : Cond.code (mmNm 62) (mmBy 62) (mmMl 62) (mmRt 62) ∈ mmTs := mm_w (k := 703) rfl (mm_codeGood _ _ _ _)
set_option maxRecDepth 100000 in
theorem mcc_63 : Cond.code (mmNm 63) (mmBy 63) (mmMl 63) (mmRt 63) ∈ mmTs := mm_w (k := 401) rfl (mm_codeGood _ _ _ _)
set_option maxRecDepth 100000 in
theorem mcc_64 : Cond.code (mmNm 64) (mmBy 64) (mmMl 64) (mmRt 64) ∈ mmTs := mm_w (k := 794) rfl (mm_codeGood _ _ _ _)
set_option maxRecDepth 100000 in
theorem mcc_65 : Cond.code (mmNm 65) (mmBy 65) (mmMl 65) (mmRt 65) ∈ mmTs := mm_w (k := 806) rfl (mm_codeGood _ _ _ _)
set_option maxRecDepth 100000 in
theorem mcc_66 : Cond.code (mmNm 66) (mmBy 66) (mmMl 66) (mmRt 66) ∈ mmTs := mm_w (k := 809) rfl (mm_codeGood _ _ _ _)
set_option maxRecDepth 100000 in
theorem mcc_67 : Cond.code (mmNm 67) (mmBy 67) (mmMl 67) (mmRt 67) ∈ mmTs := mm_w (k := 825) rfl (mm_codeGood _ _ _ _)
set_option maxRecDepth 100000 in
theorem mcc_68 : Cond.code (mmNm 68) (mmBy 68) (mmMl 68) (mmRt 68) ∈ mmTs := mm_w (k := 876) rfl (mm_codeGood _ _ _ _)
set_option maxRecDepth 100000 in
theorem mcc_69 : Cond.code (mmNm 69) (mmBy 69) (mmMl 69) (mmRt 69) ∈ mmTs := mm_w (k := 880) rfl (mm_codeGood _ _ _ _)
set_option maxRecDepth 100000 in
theorem mcc_70 : Cond.code (mmNm 70) (mmBy 70) (mmMl 70) (mmRt 70) ∈ mmTs := mm_w (k := 897) rfl (mm_codeGood _ _ _ _)
set_option maxRecDepth 100000 in
theorem mcc_71 : Cond.code (mmNm 71) (mmBy 71) (mmMl 71) (mmRt 71) ∈ mmTs := mm_w (k := 1062) rfl (mm_codeGood _ _ _ _)
set_option maxRecDepth 100000 in
theorem mcc_72 : Cond.code (mmNm 72) (mmBy 72) (mmMl 72) (mmRt 72) ∈ mmTs := mm_w (k := 215) rfl (mm_codeGood _ _ _ _)
set_option maxRecDepth 100000 in
theorem mcc_73 : Cond.code (mmNm 73) (mmBy 73) (mmMl 73) (mmRt 73) ∈ mmTs := mm_w (k := 240) rfl (mm_codeGood _ _ _ _)
set_option maxRecDepth 100000 in
theorem mcc_74 : Cond.code (mmNm 74) (mmBy 74) (mmMl 74) (mmRt 74) ∈ mmTs := mm_w (k := 841) rfl (mm_codeGood _ _ _ _)
set_option maxRecDepth 100000 in
theorem mcc_75 : Cond.code (mmNm 75) (mmBy 75) (mmMl 75) (mmRt 75) ∈ mmTs := mm_w (k := 614) rfl (mm_codeGood _ _ _ _)
set_option maxRecDepth 100000 in
theorem mcc_76 : Cond.code (mmNm 76) (mmBy 76) (mmMl 76) (mmRt 76) ∈ mmTs := mm_w (k := 636) rfl (mm_codeGood _ _ _ _)
set_option maxRecDepth 100000 in
theorem mcc_77 : Cond.code (mmNm 77) (mmBy 77) (mmMl 77) (mmRt 77) ∈ mmTs := mm_w (k := 645) rfl (mm_codeGood _ _ _ _)
set_option maxRecDepth 100000 in
theorem mcc_78 : Cond.code (mmNm 78) (mmBy 78) (mmMl 78) (mmRt 78) ∈ mmTs := mm_w (k := 489) rfl (mm_codeGood _ _ _ _)
set_option maxRecDepth 100000 in
theorem mcc_79 : Cond.code (mmNm 79) (mmBy 79) (mmMl 79) (mmRt 79) ∈ mmTs := mm_w (k := 953) rfl (mm_codeGood _ _ _ _)
set_option maxRecDepth 100000 in
theorem mcc_80 : Cond.code (mmNm 80) (mmBy 80) (mmMl 80) (mmRt 80) ∈ mmTs := mm_w (k := 967) rfl (mm_codeGood _ _ _ _)
set_option maxRecDepth 100000 in
theorem mcc_81 : Cond.code (mmNm 81) (mmBy 81) (mmMl 81) (mmRt 81) ∈ mmTs := mm_w (k := 985) rfl (mm_codeGood _ _ _ _)
set_option maxRecDepth 100000 in
theorem mcc_82 : Cond.code (mmNm 82) (mmBy 82) (mmMl 82) (mmRt 82) ∈ mmTs := mm_w (k := 1011) rfl (mm_codeGood _ _ _ _)
set_option maxRecDepth 100000 in
theorem mcc_83 : Cond.code (mmNm 83) (mmBy 83) (mmMl 83) (mmRt 83) ∈ mmTs := mm_w (k := 981) rfl (mm_codeGood _ _ _ _)
set_option maxRecDepth 100000 in
theorem mcc_84 : Cond.code (mmNm 84) (mmBy 84) (mmMl 84) (mmRt 84) ∈ mmTs := mm_w (k := 999) rfl (mm_codeGood _ _ _ _)
set_option maxRecDepth 100000 in
theorem mcc_85 : Cond.code (mmNm 85) (mmBy 85) (mmMl 85) (mmRt 85) ∈ mmTs := mm_w (k := 990) rfl (mm_codeGood _ _ _ _)
set_option maxRecDepth 100000 in
theorem mcc_86 : Cond.code (mmNm 86) (mmBy 86) (mmMl 86) (mmRt 86) ∈ mmTs := mm_w (k := 138) rfl (mm_codeGood _ _ _ _)
set_option maxRecDepth 100000 in
theorem mcc_87 : Cond.code (mmNm 87) (mmBy 87) (mmMl 87) (mmRt 87) ∈ mmTs := mm_w (k := 541) rfl (mm_codeGood _ _ _ _)
set_option maxRecDepth 100000 in
theorem mcc_88 : Cond.code (mmNm 88) (mmBy 88) (mmMl 88) (mmRt 88) ∈ mmTs := mm_w (k := 545) rfl (mm_codeGood _ _ _ _)
set_option maxRecDepth 100000 in
theorem mcc_89 : Cond.code (mmNm 89) (mmBy 89) (mmMl 89) (mmRt 89) ∈ mmTs := mm_w (k := 553) rfl (mm_codeGood _ _ _ _)
set_option maxRecDepth 100000 in
theorem mcc_90 : Cond.code (mmNm 90) (mmBy 90) (mmMl 90) (mmRt 90) ∈ mmTs := mm_w (k := 583) rfl (mm_codeGood _ _ _ _)
set_option maxRecDepth 100000 in
theorem mcc_91 : Cond.code (mmNm 91) (mmBy 91) (mmMl 91) (mmRt 91) ∈ mmTs := mm_w (k := 619) rfl (mm_codeGood _ _ _ _)
set_option maxRecDepth 100000 in
theorem mcc_92 : Cond.code (mmNm 92) (mmBy 92) (mmMl 92) (mmRt 92) ∈ mmTs := mm_w (k := 628) rfl (mm_codeGood _ _ _ _)
set_option maxRecDepth 100000 in
theorem mcc_93 : Cond.code (mmNm 93) (mmBy 93) (mmMl 93) (mmRt 93) ∈ mmTs := mm_w (k := 557) rfl (mm_codeGood _ _ _ _)
set_option maxRecDepth 100000 in
theorem mcc_94 : Cond.code (mmNm 94) (mmBy 94) (mmMl 94) (mmRt 94) ∈ mmTs := mm_w (k := 561) rfl (mm_codeGood _ _ _ _)
set_option maxRecDepth 100000 in
theorem mcc_95 : Cond.code (mmNm 95) (mmBy 95) (mmMl 95) (mmRt 95) ∈ mmTs := mm_w (k := 565) rfl (mm_codeGood _ _ _ _)
set_option maxRecDepth 100000 in
theorem mcc_96 : Cond.code (mmNm 96) (mmBy 96) (mmMl 96) (mmRt 96) ∈ mmTs := mm_w (k := 570) rfl (mm_codeGood _ _ _ _)
set_option maxRecDepth 100000 in
theorem mcc_97 : Cond.code (mmNm 97) (mmBy 97) (mmMl 97) (mmRt 97) ∈ mmTs := mm_w (k := 608) rfl (mm_codeGood _ _ _ _)
set_option maxRecDepth 100000 in
theorem mcc_98 : Cond.code (mmNm 98) (mmBy 98) (mmMl 98) (mmRt 98) ∈ mmTs := mm_w (k := 603) rfl (mm_codeGood _ _ _ _)
set_option maxRecDepth 100000 in
theorem mcc_99 : Cond.code (mmNm 99) (mmBy 99) (mmMl 99) (mmRt 99) ∈ mmTs := mm_w (k := 130) rfl (mm_codeGood _ _ _ _)
set_option maxRecDepth 100000 in
theorem mcc_100 : Cond.code (mmNm 100) (mmBy 100) (mmMl 100) (mmRt 100) ∈ mmTs := mm_w (k := 537) rfl (mm_codeGood _ _ _ _)
set_option maxRecDepth 100000 in
theorem mcc_101 : Cond.code (mmNm 101) (mmBy 101) (mmMl 101) (mmRt 101) ∈ mmTs := mm_w (k := 549) rfl (mm_codeGood _ _ _ _)
set_option maxRecDepth 100000 in
theorem mcc_102 : Cond.code (mmNm 102) (mmBy 102) (mmMl 102) (mmRt 102) ∈ mmTs := mm_w (k := 711) rfl (mm_codeGood _ _ _ _)
set_option maxRecDepth 100000 in
theorem mcc_103 : Cond.code (mmNm 103) (mmBy 103) (mmMl 103) (mmRt 103) ∈ mmTs := mm_w (k := 715) rfl (mm_codeGood _ _ _ _)
set_option maxRecDepth 100000 in
theorem mcc_105 : Cond.code (mmNm 105) (mmBy 105) (mmMl 105) (mmRt 105) ∈ mmTs := mm_w (k := 720) rfl (mm_codeGood _ _ _ _)
set_option maxRecDepth 100000 in
theorem mcc_106 : Cond.code (mmNm 106) (mmBy 106) (mmMl 106) (mmRt 106) ∈ mmTs := mm_w (k := 727) rfl (mm_codeGood _ _ _ _)
set_option maxRecDepth 100000 in
theorem mcc_107 : Cond.code (mmNm 107) (mmBy 107) (mmMl 107) (mmRt 107) ∈ mmTs := mm_w (k := 749) rfl (mm_codeGood _ _ _ _)
set_option maxRecDepth 100000 in
theorem mcc_108 : Cond.code (mmNm 108) (mmBy 108) (mmMl 108) (mmRt 108) ∈ mmTs := mm_w (k := 760) rfl (mm_codeGood _ _ _ _)
set_option maxRecDepth 100000 in
theorem mcc_109 : Cond.code (mmNm 109) (mmBy 109) (mmMl 109) (mmRt 109) ∈ mmTs := mm_w (k := 769) rfl (mm_codeGood _ _ _ _)
set_option maxRecDepth 100000 in
theorem mcc_110 : Cond.code (mmNm 110) (mmBy 110) (mmMl 110) (mmRt 110) ∈ mmTs := mm_w (k := 782) rfl (mm_codeGood _ _ _ _)
set_option maxRecDepth 100000 in
theorem mcc_111 : Cond.code (mmNm 111) (mmBy 111) (mmMl 111) (mmRt 111) ∈ mmTs := mm_w (k := 901) rfl (mm_codeGood _ _ _ _)
set_option maxRecDepth 100000 in
theorem mcc_112 : Cond.code (mmNm 112) (mmBy 112) (mmMl 112) (mmRt 112) ∈ mmTs := mm_w (k := 908) rfl (mm_codeGood _ _ _ _)
set_option maxRecDepth 100000 in
theorem mcc_113 : Cond.code (mmNm 113) (mmBy 113) (mmMl 113) (mmRt 113) ∈ mmTs := mm_w (k := 912) rfl (mm_codeGood _ _ _ _)
set_option maxRecDepth 100000 in
theorem mcc_114 : Cond.code (mmNm 114) (mmBy 114) (mmMl 114) (mmRt 114) ∈ mmTs := mm_w (k := 916) rfl (mm_codeGood _ _ _ _)
set_option maxRecDepth 100000 in
theorem mcc_115 : Cond.code (mmNm 115) (mmBy 115) (mmMl 115) (mmRt 115) ∈ mmTs := mm_w (k := 921) rfl (mm_codeGood _ _ _ _)
set_option maxRecDepth 100000 in
theorem mcc_116 : Cond.code (mmNm 116) (mmBy 116) (mmMl 116) (mmRt 116) ∈ mmTs := mm_w (k := 926) rfl (mm_codeGood _ _ _ _)
set_option maxRecDepth 100000 in
theorem mcc_117 : Cond.code (mmNm 117) (mmBy 117) (mmMl 117) (mmRt 117) ∈ mmTs := mm_w (k := 930) rfl (mm_codeGood _ _ _ _)
set_option maxRecDepth 100000 in
theorem mcc_118 : Cond.code (mmNm 118) (mmBy 118) (mmMl 118) (mmRt 118) ∈ mmTs := mm_w (k := 934) rfl (mm_codeGood _ _ _ _)
set_option maxRecDepth 100000 in
theorem mcc_119 : Cond.code (mmNm 119) (mmBy 119) (mmMl 119) (mmRt 119) ∈ mmTs := mm_w (k := 938) rfl (mm_codeGood _ _ _ _)
set_option maxRecDepth 100000 in
theorem mcc_120 : Cond.code (mmNm 120) (mmBy 120) (mmMl 120) (mmRt 120) ∈ mmTs := mm_w (k := 948) rfl (mm_codeGood _ _ _ _)
set_option maxRecDepth 100000 in
theorem mcc_121 : Cond.code (mmNm 121) (mmBy 121) (mmMl 121) (mmRt 121) ∈ mmTs := mm_w (k := 963) rfl (mm_codeGood _ _ _ _)
set_option maxRecDepth 100000 in
theorem mcc_122 : Cond.code (mmNm 122) (mmBy 122) (mmMl 122) (mmRt 122) ∈ mmTs := mm_w (k := 974) rfl (mm_codeGood _ _ _ _)
set_option maxRecDepth 100000 in
theorem mcc_123 : Cond.code (mmNm 123) (mmBy 123) (mmMl 123) (mmRt 123) ∈ mmTs := mm_w (k := 995) rfl (mm_codeGood _ _ _ _)
set_option maxRecDepth 100000 in
theorem mcc_124 : Cond.code (mmNm 124) (mmBy 124) (mmMl 124) (mmRt 124) ∈ mmTs := mm_w (k := 1003) rfl (mm_codeGood _ _ _ _)
set_option maxRecDepth 100000 in
theorem mcc_125 : Cond.code (mmNm 125) (mmBy 125) (mmMl 125) (mmRt 125) ∈ mmTs := mm_w (k := 1007) rfl (mm_codeGood _ _ _ _)
set_option maxRecDepth 100000 in
theorem mcc_126 : Cond.code (mmNm 126) (mmBy 126) (mmMl 126) (mmRt 126) ∈ mmTs := mm_w (k := 1015) rfl (mm_codeGood _ _ _ _)
set_option maxRecDepth 100000 in
theorem mcc_127 : Cond.code (mmNm 127) (mmBy 127) (mmMl 127) (mmRt 127) ∈ mmTs := mm_w (k := 1026) rfl (mm_codeGood _ _ _ _)
set_option maxRecDepth 100000 in
theorem mcc_128 : Cond.code (mmNm 128) (mmBy 128) (mmMl 128) (mmRt 128) ∈ mmTs := mm_w (k := 1034) rfl (mm_codeGood _ _ _ _)
set_option maxRecDepth 100000 in
theorem mcc_129 : Cond.code (mmNm 129) (mmBy 129) (mmMl 129) (mmRt 129) ∈ mmTs := mm_w (k := 1050) rfl (mm_codeGood _ _ _ _)
set_option maxRecDepth 100000 in
theorem mcc_130 : Cond.code (mmNm 130) (mmBy 130) (mmMl 130) (mmRt 130) ∈ mmTs := mm_w (k := 1066) rfl (mm_codeGood _ _ _ _)
set_option maxRecDepth 100000 in
theorem mcc_131 : Cond.code (mmNm 131) (mmBy 131) (mmMl 131) (mmRt 131) ∈ mmTs := mm_w (k := 1078) rfl (mm_codeGood _ _ _ _)
set_option maxRecDepth 100000 in
theorem mcc_132 : Cond.code (mmNm 132) (mmBy 132) (mmMl 132) (mmRt 132) ∈ mmTs := mm_w (k := 1089) rfl (mm_codeGood _ _ _ _)
set_option maxRecDepth 100000 in
theorem mcc_133 : Cond.code (mmNm 133) (mmBy 133) (mmMl 133) (mmRt 133) ∈ mmTs := mm_w (k := 1093) rfl (mm_codeGood _ _ _ _)
set_option maxRecDepth 100000 in
theorem mcc_134 : Cond.code (mmNm 134) (mmBy 134) (mmMl 134) (mmRt 134) ∈ mmTs := mm_w (k := 786) rfl (mm_codeGood _ _ _ _)
set_option maxRecDepth 100000 in
theorem mcc_135 : Cond.code (mmNm 135) (mmBy 135) (mmMl 135) (mmRt 135) ∈ mmTs := mm_w (k := 1054) rfl (mm_codeGood _ _ _ _)
set_option maxRecDepth 100000 in
theorem mcc_136 : Cond.code (mmNm 136) (mmBy 136) (mmMl 136) (mmRt 136) ∈ mmTs := mm_w (k := 904) rfl (mm_codeGood _ _ _ _)
set_option maxRecDepth 100000 in
theorem mcc_137 : Cond.code (mmNm 137) (mmBy 137) (mmMl 137) (mmRt 137) ∈ mmTs := mm_w (k := 730) rfl (mm_codeGood _ _ _ _)
set_option maxRecDepth 100000 in
theorem mcc_138 : Cond.code (mmNm 138) (mmBy 138) (mmMl 138) (mmRt 138) ∈ mmTs := mm_w (k := 733) rfl (mm_codeGood _ _ _ _)
set_option maxRecDepth 100000 in
theorem mcc_139 : Cond.code (mmNm 139) (mmBy 139) (mmMl 139) (mmRt 139) ∈ mmTs := mm_w (k := 723) rfl (mm_codeGood _ _ _ _)
set_option maxRecDepth 100000 in
theorem mcc_140 : Cond.code (mmNm 140) (mmBy 140) (mmMl 140) (mmRt 140) ∈ mmTs := mm_w (k := 752) rfl (mm_codeGood _ _ _ _)
set_option maxRecDepth 100000 in
theorem mcc_141 : Cond.code (mmNm 141) (mmBy 141) (mmMl 141) (mmRt 141) ∈ mmTs := mm_w (k := 977) rfl (mm_codeGood _ _ _ _)
set_option maxRecDepth 100000 in
theorem mcc_142 : Cond.code (mmNm 142) (mmBy 142) (mmMl 142) (mmRt 142) ∈ mmTs := mm_w (k := 1190) rfl (mm_codeGood _ _ _ _)
set_option maxRecDepth 100000 in
theorem mcc_143 : Cond.code (mmNm 143) (mmBy 143) (mmMl 143) (mmRt 143) ∈ mmTs := mm_w (k := 1474) rfl (mm_codeGood _ _ _ _)
set_option maxRecDepth 100000 in
theorem mcc_144 : Cond.code (mmNm 144) (mmBy 144) (mmMl 144) (mmRt 144) ∈ mmTs := mm_w (k := 1478) rfl (mm_codeGood _ _ _ _)
set_option maxRecDepth 100000 in
theorem mcc_145 : Cond.code (mmNm 145) (mmBy 145) (mmMl 145) (mmRt 145) ∈ mmTs := mm_w (k := 1525) rfl (mm_codeGood _ _ _ _)
set_option maxRecDepth 100000 in
theorem mcc_146 : Cond.code (mmNm 146) (mmBy 146) (mmMl 146) (mmRt 146) ∈ mmTs := mm_w (k := 1514) rfl (mm_codeGood _ _ _ _)
set_option maxRecDepth 100000 in
theorem mcc_147 : Cond.code (mmNm 147) (mmBy 147) (mmMl 147) (mmRt 147) ∈ mmTs := mm_w (k := 1494) rfl (mm_codeGood _ _ _ _)
set_option maxRecDepth 100000 in
theorem mcc_148 : Cond.code (mmNm 148) (mmBy 148) (mmMl 148) (mmRt 148) ∈ mmTs := mm_w (k := 1490) rfl (mm_codeGood _ _ _ _)
set_option maxRecDepth 100000 in
theorem mcc_149 : Cond.code (mmNm 149) (mmBy 149) (mmMl 149) (mmRt 149) ∈ mmTs := mm_w (k := 1502) rfl (mm_codeGood _ _ _ _)
set_option maxRecDepth 100000 in
theorem mcc_150 : Cond.code (mmNm 150) (mmBy 150) (mmMl 150) (mmRt 150) ∈ mmTs := mm_w (k := 1486) rfl (mm_codeGood _ _ _ _)
set_option maxRecDepth 100000 in
theorem mcc_151 : Cond.code (mmNm 151) (mmBy 151) (mmMl 151) (mmRt 151) ∈ mmTs := mm_w (k := 1506) rfl (mm_codeGood _ _ _ _)
set_option maxRecDepth 100000 in
theorem mcc_152 : Cond.code (mmNm 152) (mmBy 152) (mmMl 152) (mmRt 152) ∈ mmTs := mm_w (k := 1498) rfl (mm_codeGood _ _ _ _)
set_option maxRecDepth 100000 in
theorem mcc_153 : Cond.code (mmNm 153) (mmBy 153) (mmMl 153) (mmRt 153) ∈ mmTs := mm_w (k := 1536) rfl (mm_codeGood _ _ _ _)
set_option maxRecDepth 100000 in
theorem mcc_154 : Cond.code (mmNm 154) (mmBy 154) (mmMl 154) (mmRt 154) ∈ mmTs := mm_w (k := 1548) rfl (mm_codeGood _ _ _ _)
set_option maxRecDepth 100000 in
theorem mcc_155 : Cond.code (mmNm 155) (mmBy 155) (mmMl 155) (mmRt 155) ∈ mmTs := mm_w (k := 1522) rfl (mm_codeGood _ _ _ _)
set_option maxRecDepth 100000 in
theorem mcc_156 : Cond.code (mmNm 156) (mmBy 156) (mmMl 156) (mmRt 156) ∈ mmTs := mm_w (k := 1195) rfl (mm_codeGood _ _ _ _)
set_option maxRecDepth 100000 in
theorem mcc_157 : Cond.code (mmNm 157) (mmBy 157) (mmMl 157) (mmRt 157) ∈ mmTs := mm_w (k := 1202) rfl (mm_codeGood _ _ _ _)
set_option maxRecDepth 100000 in
theorem mcc_158 : Cond.code (mmNm 158) (mmBy 158) (mmMl 158) (mmRt 158) ∈ mmTs := mm_w (k := 1199) rfl (mm_codeGood _ _ _ _)
set_option maxRecDepth 100000 in
theorem mcc_159 : Cond.code (mmNm 159) (mmBy 159) (mmMl 159) (mmRt 159) ∈ mmTs := mm_w (k := 1532) rfl (mm_codeGood _ _ _ _)
set_option maxRecDepth 100000 in
theorem mcc_160 : Cond.code (mmNm 160) (mmBy 160) (mmMl 160) (mmRt 160) ∈ mmTs := mm_w (k := 1518) rfl (mm_codeGood _ _ _ _)
set_option maxRecDepth 100000 in
theorem mcc_161 : Cond.code (mmNm 161) (mmBy 161) (mmMl 161) (mmRt 161) ∈ mmTs := mm_w (k := 1552) rfl (mm_codeGood _ _ _ _)
set_option maxRecDepth 100000 in
theorem mcc_162 : Cond.code (mmNm 162) (mmBy 162) (mmMl 162) (mmRt 162) ∈ mmTs := mm_w (k := 1544) rfl (mm_codeGood _ _ _ _)
set_option maxRecDepth 100000 in
theorem mcc_163 : Cond.code (mmNm 163) (mmBy 163) (mmMl 163) (mmRt 163) ∈ mmTs := mm_w (k := 1540) rfl (mm_codeGood _ _ _ _)
set_option maxRecDepth 100000 in
theorem mcc_164 : Cond.code (mmNm 164) (mmBy 164) (mmMl 164) (mmRt 164) ∈ mmTs := mm_w (k := 1529) rfl (mm_codeGood _ _ _ _)
set_option maxRecDepth 100000 in
theorem mcc_165 : Cond.code (mmNm 165) (mmBy 165) (mmMl 165) (mmRt 165) ∈ mmTs := mm_w (k := 1556) rfl (mm_codeGood _ _ _ _)
set_option maxRecDepth 100000 in
theorem mcc_166 : Cond.code (mmNm 166) (mmBy 166) (mmMl 166) (mmRt 166) ∈ mmTs := mm_w (k := 1599) rfl (mm_codeGood _ _ _ _)
set_option maxRecDepth 100000 in
theorem mcc_167 : Cond.code (mmNm 167) (mmBy 167) (mmMl 167) (mmRt 167) ∈ mmTs := mm_w (k := 1510) rfl (mm_codeGood _ _ _ _)
set_option maxRecDepth 100000 in
theorem mcc_168 : Cond.code (mmNm 168) (mmBy 168) (mmMl 168) (mmRt 168) ∈ mmTs := mm_w (k := 1482) rfl (mm_codeGood _ _ _ _)
set_option maxRecDepth 100000 in
theorem mcc_169 : Cond.code (mmNm 169) (mmBy 169) (mmMl 169) (mmRt 169) ∈ mmTs := mm_w (k := 1603) rfl (mm_codeGood _ _ _ _)
set_option maxRecDepth 100000 in
theorem mcc_170 : Cond.code (mmNm 170) (mmBy 170) (mmMl 170) (mmRt 170) ∈ mmTs := mm_w (k := 1607) rfl (mm_codeGood _ _ _ _)
set_option maxRecDepth 100000 in
theorem mcc_171 : Cond.code (mmNm 171) (mmBy 171) (mmMl 171) (mmRt 171) ∈ mmTs := mm_w (k := 1615) rfl (mm_codeGood _ _ _ _)
set_option maxRecDepth 100000 in
theorem mcc_172 : Cond.code (mmNm 172) (mmBy 172) (mmMl 172) (mmRt 172) ∈ mmTs := mm_w (k := 1611) rfl (mm_codeGood _ _ _ _)
set_option maxRecDepth 100000 in
theorem mcc_173 : Cond.code (mmNm 173) (mmBy 173) (mmMl 173) (mmRt 173) ∈ mmTs := mm_w (k := 1591) rfl (mm_codeGood _ _ _ _)
set_option maxRecDepth 100000 in
theorem mcc_174 : Cond.code (mmNm 174) (mmBy 174) (mmMl 174) (mmRt 174) ∈ mmTs := mm_w (k := 1580) rfl (mm_codeGood _ _ _ _)
set_option maxRecDepth 100000 in
theorem mcc_175 : Cond.code (mmNm 175) (mmBy 175) (mmMl 175) (mmRt 175) ∈ mmTs := mm_w (k := 1595) rfl (mm_codeGood _ _ _ _)
set_option maxRecDepth 100000 in
theorem mcc_176 : Cond.code (mmNm 176) (mmBy 176) (mmMl 176) (mmRt 176) ∈ mmTs := mm_w (k := 1588) rfl (mm_codeGood _ _ _ _)
set_option maxRecDepth 100000 in
theorem mcc_177 : Cond.code (mmNm 177) (mmBy 177) (mmMl 177) (mmRt 177) ∈ mmTs := mm_w (k := 1572) rfl (mm_codeGood _ _ _ _)
set_option maxRecDepth 100000 in
theorem mcc_178 : Cond.code (mmNm 178) (mmBy 178) (mmMl 178) (mmRt 178) ∈ mmTs := mm_w (k := 1568) rfl (mm_codeGood _ _ _ _)
set_option maxRecDepth 100000 in
theorem mcc_179 : Cond.code (mmNm 179) (mmBy 179) (mmMl 179) (mmRt 179) ∈ mmTs := mm_w (k := 1576) rfl (mm_codeGood _ _ _ _)
set_option maxRecDepth 100000 in
theorem mcc_180 : Cond.code (mmNm 180) (mmBy 180) (mmMl 180) (mmRt 180) ∈ mmTs := mm_w (k := 1564) rfl (mm_codeGood _ _ _ _)
set_option maxRecDepth 100000 in
theorem mcc_181 : Cond.code (mmNm 181) (mmBy 181) (mmMl 181) (mmRt 181) ∈ mmTs := mm_w (k := 1584) rfl (mm_codeGood _ _ _ _)
set_option maxRecDepth 100000 in
theorem mcc_182 : Cond.code (mmNm 182) (mmBy 182) (mmMl 182) (mmRt 182) ∈ mmTs := mm_w (k := 1560) rfl (mm_codeGood _ _ _ _)
set_option maxRecDepth 100000 in
theorem mcc_183 : Cond.code (mmNm 183) (mmBy 183) (mmMl 183) (mmRt 183) ∈ mmTs := mm_w (k := 1729) rfl (mm_codeGood _ _ _ _)
set_option maxRecDepth 100000 in
theorem mcc_184 : Cond.code (mmNm 184) (mmBy 184) (mmMl 184) (mmRt 184) ∈ mmTs := mm_w (k := 1738) rfl (mm_codeGood _ _ _ _)
set_option maxRecDepth 100000 in
theorem mcc_185 : Cond.code (mmNm 185) (mmBy 185) (mmMl 185) (mmRt 185) ∈ mmTs := mm_w (k := 1735) rfl (mm_codeGood _ _ _ _)
set_option maxRecDepth 100000 in
theorem mcc_186 : Cond.code (mmNm 186) (mmBy 186) (mmMl 186) (mmRt 186) ∈ mmTs := mm_w (k := 1725) rfl (mm_codeGood _ _ _ _)
set_option maxRecDepth 100000 in
theorem mcc_187 : Cond.code (mmNm 187) (mmBy 187) (mmMl 187) (mmRt 187) ∈ mmTs := mm_w (k := 1693) rfl (mm_codeGood _ _ _ _)
set_option maxRecDepth 100000 in
theorem mcc_188 : Cond.code (mmNm 188) (mmBy 188) (mmMl 188) (mmRt 188) ∈ mmTs := mm_w (k := 1662) rfl (mm_codeGood _ _ _ _)
set_option maxRecDepth 100000 in
theorem mcc_189 : Cond.code (mmNm 189) (mmBy 189) (mmMl 189) (mmRt 189) ∈ mmTs := mm_w (k := 1686) rfl (mm_codeGood _ _ _ _)
set_option maxRecDepth 100000 in
theorem mcc_190 : Cond.code (mmNm 190) (mmBy 190) (mmMl 190) (mmRt 190) ∈ mmTs := mm_w (k := 1690) rfl (mm_codeGood _ _ _ _)
set_option maxRecDepth 100000 in
theorem mcc_191 : Cond.code (mmNm 191) (mmBy 191) (mmMl 191) (mmRt 191) ∈ mmTs := mm_w (k := 1717) rfl (mm_codeGood _ _ _ _)
set_option maxRecDepth 100000 in
theorem mcc_192 : Cond.code (mmNm 192) (mmBy 192) (mmMl 192) (mmRt 192) ∈ mmTs := mm_w (k := 1705) rfl (mm_codeGood _ _ _ _)
set_option maxRecDepth 100000 in
theorem mcc_193 : Cond.code (mmNm 193) (mmBy 193) (mmMl 193) (mmRt 193) ∈ mmTs := mm_w (k := 1713) rfl (mm_codeGood _ _ _ _)
set_option maxRecDepth 100000 in
theorem mcc_194 : Cond.code (mmNm 194) (mmBy 194) (mmMl 194) (mmRt 194) ∈ mmTs := mm_w (k := 1721) rfl (mm_codeGood _ _ _ _)
set_option maxRecDepth 100000 in
theorem mcc_195 : Cond.code (mmNm 195) (mmBy 195) (mmMl 195) (mmRt 195) ∈ mmTs := mm_w (k := 1709) rfl (mm_codeGood _ _ _ _)
set_option maxRecDepth 100000 in
theorem mcc_196 : Cond.code (mmNm 196) (mmBy 196) (mmMl 196) (mmRt 196) ∈ mmTs := mm_w (k := 1701) rfl (mm_codeGood _ _ _ _)
set_option maxRecDepth 100000 in
theorem mcc_197 : Cond.code (mmNm 197) (mmBy 197) (mmMl 197) (mmRt 197) ∈ mmTs := mm_w (k := 1762) rfl (mm_codeGood _ _ _ _)
set_option maxRecDepth 100000 in
theorem mcc_198 : Cond.code (mmNm 198) (mmBy 198) (mmMl 198) (mmRt 198) ∈ mmTs := mm_w (k := 1742) rfl (mm_codeGood _ _ _ _)
set_option maxRecDepth 100000 in
theorem mcc_199 : Cond.code (mmNm 199) (mmBy 199) (mmMl 199) (mmRt 199) ∈ mmTs := mm_w (k := 1697) rfl (mm_codeGood _ _ _ _)
set_option maxRecDepth 100000 in
theorem mcc_200 : Cond.code (mmNm 200) (mmBy 200) (mmMl 200) (mmRt 200) ∈ mmTs := mm_w (k := 1682) rfl (mm_codeGood _ _ _ _)
set_option maxRecDepth 100000 in
theorem mcc_201 : Cond.code (mmNm 201) (mmBy 201) (mmMl 201) (mmRt 201) ∈ mmTs := mm_w (k := 1766) rfl (mm_codeGood _ _ _ _)
set_option maxRecDepth 100000 in
theorem mcc_202 : Cond.code (mmNm 202) (mmBy 202) (mmMl 202) (mmRt 202) ∈ mmTs := mm_w (k := 1746) rfl (mm_codeGood _ _ _ _)
set_option maxRecDepth 100000 in
theorem mcc_203 : Cond.code (mmNm 203) (mmBy 203) (mmMl 203) (mmRt 203) ∈ mmTs := mm_w (k := 1678) rfl (mm_codeGood _ _ _ _)
set_option maxRecDepth 100000 in
theorem mcc_204 : Cond.code (mmNm 204) (mmBy 204) (mmMl 204) (mmRt 204) ∈ mmTs := mm_w (k := 1750) rfl (mm_codeGood _ _ _ _)
set_option maxRecDepth 100000 in
theorem mcc_205 : Cond.code (mmNm 205) (mmBy 205) (mmMl 205) (mmRt 205) ∈ mmTs := mm_w (k := 1674) rfl (mm_codeGood _ _ _ _)
set_option maxRecDepth 100000 in
theorem mcc_206 : Cond.code (mmNm 206) (mmBy 206) (mmMl 206) (mmRt 206) ∈ mmTs := mm_w (k := 1630) rfl (mm_codeGood _ _ _ _)
set_option maxRecDepth 100000 in
theorem mcc_207 : Cond.code (mmNm 207) (mmBy 207) (mmMl 207) (mmRt 207) ∈ mmTs := mm_w (k := 1622) rfl (mm_codeGood _ _ _ _)
set_option maxRecDepth 100000 in
theorem mcc_208 : Cond.code (mmNm 208) (mmBy 208) (mmMl 208) (mmRt 208) ∈ mmTs := mm_w (k := 1650) rfl (mm_codeGood _ _ _ _)
set_option maxRecDepth 100000 in
theorem mcc_209 : Cond.code (mmNm 209) (mmBy 209) (mmMl 209) (mmRt 209) ∈ mmTs := mm_w (k := 1619) rfl (mm_codeGood _ _ _ _)
set_option maxRecDepth 100000 in
theorem mcc_210 : Cond.code (mmNm 210) (mmBy 210) (mmMl 210) (mmRt 210) ∈ mmTs := mm_w (k := 1626) rfl (mm_codeGood _ _ _ _)
set_option maxRecDepth 100000 in
theorem mcc_211 : Cond.code (mmNm 211) (mmBy 211) (mmMl 211) (mmRt 211) ∈ mmTs := mm_w (k := 1637) rfl (mm_codeGood _ _ _ _)
set_option maxRecDepth 100000 in
theorem mcc_212 : Cond.code (mmNm 212) (mmBy 212) (mmMl 212) (mmRt 212) ∈ mmTs := mm_w (k := 1634) rfl (mm_codeGood _ _ _ _)
set_option maxRecDepth 100000 in
theorem mcc_213 : Cond.code (mmNm 213) (mmBy 213) (mmMl 213) (mmRt 213) ∈ mmTs := mm_w (k := 1641) rfl (mm_codeGood _ _ _ _)
set_option maxRecDepth 100000 in
theorem mcc_214 : Cond.code (mmNm 214) (mmBy 214) (mmMl 214) (mmRt 214) ∈ mmTs := mm_w (k := 1645) rfl (mm_codeGood _ _ _ _)
set_option maxRecDepth 100000 in
theorem mcc_215 : Cond.code (mmNm 215) (mmBy 215) (mmMl 215) (mmRt 215) ∈ mmTs := mm_w (k := 1670) rfl (mm_codeGood _ _ _ _)
set_option maxRecDepth 100000 in
theorem mcc_216 : Cond.code (mmNm 216) (mmBy 216) (mmMl 216) (mmRt 216) ∈ mmTs := mm_w (k := 1666) rfl (mm_codeGood _ _ _ _)
set_option maxRecDepth 100000 in
theorem mcc_217 : Cond.code (mmNm 217) (mmBy 217) (mmMl 217) (mmRt 217) ∈ mmTs := mm_w (k := 1754) rfl (mm_codeGood _ _ _ _)
set_option maxRecDepth 100000 in
theorem mcc_218 : Cond.code (mmNm 218) (mmBy 218) (mmMl 218) (mmRt 218) ∈ mmTs := mm_w (k := 1758) rfl (mm_codeGood _ _ _ _)
set_option maxRecDepth 100000 in
theorem mcc_219 : Cond.code (mmNm 219) (mmBy 219) (mmMl 219) (mmRt 219) ∈ mmTs := mm_w (k := 1658) rfl (mm_codeGood _ _ _ _)
set_option maxRecDepth 100000 in
theorem mcc_220 : Cond.code (mmNm 220) (mmBy 220) (mmMl 220) (mmRt 220) ∈ mmTs := mm_w (k := 1773) rfl (mm_codeGood _ _ _ _)
set_option maxRecDepth 100000 in
theorem mcc_221 : Cond.code (mmNm 221) (mmBy 221) (mmMl 221) (mmRt 221) ∈ mmTs := mm_w (k := 1654) rfl (mm_codeGood _ _ _ _)
set_option maxRecDepth 100000 in
theorem mcc_222 : Cond.code (mmNm 222) (mmBy 222) (mmMl 222) (mmRt 222) ∈ mmTs := mm_w (k := 1770) rfl (mm_codeGood _ _ _ _)
set_option maxRecDepth 100000 in
theorem mcc_223 : Cond.code (mmNm 223) (mmBy 223) (mmMl 223) (mmRt 223) ∈ mmTs := mm_w (k := 1777) rfl (mm_codeGood _ _ _ _)
set_option maxRecDepth 100000 in
theorem mcc_224 : Cond.code (mmNm 224) (mmBy 224) (mmMl 224) (mmRt 224) ∈ mmTs := mm_w (k := 1781) rfl (mm_codeGood _ _ _ _)
set_option maxRecDepth 100000 in
theorem mcc_225 : Cond.code (mmNm 225) (mmBy 225) (mmMl 225) (mmRt 225) ∈ mmTs := mm_w (k := 1785) rfl (mm_codeGood _ _ _ _)
set_option maxRecDepth 100000 in
theorem mcc_226 : Cond.code (mmNm 226) (mmBy 226) (mmMl 226) (mmRt 226) ∈ mmTs := mm_w (k := 1789) rfl (mm_codeGood _ _ _ _)
set_option maxRecDepth 100000 in
theorem mcc_227 : Cond.code (mmNm 227) (mmBy 227) (mmMl 227) (mmRt 227) ∈ mmTs := mm_w (k := 1793) rfl (mm_codeGood _ _ _ _)
set_option maxRecDepth 100000 in
theorem mcc_228 : Cond.code (mmNm 228) (mmBy 228) (mmMl 228) (mmRt 228) ∈ mmTs := mm_w (k := 1797) rfl (mm_codeGood _ _ _ _)
set_option maxRecDepth 100000 in
theorem mcc_229 : Cond.code (mmNm 229) (mmBy 229) (mmMl 229) (mmRt 229) ∈ mmTs := mm_w (k := 1801) rfl (mm_codeGood _ _ _ _)
set_option maxRecDepth 100000 in
theorem mcc_230 : Cond.code (mmNm 230) (mmBy 230) (mmMl 230) (mmRt 230) ∈ mmTs := mm_w (k := 1805) rfl (mm_codeGood _ _ _ _)
set_option maxRecDepth 100000 in
theorem mcc_231 : Cond.code (mmNm 231) (mmBy 231) (mmMl 231) (mmRt 231) ∈ mmTs := mm_w (k := 1810) rfl (mm_codeGood _ _ _ _)
set_option maxRecDepth 100000 in
theorem mcc_232 : Cond.code (mmNm 232) (mmBy 232) (mmMl 232) (mmRt 232) ∈ mmTs := mm_w (k := 1818) rfl (mm_codeGood _ _ _ _)
set_option maxRecDepth 100000 in
theorem mcc_233 : Cond.code (mmNm 233) (mmBy 233) (mmMl 233) (mmRt 233) ∈ mmTs := mm_w (k := 1822) rfl (mm_codeGood _ _ _ _)
set_option maxRecDepth 100000 in
theorem mcc_234 : Cond.code (mmNm 234) (mmBy 234) (mmMl 234) (mmRt 234) ∈ mmTs := mm_w (k := 1814) rfl (mm_codeGood _ _ _ _)
set_option maxRecDepth 100000 in
theorem mcc_235 : Cond.code (mmNm 235) (mmBy 235) (mmMl 235) (mmRt 235) ∈ mmTs := mm_w (k := 1841) rfl (mm_codeGood _ _ _ _)
set_option maxRecDepth 100000 in
theorem mcc_236 : Cond.code (mmNm 236) (mmBy 236) (mmMl 236) (mmRt 236) ∈ mmTs := mm_w (k := 1865) rfl (mm_codeGood _ _ _ _)
set_option maxRecDepth 100000 in
theorem mcc_237 : Cond.code (mmNm 237) (mmBy 237) (mmMl 237) (mmRt 237) ∈ mmTs := mm_w (k := 1861) rfl (mm_codeGood _ _ _ _)
set_option maxRecDepth 100000 in
theorem mcc_238 : Cond.code (mmNm 238) (mmBy 238) (mmMl 238) (mmRt 238) ∈ mmTs := mm_w (k := 1837) rfl (mm_codeGood _ _ _ _)
set_option maxRecDepth 100000 in
theorem mcc_239 : Cond.code (mmNm 239) (mmBy 239) (mmMl 239) (mmRt 239) ∈ mmTs := mm_w (k := 1833) rfl (mm_codeGood _ _ _ _)
set_option maxRecDepth 100000 in
theorem mcc_240 : Cond.code (mmNm 240) (mmBy 240) (mmMl 240) (mmRt 240) ∈ mmTs := mm_w (k := 1829) rfl (mm_codeGood _ _ _ _)
set_option maxRecDepth 100000 in
theorem mcc_241 : Cond.code (mmNm 241) (mmBy 241) (mmMl 241) (mmRt 241) ∈ mmTs := mm_w (k := 1845) rfl (mm_codeGood _ _ _ _)
set_option maxRecDepth 100000 in
theorem mcc_242 : Cond.code (mmNm 242) (mmBy 242) (mmMl 242) (mmRt 242) ∈ mmTs := mm_w (k := 1826) rfl (mm_codeGood _ _ _ _)
set_option maxRecDepth 100000 in
theorem mcc_243 : Cond.code (mmNm 243) (mmBy 243) (mmMl 243) (mmRt 243) ∈ mmTs := mm_w (k := 1849) rfl (mm_codeGood _ _ _ _)
set_option maxRecDepth 100000 in
theorem mcc_244 : Cond.code (mmNm 244) (mmBy 244) (mmMl 244) (mmRt 244) ∈ mmTs := mm_w (k := 1853) rfl (mm_codeGood _ _ _ _)
set_option maxRecDepth 100000 in
theorem mcc_245 : Cond.code (mmNm 245) (mmBy 245) (mmMl 245) (mmRt 245) ∈ mmTs := mm_w (k := 1857) rfl (mm_codeGood _ _ _ _)
set_option maxRecDepth 100000 in
theorem mcc_246 : Cond.code (mmNm 246) (mmBy 246) (mmMl 246) (mmRt 246) ∈ mmTs := mm_w (k := 1873) rfl (mm_codeGood _ _ _ _)
set_option maxRecDepth 100000 in
theorem mcc_247 : Cond.code (mmNm 247) (mmBy 247) (mmMl 247) (mmRt 247) ∈ mmTs := mm_w (k := 1869) rfl (mm_codeGood _ _ _ _)
set_option maxRecDepth 100000 in
theorem mcc_248 : Cond.code (mmNm 248) (mmBy 248) (mmMl 248) (mmRt 248) ∈ mmTs := mm_w (k := 1877) rfl (mm_codeGood _ _ _ _)
set_option maxRecDepth 100000 in
theorem mcc_249 : Cond.code (mmNm 249) (mmBy 249) (mmMl 249) (mmRt 249) ∈ mmTs := mm_w (k := 1885) rfl (mm_codeGood _ _ _ _)
set_option maxRecDepth 100000 in
theorem mcc_250 : Cond.code (mmNm 250) (mmBy 250) (mmMl 250) (mmRt 250) ∈ mmTs := mm_w (k := 1881) rfl (mm_codeGood _ _ _ _)
set_option maxRecDepth 100000 in
theorem mcc_251 : Cond.code (mmNm 251) (mmBy 251) (mmMl 251) (mmRt 251) ∈ mmTs := mm_w (k := 1889) rfl (mm_codeGood _ _ _ _)
set_option maxRecDepth 100000 in
theorem mcc_252 : Cond.code (mmNm 252) (mmBy 252) (mmMl 252) (mmRt 252) ∈ mmTs := mm_w (k := 1897) rfl (mm_codeGood _ _ _ _)
set_option maxRecDepth 100000 in
theorem mcc_253 : Cond.code (mmNm 253) (mmBy 253) (mmMl 253) (mmRt 253) ∈ mmTs := mm_w (k := 1901) rfl (mm_codeGood _ _ _ _)
set_option maxRecDepth 100000 in
theorem mcc_254 : Cond.code (mmNm 254) (mmBy 254) (mmMl 254) (mmRt 254) ∈ mmTs := mm_w (k := 1905) rfl (mm_codeGood _ _ _ _)
set_option maxRecDepth 100000 in
theorem mcc_255 : Cond.code (mmNm 255) (mmBy 255) (mmMl 255) (mmRt 255) ∈ mmTs := mm_w (k := 1909) rfl (mm_codeGood _ _ _ _)
def mmYs0 : List Nat := [0, 1, 2, 3, 4, 5, 6, 7, 8, 9, 10, 11, 12, 13, 14, 15, 16, 17, 18, 19, 20, 21, 22, 23, 24]
theorem mcd_0 : ∀ y ∈ mmYs0, Cond.code (mmNm y) (mmBy y) (mmMl y) (mmRt y) ∈ mmTs := List.forall_mem_cons.mpr ⟨mcc_0, List.forall_mem_cons.mpr ⟨mcc_1, List.forall_mem_cons.mpr ⟨mcc_2, List.forall_mem_cons.mpr ⟨mcc_3, List.forall_mem_cons.mpr ⟨mcc_4, List.forall_mem_cons.mpr ⟨mcc_5, List.forall_mem_cons.mpr ⟨mcc_6, List.forall_mem_cons.mpr ⟨mcc_7, List.forall_mem_cons.mpr ⟨mcc_8, List.forall_mem_cons.mpr ⟨mcc_9, List.forall_mem_cons.mpr ⟨mcc_10, List.forall_mem_cons.mpr ⟨mcc_11, List.forall_mem_cons.mpr ⟨mcc_12, List.forall_mem_cons.mpr ⟨mcc_13, List.forall_mem_cons.mpr ⟨mcc_14, List.forall_mem_cons.mpr ⟨mcc_15, List.forall_mem_cons.mpr ⟨mcc_16, List.forall_mem_cons.mpr ⟨mcc_17, List.forall_mem_cons.mpr ⟨mcc_18, List.forall_mem_cons.mpr ⟨mcc_19, List.forall_mem_cons.mpr ⟨mcc_20, List.forall_mem_cons.mpr ⟨mcc_21, List.forall_mem_cons.mpr ⟨mcc_22, List.forall_mem_cons.mpr ⟨mcc_23, List.forall_mem_cons.mpr ⟨mcc_24, fun _ h => absurd h List.not_mem_nil⟩⟩⟩⟩⟩⟩⟩⟩⟩⟩⟩⟩⟩⟩⟩⟩⟩⟩⟩⟩⟩⟩⟩⟩⟩
theorem mce_0 : ∀ y ∈ mmYs0, mmMC y = true := by decide +kernel
def mmYs1 : List Nat := [25, 26, 27, 28, 29, 30, 31, 32, 33, 34, 35, 36, 37, 38, 39, 40, 41, 42, 43, 44, 45, 46, 47, 48, 49]
theorem mcd_1 : ∀ y ∈ mmYs1, Cond.code (mmNm y) (mmBy y) (mmMl y) (mmRt y) ∈ mmTs := List.forall_mem_cons.mpr ⟨mcc_25, List.forall_mem_cons.mpr ⟨mcc_26, List.forall_mem_cons.mpr ⟨mcc_27, List.forall_mem_cons.mpr ⟨mcc_28, List.forall_mem_cons.mpr ⟨mcc_29, List.forall_mem_cons.mpr ⟨mcc_30, List.forall_mem_cons.mpr ⟨mcc_31, List.forall_mem_cons.mpr ⟨mcc_32, List.forall_mem_cons.mpr ⟨mcc_33, List.forall_mem_cons.mpr ⟨mcc_34, List.forall_mem_cons.mpr ⟨mcc_35, List.forall_mem_cons.mpr ⟨mcc_36, List.forall_mem_cons.mpr ⟨mcc_37, List.forall_mem_cons.mpr ⟨mcc_38, List.forall_mem_cons.mpr ⟨mcc_39, List.forall_mem_cons.mpr ⟨mcc_40, List.forall_mem_cons.mpr ⟨mcc_41, List.forall_mem_cons.mpr ⟨mcc_42, List.forall_mem_cons.mpr ⟨mcc_43, List.forall_mem_cons.mpr ⟨mcc_44, List.forall_mem_cons.mpr ⟨mcc_45, List.forall_mem_cons.mpr ⟨mcc_46, List.forall_mem_cons.mpr ⟨mcc_47, List.forall_mem_cons.mpr ⟨mcc_48, List.forall_mem_cons.mpr ⟨mcc_49, fun _ h => absurd h List.not_mem_nil⟩⟩⟩⟩⟩⟩⟩⟩⟩⟩⟩⟩⟩⟩⟩⟩⟩⟩⟩⟩⟩⟩⟩⟩⟩
theorem mce_1 : ∀ y ∈ mmYs1, mmMC y = true := by decide +kernel
def mmYs2 : List Nat := [50, 51, 52, 53, 54, 55, 56, 57, 58, 59, 60, 61, 62, 63, 64, 65, 66, 67, 68, 69, 70, 71, 72, 73, 74]
theorem mcd_2 : ∀ y ∈ mmYs2, Cond.code (mmNm y) (mmBy y) (mmMl y) (mmRt y) ∈ mmTs := List.forall_mem_cons.mpr ⟨mcc_50, List.forall_mem_cons.mpr ⟨mcc_51, List.forall_mem_cons.mpr ⟨mcc_52, List.forall_mem_cons.mpr ⟨mcc_53, List.forall_mem_cons.mpr ⟨mcc_54, List.forall_mem_cons.mpr ⟨mcc_55, List.forall_mem_cons.mpr ⟨mcc_56, List.forall_mem_cons.mpr ⟨mcc_57, List.forall_mem_cons.mpr ⟨mcc_58, List.forall_mem_cons.mpr ⟨mcc_59, List.forall_mem_cons.mpr ⟨mcc_60, List.forall_mem_cons.mpr ⟨mcc_61, List.forall_mem_cons.mpr ⟨mcc_62, List.forall_mem_cons.mpr ⟨mcc_63, List.forall_mem_cons.mpr ⟨mcc_64, List.forall_mem_cons.mpr ⟨mcc_65, List.forall_mem_cons.mpr ⟨mcc_66, List.forall_mem_cons.mpr ⟨mcc_67, List.forall_mem_cons.mpr ⟨mcc_68, List.forall_mem_cons.mpr ⟨mcc_69, List.forall_mem_cons.mpr ⟨mcc_70, List.forall_mem_cons.mpr ⟨mcc_71, List.forall_mem_cons.mpr ⟨mcc_72, List.forall_mem_cons.mpr ⟨mcc_73, List.forall_mem_cons.mpr ⟨mcc_74, fun _ h => absurd h List.not_mem_nil⟩⟩⟩⟩⟩⟩⟩⟩⟩⟩⟩⟩⟩⟩⟩⟩⟩⟩⟩⟩⟩⟩⟩⟩⟩
theorem mce_2 : ∀ y ∈ mmYs2, mmMC y = true := by decide +kernel
def mmYs3 : List Nat := [75, 76, 77, 78, 79, 80, 81, 82, 83, 84, 85, 86, 87, 88, 89, 90, 91, 92, 93, 94, 95, 96, 97, 98, 99]
theorem mcd_3 : ∀ y ∈ mmYs3, Cond.code (mmNm y) (mmBy y) (mmMl y) (mmRt y) ∈ mmTs := List.forall_mem_cons.mpr ⟨mcc_75, List.forall_mem_cons.mpr ⟨mcc_76, List.forall_mem_cons.mpr ⟨mcc_77, List.forall_mem_cons.mpr ⟨mcc_78, List.forall_mem_cons.mpr ⟨mcc_79, List.forall_mem_cons.mpr ⟨mcc_80, List.forall_mem_cons.mpr ⟨mcc_81, List.forall_mem_cons.mpr ⟨mcc_82, List.forall_mem_cons.mpr ⟨mcc_83, List.forall_mem_cons.mpr ⟨mcc_84, List.forall_mem_cons.mpr ⟨mcc_85, List.forall_mem_cons.mpr ⟨mcc_86, List.forall_mem_cons.mpr ⟨mcc_87, List.forall_mem_cons.mpr ⟨mcc_88, List.forall_mem_cons.mpr ⟨mcc_89, List.forall_mem_cons.mpr ⟨mcc_90, List.forall_mem_cons.mpr ⟨mcc_91, List.forall_mem_cons.mpr ⟨mcc_92, List.forall_mem_cons.mpr ⟨mcc_93, List.forall_mem_cons.mpr ⟨mcc_94, List.forall_mem_cons.mpr ⟨mcc_95, List.forall_mem_cons.mpr ⟨mcc_96, List.forall_mem_cons.mpr ⟨mcc_97, List.forall_mem_cons.mpr ⟨mcc_98, List.forall_mem_cons.mpr ⟨mcc_99, fun _ h => absurd h List.not_mem_nil⟩⟩⟩⟩⟩⟩⟩⟩⟩⟩⟩⟩⟩⟩⟩⟩⟩⟩⟩⟩⟩⟩⟩⟩⟩
theorem mce_3 : ∀ y ∈ mmYs3, mmMC y = true := by decide +kernel
def mmYs4 : List Nat := [100, 101, 102, 103, 105, 106, 107, 108, 109, 110, 111, 112, 113, 114, 115, 116, 117, 118, 119, 120, 121, 122, 123, 124, 125]
theorem mcd_4 : ∀ y ∈ mmYs4, Cond.code (mmNm y) (mmBy y) (mmMl y) (mmRt y) ∈ mmTs := List.forall_mem_cons.mpr ⟨mcc_100, List.forall_mem_cons.mpr ⟨mcc_101, List.forall_mem_cons.mpr ⟨mcc_102, List.forall_mem_cons.mpr ⟨mcc_103, List.forall_mem_cons.mpr ⟨mcc_105, List.forall_mem_cons.mpr ⟨mcc_106, List.forall_mem_cons.mpr ⟨mcc_107, List.forall_mem_cons.mpr ⟨mcc_108, List.forall_mem_cons.mpr ⟨mcc_109, List.forall_mem_cons.mpr ⟨mcc_110, List.forall_mem_cons.mpr ⟨mcc_111, List.forall_mem_cons.mpr ⟨mcc_112, List.forall_mem_cons.mpr ⟨mcc_113, List.forall_mem_cons.mpr ⟨mcc_114, List.forall_mem_cons.mpr ⟨mcc_115, List.forall_mem_cons.mpr ⟨mcc_116, List.forall_mem_cons.mpr ⟨mcc_117, List.forall_mem_cons.mpr ⟨mcc_118, List.forall_mem_cons.mpr ⟨mcc_119, List.forall_mem_cons.mpr ⟨mcc_120, List.forall_mem_cons.mpr ⟨mcc_121, List.forall_mem_cons.mpr ⟨mcc_122, List.forall_mem_cons.mpr ⟨mcc_123, List.forall_mem_cons.mpr ⟨mcc_124, List.forall_mem_cons.mpr ⟨mcc_125, fun _ h => absurd h List.not_mem_nil⟩⟩⟩⟩⟩⟩⟩⟩⟩⟩⟩⟩⟩⟩⟩⟩⟩⟩⟩⟩⟩⟩⟩⟩⟩
theorem mce_4 : ∀ y ∈ mmYs4, mmMC y = true := by decide +kernel
def mmYs5 : List Nat := [126, 127, 128, 129, 130, 131, 132, 133, 134, 135, 136, 137, 138, 139, 140, 141, 142, 143, 144, 145, 146, 147, 148, 149, 150]
theorem mcd_5 : ∀ y ∈ mmYs5, Cond.code (mmNm y) (mmBy y) (mmMl y) (mmRt y) ∈ mmTs := List.forall_mem_cons.mpr ⟨mcc_126, List.forall_mem_cons.mpr ⟨mcc_127, List.forall_mem_cons.mpr ⟨mcc_128, List.forall_mem_cons.mpr ⟨mcc_129, List.forall_mem_cons.mpr ⟨mcc_130, List.forall_mem_cons.mpr ⟨mcc_131, List.forall_mem_cons.mpr ⟨mcc_132, List.forall_mem_cons.mpr ⟨mcc_133, List.forall_mem_cons.mpr ⟨mcc_134, List.forall_mem_cons.mpr ⟨mcc_135, List.forall_mem_cons.mpr ⟨mcc_136, List.forall_mem_cons.mpr ⟨mcc_137, List.forall_mem_cons.mpr ⟨mcc_138, List.forall_mem_cons.mpr ⟨mcc_139, List.forall_mem_cons.mpr ⟨mcc_140, List.forall_mem_cons.mpr ⟨mcc_141, List.forall_mem_cons.mpr ⟨mcc_142, List.forall_mem_cons.mpr ⟨mcc_143, List.forall_mem_cons.mpr ⟨mcc_144, List.forall_mem_cons.mpr ⟨mcc_145, List.forall_mem_cons.mpr ⟨mcc_146, List.forall_mem_cons.mpr ⟨mcc_147, List.forall_mem_cons.mpr ⟨mcc_148, List.forall_mem_cons.mpr ⟨mcc_149, List.forall_mem_cons.mpr ⟨mcc_150, fun _ h => absurd h List.not_mem_nil⟩⟩⟩⟩⟩⟩⟩⟩⟩⟩⟩⟩⟩⟩⟩⟩⟩⟩⟩⟩⟩⟩⟩⟩⟩
theorem mce_5 : ∀ y ∈ mmYs5, mmMC y = true := by decide +kernel
def mmYs6 : List Nat := [151, 152, 153, 154, 155, 156, 157, 158, 159, 160, 161, 162, 163, 164, 165, 166, 167, 168, 169, 170, 171, 172, 173, 174, 175]
theorem mcd_6 : ∀ y ∈ mmYs6, Cond.code (mmNm y) (mmBy y) (mmMl y) (mmRt y) ∈ mmTs := List.forall_mem_cons.mpr ⟨mcc_151, List.forall_mem_cons.mpr ⟨mcc_152, List.forall_mem_cons.mpr ⟨mcc_153, List.forall_mem_cons.mpr ⟨mcc_154, List.forall_mem_cons.mpr ⟨mcc_155, List.forall_mem_cons.mpr ⟨mcc_156, List.forall_mem_cons.mpr ⟨mcc_157, List.forall_mem_cons.mpr ⟨mcc_158, List.forall_mem_cons.mpr ⟨mcc_159, List.forall_mem_cons.mpr ⟨mcc_160, List.forall_mem_cons.mpr ⟨mcc_161, List.forall_mem_cons.mpr ⟨mcc_162, List.forall_mem_cons.mpr ⟨mcc_163, List.forall_mem_cons.mpr ⟨mcc_164, List.forall_mem_cons.mpr ⟨mcc_165, List.forall_mem_cons.mpr ⟨mcc_166, List.forall_mem_cons.mpr ⟨mcc_167, List.forall_mem_cons.mpr ⟨mcc_168, List.forall_mem_cons.mpr ⟨mcc_169, List.forall_mem_cons.mpr ⟨mcc_170, List.forall_mem_cons.mpr ⟨mcc_171, List.forall_mem_cons.mpr ⟨mcc_172, List.forall_mem_cons.mpr ⟨mcc_173, List.forall_mem_cons.mpr ⟨mcc_174, List.forall_mem_cons.mpr ⟨mcc_175, fun _ h => absurd h List.not_mem_nil⟩⟩⟩⟩⟩⟩⟩⟩⟩⟩⟩⟩⟩⟩⟩⟩⟩⟩⟩⟩⟩⟩⟩⟩⟩
theorem mce_6 : ∀ y ∈ mmYs6, mmMC y = true := by decide +kernel
def mmYs7 : List Nat := [176, 177, 178, 179, 180, 181, 182, 183, 184, 185, 186, 187, 188, 189, 190, 191, 192, 193, 194, 195, 196, 197, 198, 199, 200]
theorem mcd_7 : ∀ y ∈ mmYs7, Cond.code (mmNm y) (mmBy y) (mmMl y) (mmRt y) ∈ mmTs := List.forall_mem_cons.mpr ⟨mcc_176, List.forall_mem_cons.mpr ⟨mcc_177, List.forall_mem_cons.mpr ⟨mcc_178, List.forall_mem_cons.mpr ⟨mcc_179, List.forall_mem_cons.mpr ⟨mcc_180, List.forall_mem_cons.mpr ⟨mcc_181, List.forall_mem_cons.mpr ⟨mcc_182, List.forall_mem_cons.mpr ⟨mcc_183, List.forall_mem_cons.mpr ⟨mcc_184, List.forall_mem_cons.mpr ⟨mcc_185, List.forall_mem_cons.mpr ⟨mcc_186, List.forall_mem_cons.mpr ⟨mcc_187, List.forall_mem_cons.mpr ⟨mcc_188, List.forall_mem_cons.mpr ⟨mcc_189, List.forall_mem_cons.mpr ⟨mcc_190, List.forall_mem_cons.mpr ⟨mcc_191, List.forall_mem_cons.mpr ⟨mcc_192, List.forall_mem_cons.mpr ⟨mcc_193, List.forall_mem_cons.mpr ⟨mcc_194, List.forall_mem_cons.mpr ⟨mcc_195, List.forall_mem_cons.mpr ⟨mcc_196, List.forall_mem_cons.mpr ⟨mcc_197, List.forall_mem_cons.mpr ⟨mcc_198, List.forall_mem_cons.mpr ⟨mcc_199, List.forall_mem_cons.mpr ⟨mcc_200, fun _ h => absurd h List.not_mem_nil⟩⟩⟩⟩⟩⟩⟩⟩⟩⟩⟩⟩⟩⟩⟩⟩⟩⟩⟩⟩⟩⟩⟩⟩⟩
theorem mce_7 : ∀ y ∈ mmYs7, mmMC y = true := by decide +kernel
def mmYs8 : List Nat := [201, 202, 203, 204, 205, 206, 207, 208, 209, 210, 211, 212, 213, 214, 215, 216, 217, 218, 219, 220, 221, 222, 223, 224, 225]
theorem mcd_8 : ∀ y ∈ mmYs8, Cond.code (mmNm y) (mmBy y) (mmMl y) (mmRt y) ∈ mmTs := List.forall_mem_cons.mpr ⟨mcc_201, List.forall_mem_cons.mpr ⟨mcc_202, List.forall_mem_cons.mpr ⟨mcc_203, List.forall_mem_cons.mpr ⟨mcc_204, List.forall_mem_cons.mpr ⟨mcc_205, List.forall_mem_cons.mpr ⟨mcc_206, List.forall_mem_cons.mpr ⟨mcc_207, List.forall_mem_cons.mpr ⟨mcc_208, List.forall_mem_cons.mpr ⟨mcc_209, List.forall_mem_cons.mpr ⟨mcc_210, List.forall_mem_cons.mpr ⟨mcc_211, List.forall_mem_cons.mpr ⟨mcc_212, List.forall_mem_cons.mpr ⟨mcc_213, List.forall_mem_cons.mpr ⟨mcc_214, List.forall_mem_cons.mpr ⟨mcc_215, List.forall_mem_cons.mpr ⟨mcc_216, List.forall_mem_cons.mpr ⟨mcc_217, List.forall_mem_cons.mpr ⟨mcc_218, List.forall_mem_cons.mpr ⟨mcc_219, List.forall_mem_cons.mpr ⟨mcc_220, List.forall_mem_cons.mpr ⟨mcc_221, List.forall_mem_cons.mpr ⟨mcc_222, List.forall_mem_cons.mpr ⟨mcc_223, List.forall_mem_cons.mpr ⟨mcc_224, List.forall_mem_cons.mpr ⟨mcc_225, fun _ h => absurd h List.not_mem_nil⟩⟩⟩⟩⟩⟩⟩⟩⟩⟩⟩⟩⟩⟩⟩⟩⟩⟩⟩⟩⟩⟩⟩⟩⟩
theorem mce_8 : ∀ y ∈ mmYs8, mmMC y = true := by decide +kernel
def mmYs9 : List Nat := [226, 227, 228, 229, 230, 231, 232, 233, 234, 235, 236, 237, 238, 239, 240, 241, 242, 243, 244, 245, 246, 247, 248, 249, 250]
theorem mcd_9 : ∀ y ∈ mmYs9, Cond.code (mmNm y) (mmBy y) (mmMl y) (mmRt y) ∈ mmTs := List.forall_mem_cons.mpr ⟨mcc_226, List.forall_mem_cons.mpr ⟨mcc_227, List.forall_mem_cons.mpr ⟨mcc_228, List.forall_mem_cons.mpr ⟨mcc_229, List.forall_mem_cons.mpr ⟨mcc_230, List.forall_mem_cons.mpr ⟨mcc_231, List.forall_mem_cons.mpr ⟨mcc_232, List.forall_mem_cons.mpr ⟨mcc_233, List.forall_mem_cons.mpr ⟨mcc_234, List.forall_mem_cons.mpr ⟨mcc_235, List.forall_mem_cons.mpr ⟨mcc_236, List.forall_mem_cons.mpr ⟨mcc_237, List.forall_mem_cons.mpr ⟨mcc_238, List.forall_mem_cons.mpr ⟨mcc_239, List.forall_mem_cons.mpr ⟨mcc_240, List.forall_mem_cons.mpr ⟨mcc_241, List.forall_mem_cons.mpr ⟨mcc_242, List.forall_mem_cons.mpr ⟨mcc_243, List.forall_mem_cons.mpr ⟨mcc_244, List.forall_mem_cons.mpr ⟨mcc_245, List.forall_mem_cons.mpr ⟨mcc_246, List.forall_mem_cons.mpr ⟨mcc_247, List.forall_mem_cons.mpr ⟨mcc_248, List.forall_mem_cons.mpr ⟨mcc_249, List.forall_mem_cons.mpr ⟨mcc_250, fun _ h => absurd h List.not_mem_nil⟩⟩⟩⟩⟩⟩⟩⟩⟩⟩⟩⟩⟩⟩⟩⟩⟩⟩⟩⟩⟩⟩⟩⟩⟩
theorem mce_9 : ∀ y ∈ mmYs9, mmMC y = true := by decide +kernel
def mmYs10 : List Nat := [251, 252, 253, 254, 255]
theorem mcd_10 : ∀ y ∈ mmYs10, Cond.code (mmNm y) (mmBy y) (mmMl y) (mmRt y) ∈ mmTs := List.forall_mem_cons.mpr ⟨mcc_251, List.forall_mem_cons.mpr ⟨mcc_252, List.forall_mem_cons.mpr ⟨mcc_253, List.forall_mem_cons.mpr ⟨mcc_254, List.forall_mem_cons.mpr ⟨mcc_255, fun _ h => absurd h List.not_mem_nil⟩⟩⟩⟩⟩
theorem mce_10 : ∀ y ∈ mmYs10, mmMC y = true := by decide +kernel
def mmYs : List Nat := mmYs0 ++ (mmYs1 ++ (mmYs2 ++ (mmYs3 ++ (mmYs4 ++ (mmYs5 ++ (mmYs6 ++ (mmYs7 ++ (mmYs8 ++ (mmYs9 ++ (mmYs10))))))))))
theorem mcd : ∀ y ∈ mmYs, Cond.code (mmNm y) (mmBy y) (mmMl y) (mmRt y) ∈ mmTs ∧ mmMC y = true := by
  intro y hy
  simp only [mmYs, List.mem_append] at hy
  rcases hy with h | h | h | h | h | h | h | h | h | h | h
  · exact ⟨mcd_0 y h, mce_0 y h⟩
  · exact ⟨mcd_1 y h, mce_1 y h⟩
  · exact ⟨mcd_2 y h, mce_2 y h⟩
  · exact ⟨mcd_3 y h, mce_3 y h⟩
  · exact ⟨mcd_4 y h, mce_4 y h⟩
  · exact ⟨mcd_5 y h, mce_5 y h⟩
  · exact ⟨mcd_6 y h, mce_6 y h⟩
  · exact ⟨mcd_7 y h, mce_7 y h⟩
  · exact ⟨mcd_8 y h, mce_8 y h⟩
  · exact ⟨mcd_9 y h, mce_9 y h⟩
  · exact ⟨mcd_10 y h, mce_10 y h⟩
theorem mm_inYs : ∀ y, y < 258 → mmMB y = true → y ∈ mmYs := by decide +kernel
theorem mmMBL_len : mmMBL.length = 258 := by decide +kernel
theorem mm_ltYs {y : Nat} (h : mmMB y = true) : y < 258 := by
  apply Nat.lt_of_not_le
  intro q
  have : mmMB y = false := by
    unfold mmMB
    rw [List.getD_eq_getElem?_getD, List.getElem?_eq_none (by rw [mmMBL_len]; exact q)]
    rfl
  rw [this] at h
  cases h
theorem mmMB_inv {y : Nat} (h0 : mmMB y = true) : mmMw (mmNm y) (mmBy y) (mmMl y) (mmRt y) (mmNa y) ∧ plainName (mmNm y).cls = true ∧ (mmKd y = 0 → Cond.instanceMethod (mmNm y) ∈ mmTs ∧ Cond.selects (mmNm y).cls (mmNm y) (mmNm y) ∈ mmTs) ∧ (mmKd y = 1 → Cond.static (mmNm y) ∈ mmTs) ∧ (mmKd y = 2 → Cond.instanceMethod (mmNm y) ∈ mmTs ∧ (mmNm y).name = "<init>" ∧ mmRt y = none) := by
  obtain ⟨h1, h⟩ := mcd y (mm_inYs y (mm_ltYs h0) h0)
  unfold mmMC at h
  split at h
  · simp only [Bool.and_eq_true, decide_eq_true_eq] at h
    obtain ⟨⟨⟨⟨h2, h3⟩, h4⟩, h5⟩, h6⟩ := h
    refine ⟨⟨h1, mmWb_in h2, h3, h4⟩, h5, fun e => ?_, fun e => ?_, fun e => ?_⟩
    · rw [e] at h6
      simp only [Bool.and_eq_true] at h6
      exact ⟨mmWb_in h6.1, mmWb_in h6.2⟩
    · rw [e] at h6
      exact mmWb_in h6
    · rw [e] at h6
      simp only [Bool.and_eq_true, decide_eq_true_eq] at h6
      exact ⟨mmWb_in h6.1.1, h6.1.2, h6.2⟩
  · cases h
