def pm_ws : List Jvm.Cond := lw_tbl.filter goodWord
theorem pm_in_of {L : List Jvm.Cond} (ps : List Nat) (h : L = ps.filterMap (fun i => lw_tbl[i]?)) (hg : L.all goodWord = true) : ∀ w ∈ L, w ∈ pm_ws := by
  intro w hw
  refine List.mem_filter.mpr ⟨?_, List.all_eq_true.mp hg w hw⟩
  rw [h] at hw
  obtain ⟨i, -, hi⟩ := List.mem_filterMap.mp hw
  exact List.mem_of_getElem? hi
def pm_ftw (e : (Nat × Nat) × (Nat × Nat)) : Jvm.Cond := match vwCl[e.2.1]? with
  | some q => .fieldLink (pm_cn e.1.1) e.1.2 (pm_cn e.2.1) (q.2.1 e.2.2).2.1 (q.2.1 e.2.2).2.2.1
  | none => .count 0
set_option maxRecDepth 100000 in
theorem pm_ft_in0 : ∀ w ∈ pm_ft_0.map pm_ftw, w ∈ pm_ws := pm_in_of [205, 206, 207, 208, 209, 210, 211, 212, 213, 228, 229, 230, 231, 232, 233, 253, 254, 255, 256, 257, 258, 259, 260, 261, 262, 263, 264, 265, 266, 267, 268, 269, 270, 271, 272, 273, 274, 275, 276, 277, 278, 279, 280, 281, 282, 283, 284, 285, 286, 287, 288, 289, 290, 291, 292, 293, 294, 295, 296, 297, 330, 331, 332, 333, 334, 335, 336, 337, 338, 339, 340, 341, 342, 343, 344, 345, 346, 347, 348, 349] (by decide +kernel) (by decide +kernel)
set_option maxRecDepth 100000 in
theorem pm_ft_in1 : ∀ w ∈ pm_ft_1.map pm_ftw, w ∈ pm_ws := pm_in_of [350, 351, 352, 353, 354, 355, 356, 357, 358, 359, 360, 361, 362, 363, 390, 391, 392, 393, 394, 395, 416, 417, 418, 419, 420, 421, 422, 439, 440, 441, 442, 443, 444, 445, 446, 447, 448, 449, 450, 451, 452, 453, 481, 482, 483, 484, 485, 486, 487, 488, 489, 490, 491, 492, 493, 494, 495, 496, 497, 498, 525, 526, 527, 528, 529, 530, 531, 532, 533, 534, 535, 536, 537, 538, 539, 540, 541, 542, 543, 544] (by decide +kernel) (by decide +kernel)
set_option maxRecDepth 100000 in
theorem pm_ft_in2 : ∀ w ∈ pm_ft_2.map pm_ftw, w ∈ pm_ws := pm_in_of [589, 590, 591, 592, 593, 594, 595, 596, 597, 598, 599, 600, 601, 612, 613, 614, 615, 616, 617, 618, 619, 620, 621, 622, 623, 624, 625, 626, 627, 628, 629, 630, 631, 632, 633, 634, 635, 636, 637, 638, 639, 640, 641, 642, 643, 644, 645, 646, 647, 648, 649, 650, 651, 652, 653, 654, 655, 656, 657, 658, 659, 660, 661, 662, 663, 664, 665, 666, 667, 668, 669, 670, 671, 672, 673, 674, 675, 676, 677, 678] (by decide +kernel) (by decide +kernel)
set_option maxRecDepth 100000 in
theorem pm_ft_in3 : ∀ w ∈ pm_ft_3.map pm_ftw, w ∈ pm_ws := pm_in_of [679, 680, 681, 682, 683, 684, 685, 686, 687, 688, 689, 1202, 1203, 1204, 1205, 1206, 1207, 1208, 1209, 1210, 1211, 1212, 1213, 1214, 1215, 1216, 1998, 1999, 2000, 2001, 2002, 2003, 2004, 2005, 2006, 2007, 2008, 2009, 2010, 2011, 2012, 2013, 2014, 2015, 2016, 2017, 2018, 2019, 2020, 2021, 2022, 2023, 2024, 2025, 2026, 2027, 2028, 2029, 2030, 2031, 2032, 2033, 2034, 2035, 2036, 2037, 2038, 2039, 2040, 2041, 2042, 2043, 2044, 2045, 2046, 2047, 2048, 2049, 2050, 2051] (by decide +kernel) (by decide +kernel)
set_option maxRecDepth 100000 in
theorem pm_ft_in4 : ∀ w ∈ pm_ft_4.map pm_ftw, w ∈ pm_ws := pm_in_of [2052, 2053, 2054, 2055, 2056, 2057, 2058, 2059, 2060, 2061, 2062, 2063, 2064, 2065, 2066, 2067, 2068, 2069, 2070, 2071, 2072, 2073, 2074, 2075] (by decide +kernel) (by decide +kernel)
theorem pm_ft_in : ∀ w ∈ pm_ft.map pm_ftw, w ∈ pm_ws := by
  unfold pm_ft
  simp only [List.map_append, List.forall_mem_append]
  exact ⟨⟨⟨⟨pm_ft_in0, pm_ft_in1⟩, pm_ft_in2⟩, pm_ft_in3⟩, pm_ft_in4⟩
set_option maxRecDepth 100000 in
theorem pm_ft_ok : pm_ft.all (fun e => match vwCl[e.2.1]? with | some q => decide (q.1 = pm_cn e.2.1) && decide (e.2.2 < q.2.2) && decide ((q.2.1 e.2.2).1 = pm_cn e.2.1) | none => false) = true := by decide +kernel
set_option maxRecDepth 100000 in
theorem pm_lay3 : ∀ w ∈ u_ws RX0 TX0 4, w ∈ pm_ws := pm_in_of [423, 425, 427, 429] (by decide +kernel) (by decide +kernel)
set_option maxRecDepth 100000 in
theorem pm_lay4 : ∀ w ∈ u_ws RX1 TX1 19, w ∈ pm_ws := pm_in_of [690, 692, 694, 696, 698, 700, 702, 704, 706, 708, 710, 712, 714, 716, 718, 720, 722, 724, 726] (by decide +kernel) (by decide +kernel)
set_option maxRecDepth 100000 in
theorem pm_lay5 : ∀ w ∈ u_ws RX2 TX2 9, w ∈ pm_ws := pm_in_of [499, 501, 503, 505, 507, 509, 511, 513, 515] (by decide +kernel) (by decide +kernel)
set_option maxRecDepth 100000 in
theorem pm_lay6 : ∀ w ∈ u_ws RX3 TX3 9, w ∈ pm_ws := pm_in_of [364, 366, 368, 370, 372, 374, 376, 378, 380] (by decide +kernel) (by decide +kernel)
set_option maxRecDepth 100000 in
theorem pm_lay7 : ∀ w ∈ u_ws RX4 TX4 6, w ∈ pm_ws := pm_in_of [396, 398, 400, 402, 404, 406] (by decide +kernel) (by decide +kernel)
set_option maxRecDepth 100000 in
theorem pm_lay8 : ∀ w ∈ u_ws RX5 TX5 10, w ∈ pm_ws := pm_in_of [454, 456, 458, 460, 462, 464, 466, 468, 470, 472] (by decide +kernel) (by decide +kernel)
set_option maxRecDepth 100000 in
theorem pm_lay9 : ∀ w ∈ u_ws RX6 TX6 5, w ∈ pm_ws := pm_in_of [234, 236, 238, 240, 242] (by decide +kernel) (by decide +kernel)
set_option maxRecDepth 100000 in
theorem pm_lay10 : ∀ w ∈ u_ws RX7 TX7 15, w ∈ pm_ws := pm_in_of [545, 547, 549, 551, 553, 555, 557, 559, 561, 563, 565, 567, 569, 571, 573] (by decide +kernel) (by decide +kernel)
set_option maxRecDepth 100000 in
theorem pm_lay11 : ∀ w ∈ u_ws RX8 TX8 3, w ∈ pm_ws := pm_in_of [602, 604, 606] (by decide +kernel) (by decide +kernel)
set_option maxRecDepth 100000 in
theorem pm_lay12 : ∀ w ∈ u_ws RX9 TX9 6, w ∈ pm_ws := pm_in_of [214, 216, 218, 220, 222, 224] (by decide +kernel) (by decide +kernel)
set_option maxRecDepth 100000 in
theorem pm_lay13 : ∀ w ∈ u_ws RX10 TX10 12, w ∈ pm_ws := pm_in_of [298, 300, 302, 304, 306, 308, 310, 312, 314, 316, 318, 320] (by decide +kernel) (by decide +kernel)
set_option maxRecDepth 100000 in
theorem pm_lay14 : ∀ w ∈ u_ws RX11 TX11 15, w ∈ pm_ws := pm_in_of [1217, 1219, 1221, 1223, 1225, 1227, 1229, 1231, 1233, 1235, 1237, 1239, 1241, 1243, 1245] (by decide +kernel) (by decide +kernel)
set_option maxRecDepth 100000 in
theorem pm_lay15 : ∀ w ∈ u_ws RX12 TX12 78, w ∈ pm_ws := pm_in_of [2076, 2078, 2080, 2082, 2084, 2086, 2088, 2090, 2092, 2094, 2096, 2098, 2100, 2102, 2104, 2106, 2108, 2110, 2112, 2114, 2116, 2118, 2120, 2122, 2124, 2126, 2128, 2130, 2132, 2134, 2136, 2138, 2140, 2142, 2144, 2146, 2148, 2150, 2152, 2154, 2156, 2158, 2160, 2162, 2164, 2166, 2168, 2170, 2172, 2174, 2176, 2178, 2180, 2182, 2184, 2186, 2188, 2190, 2192, 2194, 2196, 2198, 2200, 2202, 2204, 2206, 2208, 2210, 2212, 2214, 2216, 2218, 2220, 2222, 2224, 2226, 2228, 2230] (by decide +kernel) (by decide +kernel)
def pm_mw (y : Nat) : List Jvm.Cond := [.instanceMethod (pm_name y), .initialized (pm_name y).cls]
def pm_mws (y : Nat) : List Jvm.Cond := [.static (pm_name y), .initialized (pm_name y).cls]
def pm_cw (y : Nat) : Jvm.Cond := .code (pm_name y) (pm_code y) (pm_nL y) (pm_ret y)
def pm_inst : List Nat := [0, 1, 2, 3, 4, 5, 6, 7, 8, 9, 10, 11, 12, 13, 14, 15, 16, 17, 18, 19, 20, 21, 22, 23, 24, 25, 26, 27, 28, 29, 30, 31, 32, 33, 34, 35, 36, 37, 38, 39, 40, 41, 42, 43, 44, 45, 46, 47, 48, 49, 50, 51, 52, 53, 54, 55, 56, 57, 58, 59, 60, 61, 62, 63, 64, 65, 66, 67, 68, 69, 70, 71, 72, 73, 74, 75, 76, 77, 78, 79, 80, 81, 82, 83, 84, 85, 86, 87, 88, 89, 90, 91, 92, 93, 94, 95, 96, 97, 98, 99, 100, 101, 102, 103, 104, 105, 106, 107, 108, 109, 110, 111, 112, 113, 114, 115, 116, 117, 118, 119, 120, 121, 122, 123, 124, 125, 126, 127, 128, 129, 130, 131, 132, 133, 134, 135, 136, 137, 138, 139, 140, 141, 142, 143, 144, 145, 146, 147, 148, 149, 150, 151, 152, 153, 154, 155, 156, 158, 159, 160, 161, 162, 163, 164, 165, 166, 167, 168, 169, 170, 171, 172, 173, 174, 175, 176, 177, 178, 179, 180, 181, 183, 184, 185, 186, 187, 188, 189, 190, 191, 192, 193, 194, 195, 196, 197, 198, 199, 200, 201, 202, 203, 204, 205, 206, 207, 208, 209, 210, 211, 212, 213, 214, 215, 216, 217, 218, 219, 220, 221, 222, 223, 224, 226, 227, 228, 229, 230, 231]
def pm_stat : List Nat := [157, 182, 225, 249, 250, 251]
def pm_hand : List Nat := [232, 233, 234, 235, 236, 237, 238, 239, 240, 241, 242, 243, 244, 245, 246, 247, 248]
def pm_virt : List Nat := [1, 2, 3, 4, 5, 6, 7, 8, 10, 11, 12, 13, 14, 15, 17, 18, 19, 22, 23, 24, 25, 26, 27, 28, 29, 30, 32, 33, 34, 35, 36, 37, 39, 40, 41, 42, 43, 44, 45, 46, 47, 48, 49, 50, 51, 52, 53, 54, 55, 56, 57, 58, 60, 61, 62, 63, 64, 65, 66, 67, 68, 69, 70, 71, 72, 73, 74, 75, 77, 79, 80, 81, 82, 83, 84, 85, 86, 88, 89, 90, 91, 92, 94, 95, 96, 97, 98, 99, 100, 101, 102, 103, 104, 105, 106, 107, 108, 109, 110, 111, 112, 113, 114, 115, 116, 117, 118, 119, 120, 121, 122, 123, 124, 126, 127, 128, 129, 130, 131, 132, 133, 134, 135, 136, 137, 138, 139, 140, 141, 142, 143, 144, 145, 146, 147, 148, 149, 150, 151, 152, 153, 154, 155, 156, 158, 159, 160, 161, 162, 163, 164, 165, 166, 167, 168, 169, 170, 171, 172, 173, 174, 175, 176, 177, 178, 179, 180, 181, 183, 184, 185, 186, 187, 188, 189, 190, 191, 192, 193, 194, 195, 196, 197, 198, 199, 200, 201, 202, 203, 204, 205, 206, 207, 208, 209, 210, 211, 212, 213, 214, 215, 216, 217, 218, 219, 220, 221, 222, 223, 224, 226, 227, 228, 229, 230, 231]
set_option maxRecDepth 100000 in
theorem pm_inst_in : ∀ w ∈ pm_inst.flatMap pm_mw, w ∈ pm_ws := pm_in_of [412, 158, 1163, 158, 1173, 158, 1177, 158, 814, 158, 1169, 158, 810, 158, 805, 158, 1156, 158, 579, 162, 1422, 162, 1410, 162, 1374, 162, 1350, 162, 1269, 162, 794, 162, 478, 160, 1200, 160, 1190, 160, 1196, 160, 326, 156, 386, 157, 734, 157, 778, 157, 758, 157, 782, 157, 767, 157, 790, 157, 753, 157, 771, 157, 799, 157, 435, 159, 1601, 159, 1187, 159, 1558, 159, 1595, 159, 1563, 159, 1181, 159, 196, 153, 1427, 153, 1403, 153, 1383, 153, 1419, 153, 1363, 153, 1435, 153, 1281, 153, 1371, 153, 1399, 153, 1407, 153, 1355, 153, 1391, 153, 1359, 153, 1367, 153, 1415, 153, 1387, 153, 1395, 153, 1431, 153, 1379, 153, 1439, 153, 521, 161, 1686, 161, 1666, 161, 1694, 161, 1702, 161, 1650, 161, 1698, 161, 1654, 161, 1674, 161, 1662, 161, 1670, 161, 1658, 161, 1690, 161, 1642, 161, 1678, 161, 1682, 161, 1706, 161, 585, 163, 785, 163, 202, 154, 1342, 154, 1291, 154, 1304, 154, 1346, 154, 1338, 154, 1285, 154, 1295, 154, 1299, 154, 248, 155, 738, 155, 761, 155, 1159, 155, 749, 155, 745, 155, 188, 152, 1504, 152, 731, 152, 1532, 152, 1553, 152, 1540, 152, 1265, 152, 1257, 152, 1261, 152, 1249, 152, 1591, 152, 1615, 152, 1607, 152, 1578, 152, 1545, 152, 1637, 152, 1620, 152, 1625, 152, 1583, 152, 1509, 152, 1455, 152, 1495, 152, 1712, 152, 1720, 152, 1277, 152, 1632, 152, 1735, 152, 1571, 152, 1450, 152, 1254, 152, 1490, 152, 1728, 152, 1754, 182, 2346, 182, 1814, 182, 1910, 182, 2354, 182, 1788, 182, 1881, 182, 2407, 182, 1945, 182, 1923, 182, 1919, 182, 2366, 182, 2358, 182, 1960, 182, 1849, 182, 1964, 182, 1933, 182, 2402, 182, 2267, 182, 1898, 182, 1748, 182, 2263, 182, 2295, 182, 1802, 182, 2239, 182, 1744, 182, 2299, 182, 2411, 182, 2394, 182, 1780, 182, 1877, 182, 2287, 182, 2334, 182, 1792, 182, 1996, 182, 1992, 182, 2383, 182, 1810, 182, 1798, 182, 1984, 182, 2303, 182, 1826, 182, 1830, 182, 1776, 182, 1869, 182, 1915, 182, 1845, 182, 2371, 182, 1980, 182, 2330, 182, 2275, 182, 1865, 182, 2390, 182, 1976, 182, 1763, 182, 1873, 182, 2375, 182, 2363, 182, 2248, 182, 2315, 182, 2323, 182, 1927, 182, 1806, 182, 1956, 182, 1952, 182, 1937, 182, 1972, 182, 1968, 182, 1941, 182, 1837, 182, 2306, 182, 1988, 182, 2271, 182, 1906, 182, 2310, 182, 2283, 182, 2235, 182, 1759, 182, 1894, 182, 1861, 182, 1767, 182, 2243, 182, 2259, 182, 2326, 182, 2399, 182, 1857, 182, 2291, 182, 2379, 182, 2386, 182, 2338, 182, 1822, 182, 1902, 182, 1818, 182, 1885, 182, 1772, 182, 1853, 182, 1740, 182, 2255, 182, 1890, 182, 2279, 182, 1841, 182, 2342, 182, 2318, 182, 1784, 182] (by decide +kernel) (by decide +kernel)
set_option maxRecDepth 100000 in
theorem pm_stat_in : ∀ w ∈ pm_stat.flatMap pm_mws, w ∈ pm_ws := pm_in_of [2251, 182, 1948, 182, 2350, 182, 610, 164, 819, 164, 822, 164] (by decide +kernel) (by decide +kernel)
/-- the handlers as the class file has them: (start, end, handler, class) -/
def pm_hr (y : Nat) : List (Nat × Nat × Nat × Nat) := match y with
  | 232 => [(0, 10, 13, 19), (0, 10, 17, 29)]
  | 233 => [(0, 9, 12, 19)]
  | 234 => [(0, 12, 15, 19), (0, 12, 19, 29)]
  | 235 => [(0, 10, 13, 19), (0, 10, 17, 21)]
  | 236 => [(0, 9, 12, 19)]
  | 237 => [(0, 10, 13, 13)]
  | 238 => [(0, 10, 13, 19), (0, 10, 17, 13)]
  | 239 => [(0, 10, 13, 19), (0, 10, 17, 21)]
  | 240 => [(0, 10, 13, 13), (0, 10, 17, 21)]
  | 241 => [(0, 12, 15, 19), (0, 12, 19, 13), (0, 12, 23, 21)]
  | 242 => [(0, 8, 11, 13)]
  | 243 => [(0, 10, 13, 13), (0, 10, 17, 21)]
  | 244 => [(0, 14, 17, 13)]
  | 245 => [(0, 10, 13, 19)]
  | 246 => [(0, 10, 13, 19), (0, 10, 17, 21)]
  | 247 => [(0, 10, 13, 19), (0, 10, 17, 21)]
  | 248 => [(0, 10, 13, 19), (0, 10, 17, 13)]
  | _ => []
set_option maxRecDepth 100000 in
theorem pm_hand_in : ∀ w ∈ pm_hand.flatMap pm_mws, w ∈ pm_ws := pm_in_of [1500, 151, 1529, 151, 1550, 151, 1537, 151, 1588, 151, 1612, 151, 1604, 151, 1575, 151, 1709, 151, 1717, 151, 1273, 151, 1629, 151, 1732, 151, 1568, 151, 1445, 151, 1487, 151, 1725, 151] (by decide +kernel) (by decide +kernel)
def pm_cwh (y : Nat) : Jvm.Cond := .codeWith (pm_name y) (pm_code y) (pm_nL y) (pm_ret y) (pm_hr y)
set_option maxRecDepth 100000 in
theorem pm_cwh_in : ∀ w ∈ pm_hand.map pm_cwh, w ∈ pm_ws := pm_in_of [1501, 1530, 1551, 1538, 1589, 1613, 1605, 1576, 1710, 1718, 1274, 1630, 1733, 1569, 1446, 1488, 1726] rfl (by decide +kernel)
def pm_cl0 : List Nat := [0, 1, 2, 3, 4, 5, 6, 7, 8, 9, 10, 11, 12, 13, 14, 15, 16, 17, 18, 19, 20, 21, 22, 23, 24]
set_option maxRecDepth 100000 in
theorem pm_cl0_in : ∀ w ∈ pm_cl0.map pm_cw, w ∈ pm_ws := pm_in_of [413, 1165, 1174, 1178, 815, 1170, 811, 807, 1157, 580, 1424, 1412, 1376, 1352, 1271, 796, 479, 1201, 1192, 1197, 327, 387, 736, 779, 759] rfl (by decide +kernel)
def pm_cl1 : List Nat := [25, 26, 27, 28, 29, 30, 31, 32, 33, 34, 35, 36, 37, 38, 39, 40, 41, 42, 43, 44, 45, 46, 47, 48, 49]
set_option maxRecDepth 100000 in
theorem pm_cl1_in : ∀ w ∈ pm_cl1.map pm_cw, w ∈ pm_ws := pm_in_of [783, 768, 791, 755, 772, 800, 436, 1602, 1188, 1560, 1597, 1564, 1183, 197, 1428, 1404, 1384, 1420, 1364, 1436, 1283, 1372, 1400, 1408, 1356] rfl (by decide +kernel)
def pm_cl2 : List Nat := [50, 51, 52, 53, 54, 55, 56, 57, 58, 59, 60, 61, 62, 63, 64, 65, 66, 67, 68, 69, 70, 71, 72, 73, 74]
set_option maxRecDepth 100000 in
theorem pm_cl2_in : ∀ w ∈ pm_cl2.map pm_cw, w ∈ pm_ws := pm_in_of [1392, 1360, 1368, 1416, 1388, 1396, 1432, 1380, 1440, 522, 1687, 1667, 1695, 1703, 1651, 1699, 1655, 1675, 1663, 1671, 1659, 1691, 1644, 1679, 1683] rfl (by decide +kernel)
def pm_cl3 : List Nat := [75, 76, 77, 78, 79, 80, 81, 82, 83, 84, 85, 86, 87, 88, 89, 90, 91, 92, 93, 94, 95, 96, 97, 98, 99]
set_option maxRecDepth 100000 in
theorem pm_cl3_in : ∀ w ∈ pm_cl3.map pm_cw, w ∈ pm_ws := pm_in_of [1707, 586, 787, 203, 1343, 1292, 1305, 1347, 1339, 1287, 1296, 1300, 249, 740, 763, 1161, 751, 747, 189, 1506, 732, 1534, 1555, 1542, 1267] rfl (by decide +kernel)
def pm_cl4 : List Nat := [100, 101, 102, 103, 104, 105, 106, 107, 108, 109, 110, 111, 112, 113, 114, 115, 116, 117, 118, 119, 120, 121, 122, 123, 124]
set_option maxRecDepth 100000 in
theorem pm_cl4_in : ∀ w ∈ pm_cl4.map pm_cw, w ∈ pm_ws := pm_in_of [1259, 1263, 1251, 1593, 1617, 1609, 1580, 1546, 1638, 1621, 1626, 1584, 1510, 1456, 1496, 1714, 1722, 1279, 1634, 1737, 1573, 1452, 1255, 1492, 1730] rfl (by decide +kernel)
def pm_cl5 : List Nat := [125, 126, 127, 128, 129, 130, 131, 132, 133, 134, 135, 136, 137, 138, 139, 140, 141, 142, 143, 144, 145, 146, 147, 148, 149]
set_option maxRecDepth 100000 in
theorem pm_cl5_in : ∀ w ∈ pm_cl5.map pm_cw, w ∈ pm_ws := pm_in_of [1755, 2348, 1815, 1911, 2356, 1789, 1882, 2408, 1946, 1924, 1920, 2368, 2360, 1961, 1850, 1965, 1934, 2404, 2268, 1899, 1750, 2264, 2296, 1803, 2241] rfl (by decide +kernel)
def pm_cl6 : List Nat := [150, 151, 152, 153, 154, 155, 156, 157, 158, 159, 160, 161, 162, 163, 164, 165, 166, 167, 168, 169, 170, 171, 172, 173, 174]
set_option maxRecDepth 100000 in
theorem pm_cl6_in : ∀ w ∈ pm_cl6.map pm_cw, w ∈ pm_ws := pm_in_of [1746, 2300, 2412, 2396, 1781, 1878, 2288, 2252, 2336, 1793, 1997, 1993, 2384, 1811, 1799, 1985, 2304, 1827, 1831, 1777, 1870, 1916, 1846, 2372, 1981] rfl (by decide +kernel)
def pm_cl7 : List Nat := [175, 176, 177, 178, 179, 180, 181, 182, 183, 184, 185, 186, 187, 188, 189, 190, 191, 192, 193, 194, 195, 196, 197, 198, 199]
set_option maxRecDepth 100000 in
theorem pm_cl7_in : ∀ w ∈ pm_cl7.map pm_cw, w ∈ pm_ws := pm_in_of [2332, 2276, 1866, 2392, 1977, 1764, 1874, 1949, 2376, 2364, 2249, 2316, 2324, 1928, 1807, 1957, 1953, 1938, 1973, 1969, 1942, 1838, 2308, 1989, 2272] rfl (by decide +kernel)
def pm_cl8 : List Nat := [200, 201, 202, 203, 204, 205, 206, 207, 208, 209, 210, 211, 212, 213, 214, 215, 216, 217, 218, 219, 220, 221, 222, 223, 224]
set_option maxRecDepth 100000 in
theorem pm_cl8_in : ∀ w ∈ pm_cl8.map pm_cw, w ∈ pm_ws := pm_in_of [1907, 2312, 2284, 2237, 1760, 1895, 1862, 1768, 2245, 2260, 2328, 2400, 1858, 2292, 2380, 2388, 2340, 1823, 1903, 1819, 1886, 1773, 1854, 1742, 2256] rfl (by decide +kernel)
def pm_cl9 : List Nat := [225, 226, 227, 228, 229, 230, 231, 249, 250, 251]
set_option maxRecDepth 100000 in
theorem pm_cl9_in : ∀ w ∈ pm_cl9.map pm_cw, w ∈ pm_ws := pm_in_of [2351, 1891, 2280, 1842, 2344, 2320, 1785, 611, 820, 823] rfl (by decide +kernel)
theorem pm_cw_in {y : Nat} (hy : y ∈ pm_cl0 ++ pm_cl1 ++ pm_cl2 ++ pm_cl3 ++ pm_cl4 ++ pm_cl5 ++ pm_cl6 ++ pm_cl7 ++ pm_cl8 ++ pm_cl9) : pm_cw y ∈ pm_ws := by
  simp only [List.mem_append] at hy
  rcases hy with (((((((((hy | hy) | hy) | hy) | hy) | hy) | hy) | hy) | hy) | hy)
  · exact pm_cl0_in _ (List.mem_map.mpr ⟨y, hy, rfl⟩)
  · exact pm_cl1_in _ (List.mem_map.mpr ⟨y, hy, rfl⟩)
  · exact pm_cl2_in _ (List.mem_map.mpr ⟨y, hy, rfl⟩)
  · exact pm_cl3_in _ (List.mem_map.mpr ⟨y, hy, rfl⟩)
  · exact pm_cl4_in _ (List.mem_map.mpr ⟨y, hy, rfl⟩)
  · exact pm_cl5_in _ (List.mem_map.mpr ⟨y, hy, rfl⟩)
  · exact pm_cl6_in _ (List.mem_map.mpr ⟨y, hy, rfl⟩)
  · exact pm_cl7_in _ (List.mem_map.mpr ⟨y, hy, rfl⟩)
  · exact pm_cl8_in _ (List.mem_map.mpr ⟨y, hy, rfl⟩)
  · exact pm_cl9_in _ (List.mem_map.mpr ⟨y, hy, rfl⟩)
def pm_plain : List Nat := pm_cl0 ++ pm_cl1 ++ pm_cl2 ++ pm_cl3 ++ pm_cl4 ++ pm_cl5 ++ pm_cl6 ++ pm_cl7 ++ pm_cl8 ++ pm_cl9
def pm_vw (y : Nat) : List Jvm.Cond := [.selects (pm_name y).cls (pm_name y) (pm_name y)]
set_option maxRecDepth 100000 in
theorem pm_virt_in : ∀ w ∈ pm_virt.flatMap pm_vw, w ∈ pm_ws := pm_in_of [1164, 13, 14, 9, 12, 8, 806, 11, 1423, 1411, 1375, 1351, 1270, 795, 17, 1191, 16, 735, 4, 1, 5, 2, 6, 754, 3, 7, 51, 15, 1559, 1596, 49, 1182, 41, 37, 32, 40, 28, 43, 1282, 30, 36, 38, 26, 34, 27, 29, 39, 33, 35, 42, 31, 44, 64, 59, 66, 68, 55, 67, 56, 61, 58, 60, 57, 65, 1643, 62, 63, 69, 786, 24, 19, 22, 25, 23, 1286, 20, 21, 739, 762, 1160, 750, 746, 1505, 0, 1533, 1554, 1541, 1266, 1258, 1262, 1250, 1592, 1616, 1608, 1579, 48, 54, 52, 53, 50, 47, 45, 46, 1713, 1721, 1278, 1633, 1736, 1572, 1451, 18, 1491, 1729, 2347, 83, 106, 2355, 77, 99, 149, 114, 109, 108, 2367, 2359, 117, 91, 118, 111, 2403, 131, 103, 1749, 130, 138, 80, 2240, 1745, 139, 150, 2395, 75, 98, 136, 2335, 78, 126, 125, 147, 82, 79, 123, 140, 86, 87, 74, 96, 107, 90, 144, 122, 2331, 133, 95, 2391, 121, 71, 97, 145, 143, 127, 141, 142, 110, 81, 116, 115, 112, 120, 119, 113, 88, 2307, 124, 132, 105, 2311, 135, 2236, 70, 102, 94, 72, 2244, 129, 2327, 148, 93, 137, 146, 2387, 2339, 85, 104, 84, 100, 73, 92, 1741, 128, 101, 134, 89, 2343, 2319, 76] (by decide +kernel) (by decide +kernel)
def pm_mtw (e : (Nat × Nat) × (Nat × Nat)) : Jvm.Cond := match e.2.1 with
  | 0 | 1 | 2 | 10 => .methodLink (pm_cn e.1.1) e.1.2 (pm_name e.2.2)
  | 3 => .methodLinkNest (pm_cn e.1.1) e.1.2 (pm_name e.2.2) "RowProver"
  | 4 => .methodLink (pm_cn e.1.1) e.1.2 objectInit
  | 5 => .methodLink (pm_cn e.1.1) e.1.2 Lib.Math.max.name
  | 6 => .methodLink (pm_cn e.1.1) e.1.2 Lib.Math.min.name
  | 7 => .methodLink (pm_cn e.1.1) e.1.2 arraycopyName
  | 8 => .methodLink (pm_cn e.1.1) e.1.2 yJ0_length_8abf5
  | _ => .methodLink (pm_cn e.1.1) e.1.2 yJ0_charAt_5068e
set_option maxRecDepth 100000 in
theorem pm_mt_in0 : ∀ w ∈ (pm_mt_0.filter (fun e => !(e.2.1 == 3))).map pm_mtw, w ∈ pm_ws := pm_in_of [187, 190, 195, 198, 201, 204, 250, 328, 385, 388, 411, 414, 434, 437, 477, 480, 520, 523, 578, 581, 587, 609, 729, 733, 737, 741, 744, 748, 752, 756, 760, 764, 765, 769, 773, 776, 780, 784, 788, 792, 793, 797, 801, 804, 808, 812, 816, 818, 821, 938, 939, 1154, 1158, 1162, 1167, 1171, 1175, 1179, 1180, 1184, 1185, 1189, 1193, 1194, 1198, 1248, 1252, 1256, 1260, 1264, 1268, 1272, 1276, 1280, 1284, 1288, 1289] (by decide +kernel) (by decide +kernel)
set_option maxRecDepth 100000 in
theorem pm_mt_in1 : ∀ w ∈ (pm_mt_1.filter (fun e => !(e.2.1 == 3))).map pm_mtw, w ∈ pm_ws := pm_in_of [1293, 1297, 1302, 1306, 1307, 1336, 1340, 1344, 1348, 1349, 1353, 1357, 1361, 1365, 1369, 1373, 1377, 1381, 1385, 1389, 1393, 1397, 1401, 1405, 1409, 1413, 1417, 1421, 1425, 1429, 1433, 1437, 1444, 1449, 1453, 1486, 1489, 1493, 1499, 1503, 1507, 1528, 1531, 1536, 1539, 1543, 1549, 1552, 1557, 1561, 1565, 1566, 1567, 1570, 1574, 1577, 1581, 1587, 1590, 1594, 1598, 1599, 1603, 1606, 1611, 1614, 1618, 1623, 1628, 1631, 1635, 1641, 1645, 1646, 1647, 1648, 1652, 1656, 1660, 1664] (by decide +kernel) (by decide +kernel)
set_option maxRecDepth 100000 in
theorem pm_mt_in2 : ∀ w ∈ (pm_mt_2.filter (fun e => !(e.2.1 == 3))).map pm_mtw, w ∈ pm_ws := pm_in_of [1668, 1672, 1676, 1680, 1684, 1688, 1692, 1696, 1700, 1704, 1708, 1711, 1716, 1719, 1724, 1727, 1731, 1734, 1739, 1743, 1747, 1753, 1756, 1757, 1761, 1765, 1770, 1774, 1778, 1782, 1786, 1790, 1794, 1795, 1796, 1800, 1804, 1808, 1812, 1816, 1820, 1824, 1828, 1835, 1839, 1843, 1847, 1851, 1855, 1859, 1863, 1867, 1871, 1875, 1879, 1883, 1888, 1892, 1896, 1900, 1904, 1908, 1913, 1917, 1921, 1925, 1931, 1935, 1939, 1943, 1947, 1950, 1954, 1958, 1962, 1966, 1970, 1974, 1978, 1982] (by decide +kernel) (by decide +kernel)
set_option maxRecDepth 100000 in
theorem pm_mt_in3 : ∀ w ∈ (pm_mt_3.filter (fun e => !(e.2.1 == 3))).map pm_mtw, w ∈ pm_ws := pm_in_of [1986, 1990, 1994, 2234, 2238, 2242, 2246, 2250, 2253, 2257, 2261, 2265, 2269, 2273, 2277, 2281, 2285, 2289, 2293, 2297, 2301, 2305, 2309, 2313, 2317, 2321, 2325, 2329, 2333, 2337, 2341, 2345, 2349, 2353, 2357, 2361, 2365, 2369, 2373, 2377, 2381, 2385, 2389, 2393, 2397, 2401, 2405, 2409] (by decide +kernel) (by decide +kernel)
theorem pm_mt_in : ∀ w ∈ (pm_mt.filter (fun e => !(e.2.1 == 3))).map pm_mtw, w ∈ pm_ws := by
  unfold pm_mt
  simp only [List.filter_append, List.map_append, List.forall_mem_append]
  exact ⟨⟨⟨pm_mt_in0, pm_mt_in1⟩, pm_mt_in2⟩, pm_mt_in3⟩
set_option maxRecDepth 100000 in
theorem pm_mt_ok : pm_mt.all (fun e => match e.2.1 with | 0 => decide (e.2.2 ∈ pm_inst) && decide (e.2.2 ∈ pm_virt) && decide (e.2.2 < pm_N) | 1 | 3 => decide (e.2.2 ∈ pm_inst) && pm_ini e.2.2 && decide (e.2.2 < pm_N) | 2 => decide (e.2.2 ∈ pm_stat) && decide (e.2.2 < pm_N) | 10 => decide (e.2.2 ∈ pm_hand) && decide (e.2.2 < pm_N) | _ => true) = true := by decide +kernel
def pm_ntw (e : (Nat × Nat) × Nat) : List Jvm.Cond := [.classLink (pm_cn e.1.1) e.1.2 (pm_cn e.2), .instantiable (pm_cn e.2) (pm_df e.2).length, .initialized (pm_cn e.2)]
set_option maxRecDepth 100000 in
theorem pm_nt_in : ∀ w ∈ pm_nt.flatMap pm_ntw, w ∈ pm_ws := pm_in_of [185, 186, 152, 193, 194, 153, 199, 200, 154, 245, 246, 155, 323, 324, 156, 383, 384, 157, 409, 410, 158, 432, 433, 159, 475, 476, 160, 518, 519, 161, 576, 577, 162, 582, 583, 163, 1751, 1752, 182] (by decide +kernel) (by decide +kernel)
def pm_gtw (e : Nat × Nat) : Jvm.Cond := .classLink (pm_cn e.1) e.2 "[[I"
set_option maxRecDepth 100000 in
theorem pm_gt_in : ∀ w ∈ pm_gt.map pm_gtw, w ∈ pm_ws := pm_in_of [251, 329, 389, 415, 438, 524, 588] (by decide +kernel) (by decide +kernel)
def pm_itw (e : (Nat × Nat) × Int32) : Jvm.Cond := .constant (pm_cn e.1.1) e.1.2 e.2
set_option maxRecDepth 100000 in
theorem pm_it_in : ∀ w ∈ pm_it.map pm_itw, w ∈ pm_ws := pm_in_of [817, 1153, 1166, 1535, 1929, 1930, 2352] (by decide +kernel) (by decide +kernel)
def pm_ow : List Jvm.Cond := [.arrayClass .int, .arrayClass .byte, .arrayClass .boolean, .arrayClass .long, .instanceMethod objectInit, .code objectInit ⟨#[0xb1]⟩ 1 none, .static Lib.Math.max.name, .static Lib.Math.min.name, .initialized "java/lang/Math", .code Lib.Math.max.name Lib.Math.max.code 2 (some .int), .code Lib.Math.min.name Lib.Math.min.code 2 (some .int), .native arraycopyName, .static arraycopyName, .initialized "java/lang/System"]
set_option maxRecDepth 100000 in
theorem pm_ow_in : ∀ w ∈ pm_ow, w ∈ pm_ws := pm_in_of [227, 898, 2233, 2413, 191, 192, 802, 742, 165, 803, 743, 775, 774, 166] (by decide +kernel) (by decide +kernel)
