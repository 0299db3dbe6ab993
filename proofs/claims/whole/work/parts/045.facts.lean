def pm_ws : List Jvm.Cond := lw_tbl.filter goodWord
theorem pm_in_of {L : List Jvm.Cond} (ps : List Nat) (h : L = ps.filterMap (fun i => lw_tbl[i]?)) (hg : L.all goodWord = true) : ∀ w ∈ L, w ∈ pm_ws := by
  intro w hw
  refine List.mem_filter.mpr ⟨?_, List.all_eq_true.mp hg w hw⟩
  rw [h] at hw
  obtain ⟨i, -, hi⟩ := List.mem_filterMap.mp hw
  exact List.mem_of_getElem? hi
def pm_ftw (e : (Nat × Nat) × (Nat × Nat)) : Jvm.Cond := match vwCl[e.2.1]? with
  | some q => .fieldLink (pm_cn e.1.1) e.1.2 (pm_cn e.2.1) (q.2.1 e.2.2).2.1 (q.2.1 e.2.2).2.2.1
  | none => .count 0
set_option maxRecDepth 100000 in
theorem pm_ft_in0 : ∀ w ∈ pm_ft_0.map pm_ftw, w ∈ pm_ws := pm_in_of [206, 207, 208, 209, 210, 211, 212, 213, 214, 229, 230, 231, 232, 233, 234, 254, 255, 256, 257, 258, 259, 260, 261, 262, 263, 264, 265, 266, 267, 268, 269, 270, 271, 272, 273, 274, 275, 276, 277, 278, 279, 280, 281, 282, 283, 284, 285, 286, 287, 288, 289, 290, 291, 292, 293, 294, 295, 296, 297, 298, 331, 332, 333, 334, 335, 336, 337, 338, 339, 340, 341, 342, 343, 344, 345, 346, 347, 348, 349, 350] (by decide +kernel) (by decide +kernel)
set_option maxRecDepth 100000 in
theorem pm_ft_in1 : ∀ w ∈ pm_ft_1.map pm_ftw, w ∈ pm_ws := pm_in_of [351, 352, 353, 354, 355, 356, 357, 358, 359, 360, 361, 362, 363, 364, 391, 392, 393, 394, 395, 396, 417, 418, 419, 420, 421, 422, 423, 440, 441, 442, 443, 444, 445, 446, 447, 448, 449, 450, 451, 452, 453, 454, 482, 483, 484, 485, 486, 487, 488, 489, 490, 491, 492, 493, 494, 495, 496, 497, 498, 499, 526, 527, 528, 529, 530, 531, 532, 533, 534, 535, 536, 537, 538, 539, 540, 541, 542, 543, 544, 545] (by decide +kernel) (by decide +kernel)
set_option maxRecDepth 100000 in
theorem pm_ft_in2 : ∀ w ∈ pm_ft_2.map pm_ftw, w ∈ pm_ws := pm_in_of [590, 591, 592, 593, 594, 595, 596, 597, 598, 599, 600, 601, 602, 613, 614, 615, 616, 617, 618, 619, 620, 621, 622, 623, 624, 625, 626, 627, 628, 629, 630, 631, 632, 633, 634, 635, 636, 637, 638, 639, 640, 641, 642, 643, 644, 645, 646, 647, 648, 649, 650, 651, 652, 653, 654, 655, 656, 657, 658, 659, 660, 661, 662, 663, 664, 665, 666, 667, 668, 669, 670, 671, 672, 673, 674, 675, 676, 677, 678, 679] (by decide +kernel) (by decide +kernel)
set_option maxRecDepth 100000 in
theorem pm_ft_in3 : ∀ w ∈ pm_ft_3.map pm_ftw, w ∈ pm_ws := pm_in_of [680, 681, 682, 683, 684, 685, 686, 687, 688, 689, 690, 691, 1203, 1204, 1205, 1206, 1207, 1208, 1209, 1210, 1211, 1212, 1213, 1214, 1215, 1216, 1217, 1999, 2000, 2001, 2002, 2003, 2004, 2005, 2006, 2007, 2008, 2009, 2010, 2011, 2012, 2013, 2014, 2015, 2016, 2017, 2018, 2019, 2020, 2021, 2022, 2023, 2024, 2025, 2026, 2027, 2028, 2029, 2030, 2031, 2032, 2033, 2034, 2035, 2036, 2037, 2038, 2039, 2040, 2041, 2042, 2043, 2044, 2045, 2046, 2047, 2048, 2049, 2050, 2051] (by decide +kernel) (by decide +kernel)
set_option maxRecDepth 100000 in
theorem pm_ft_in4 : ∀ w ∈ pm_ft_4.map pm_ftw, w ∈ pm_ws := pm_in_of [2052, 2053, 2054, 2055, 2056, 2057, 2058, 2059, 2060, 2061, 2062, 2063, 2064, 2065, 2066, 2067, 2068, 2069, 2070, 2071, 2072, 2073, 2074, 2075, 2076] (by decide +kernel) (by decide +kernel)
theorem pm_ft_in : ∀ w ∈ pm_ft.map pm_ftw, w ∈ pm_ws := by
  unfold pm_ft
  simp only [List.map_append, List.forall_mem_append]
  exact ⟨⟨⟨⟨pm_ft_in0, pm_ft_in1⟩, pm_ft_in2⟩, pm_ft_in3⟩, pm_ft_in4⟩
set_option maxRecDepth 100000 in
theorem pm_ft_ok : pm_ft.all (fun e => match vwCl[e.2.1]? with | some q => decide (q.1 = pm_cn e.2.1) && decide (e.2.2 < q.2.2) && decide ((q.2.1 e.2.2).1 = pm_cn e.2.1) | none => false) = true := by decide +kernel
set_option maxRecDepth 100000 in
theorem pm_lay3 : ∀ w ∈ u_ws RX0 TX0 4, w ∈ pm_ws := pm_in_of [424, 426, 428, 430] (by decide +kernel) (by decide +kernel)
set_option maxRecDepth 100000 in
theorem pm_lay4 : ∀ w ∈ u_ws RX1 TX1 19, w ∈ pm_ws := pm_in_of [692, 694, 696, 698, 700, 702, 704, 706, 708, 710, 712, 714, 716, 718, 720, 722, 724, 726, 728] (by decide +kernel) (by decide +kernel)
set_option maxRecDepth 100000 in
theorem pm_lay5 : ∀ w ∈ u_ws RX2 TX2 9, w ∈ pm_ws := pm_in_of [500, 502, 504, 506, 508, 510, 512, 514, 516] (by decide +kernel) (by decide +kernel)
set_option maxRecDepth 100000 in
theorem pm_lay6 : ∀ w ∈ u_ws RX3 TX3 9, w ∈ pm_ws := pm_in_of [365, 367, 369, 371, 373, 375, 377, 379, 381] (by decide +kernel) (by decide +kernel)
set_option maxRecDepth 100000 in
theorem pm_lay7 : ∀ w ∈ u_ws RX4 TX4 6, w ∈ pm_ws := pm_in_of [397, 399, 401, 403, 405, 407] (by decide +kernel) (by decide +kernel)
set_option maxRecDepth 100000 in
theorem pm_lay8 : ∀ w ∈ u_ws RX5 TX5 10, w ∈ pm_ws := pm_in_of [455, 457, 459, 461, 463, 465, 467, 469, 471, 473] (by decide +kernel) (by decide +kernel)
set_option maxRecDepth 100000 in
theorem pm_lay9 : ∀ w ∈ u_ws RX6 TX6 5, w ∈ pm_ws := pm_in_of [235, 237, 239, 241, 243] (by decide +kernel) (by decide +kernel)
set_option maxRecDepth 100000 in
theorem pm_lay10 : ∀ w ∈ u_ws RX7 TX7 15, w ∈ pm_ws := pm_in_of [546, 548, 550, 552, 554, 556, 558, 560, 562, 564, 566, 568, 570, 572, 574] (by decide +kernel) (by decide +kernel)
set_option maxRecDepth 100000 in
theorem pm_lay11 : ∀ w ∈ u_ws RX8 TX8 3, w ∈ pm_ws := pm_in_of [603, 605, 607] (by decide +kernel) (by decide +kernel)
set_option maxRecDepth 100000 in
theorem pm_lay12 : ∀ w ∈ u_ws RX9 TX9 6, w ∈ pm_ws := pm_in_of [215, 217, 219, 221, 223, 225] (by decide +kernel) (by decide +kernel)
set_option maxRecDepth 100000 in
theorem pm_lay13 : ∀ w ∈ u_ws RX10 TX10 12, w ∈ pm_ws := pm_in_of [299, 301, 303, 305, 307, 309, 311, 313, 315, 317, 319, 321] (by decide +kernel) (by decide +kernel)
set_option maxRecDepth 100000 in
theorem pm_lay14 : ∀ w ∈ u_ws RX11 TX11 15, w ∈ pm_ws := pm_in_of [1218, 1220, 1222, 1224, 1226, 1228, 1230, 1232, 1234, 1236, 1238, 1240, 1242, 1244, 1246] (by decide +kernel) (by decide +kernel)
set_option maxRecDepth 100000 in
theorem pm_lay15 : ∀ w ∈ u_ws RX12 TX12 78, w ∈ pm_ws := pm_in_of [2077, 2079, 2081, 2083, 2085, 2087, 2089, 2091, 2093, 2095, 2097, 2099, 2101, 2103, 2105, 2107, 2109, 2111, 2113, 2115, 2117, 2119, 2121, 2123, 2125, 2127, 2129, 2131, 2133, 2135, 2137, 2139, 2141, 2143, 2145, 2147, 2149, 2151, 2153, 2155, 2157, 2159, 2161, 2163, 2165, 2167, 2169, 2171, 2173, 2175, 2177, 2179, 2181, 2183, 2185, 2187, 2189, 2191, 2193, 2195, 2197, 2199, 2201, 2203, 2205, 2207, 2209, 2211, 2213, 2215, 2217, 2219, 2221, 2223, 2225, 2227, 2229, 2231] (by decide +kernel) (by decide +kernel)
def pm_mw (y : Nat) : List Jvm.Cond := [.instanceMethod (pm_name y), .initialized (pm_name y).cls]
def pm_mws (y : Nat) : List Jvm.Cond := [.static (pm_name y), .initialized (pm_name y).cls]
def pm_cw (y : Nat) : Jvm.Cond := .code (pm_name y) (pm_code y) (pm_nL y) (pm_ret y)
def pm_inst : List Nat := [0, 1, 2, 3, 4, 5, 6, 7, 8, 9, 10, 11, 12, 13, 14, 15, 16, 17, 18, 19, 20, 21, 22, 23, 24, 25, 26, 27, 28, 29, 30, 31, 32, 33, 34, 35, 36, 37, 38, 39, 40, 41, 42, 43, 44, 45, 46, 47, 48, 49, 50, 51, 52, 53, 54, 55, 56, 57, 58, 59, 60, 61, 62, 63, 64, 65, 66, 67, 68, 69, 70, 71, 72, 73, 74, 75, 76, 77, 78, 79, 80, 81, 82, 83, 84, 85, 86, 87, 88, 89, 90, 91, 92, 93, 94, 95, 96, 97, 98, 99, 100, 101, 102, 103, 104, 105, 106, 107, 108, 109, 110, 111, 112, 113, 114, 115, 116, 117, 118, 119, 120, 121, 122, 123, 124, 125, 126, 127, 128, 129, 130, 131, 132, 133, 134, 135, 136, 137, 138, 139, 140, 141, 142, 143, 144, 145, 146, 147, 148, 149, 150, 151, 152, 153, 154, 155, 156, 158, 159, 160, 161, 162, 163, 164, 165, 166, 167, 168, 169, 170, 171, 172, 173, 174, 175, 176, 177, 178, 179, 180, 181, 183, 184, 185, 186, 187, 188, 189, 190, 191, 192, 193, 194, 195, 196, 197, 198, 199, 200, 201, 202, 203, 204, 205, 206, 207, 208, 209, 210, 211, 212, 213, 214, 215, 216, 217, 218, 219, 220, 221, 222, 223, 224, 226, 227, 228, 229, 230, 231]
def pm_stat : List Nat := [157, 182, 225, 249, 250, 251]
def pm_hand : List Nat := [232, 233, 234, 235, 236, 237, 238, 239, 240, 241, 242, 243, 244, 245, 246, 247, 248]
def pm_virt : List Nat := [1, 2, 3, 4, 5, 6, 7, 8, 10, 11, 12, 13, 14, 15, 17, 18, 19, 22, 23, 24, 25, 26, 27, 28, 29, 30, 32, 33, 34, 35, 36, 37, 39, 40, 41, 42, 43, 44, 45, 46, 47, 48, 49, 50, 51, 52, 53, 54, 55, 56, 57, 58, 60, 61, 62, 63, 64, 65, 66, 67, 68, 69, 70, 71, 72, 73, 74, 75, 77, 79, 80, 81, 82, 83, 84, 85, 86, 88, 89, 90, 91, 92, 94, 95, 96, 97, 98, 99, 100, 101, 102, 103, 104, 105, 106, 107, 108, 109, 110, 111, 112, 113, 114, 115, 116, 117, 118, 119, 120, 121, 122, 123, 124, 126, 127, 128, 129, 130, 131, 132, 133, 134, 135, 136, 137, 138, 139, 140, 141, 142, 143, 144, 145, 146, 147, 148, 149, 150, 151, 152, 153, 154, 155, 156, 158, 159, 160, 161, 162, 163, 164, 165, 166, 167, 168, 169, 170, 171, 172, 173, 174, 175, 176, 177, 178, 179, 180, 181, 183, 184, 185, 186, 187, 188, 189, 190, 191, 192, 193, 194, 195, 196, 197, 198, 199, 200, 201, 202, 203, 204, 205, 206, 207, 208, 209, 210, 211, 212, 213, 214, 215, 216, 217, 218, 219, 220, 221, 222, 223, 224, 226, 227, 228, 229, 230, 231]
set_option maxRecDepth 100000 in
theorem pm_inst_in : ∀ w ∈ pm_inst.flatMap pm_mw, w ∈ pm_ws := pm_in_of [413, 159, 1164, 159, 1174, 159, 1178, 159, 815, 159, 1170, 159, 811, 159, 806, 159, 1157, 159, 580, 163, 1423, 163, 1411, 163, 1375, 163, 1351, 163, 1270, 163, 795, 163, 479, 161, 1201, 161, 1191, 161, 1197, 161, 327, 157, 387, 158, 736, 158, 780, 158, 760, 158, 784, 158, 769, 158, 792, 158, 756, 158, 773, 158, 800, 158, 436, 160, 1602, 160, 1188, 160, 1559, 160, 1596, 160, 1564, 160, 1182, 160, 197, 154, 1428, 154, 1404, 154, 1384, 154, 1420, 154, 1364, 154, 1436, 154, 1282, 154, 1372, 154, 1400, 154, 1408, 154, 1356, 154, 1392, 154, 1360, 154, 1368, 154, 1416, 154, 1388, 154, 1396, 154, 1432, 154, 1380, 154, 1440, 154, 522, 162, 1687, 162, 1667, 162, 1695, 162, 1703, 162, 1651, 162, 1699, 162, 1655, 162, 1675, 162, 1663, 162, 1671, 162, 1659, 162, 1691, 162, 1643, 162, 1679, 162, 1683, 162, 1707, 162, 586, 164, 787, 164, 203, 155, 1343, 155, 1292, 155, 1305, 155, 1347, 155, 1339, 155, 1286, 155, 1296, 155, 1300, 155, 249, 156, 740, 156, 763, 156, 1160, 156, 751, 156, 747, 156, 189, 153, 1505, 153, 733, 153, 1533, 153, 1554, 153, 1541, 153, 1266, 153, 1258, 153, 1262, 153, 1250, 153, 1592, 153, 1616, 153, 1608, 153, 1579, 153, 1546, 153, 1638, 153, 1621, 153, 1626, 153, 1584, 153, 1510, 153, 1456, 153, 1496, 153, 1713, 153, 1721, 153, 1278, 153, 1633, 153, 1736, 153, 1572, 153, 1451, 153, 1255, 153, 1491, 153, 1729, 153, 1755, 183, 2347, 183, 1815, 183, 1911, 183, 2355, 183, 1789, 183, 1882, 183, 2408, 183, 1946, 183, 1924, 183, 1920, 183, 2367, 183, 2359, 183, 1961, 183, 1850, 183, 1965, 183, 1934, 183, 2403, 183, 2268, 183, 1899, 183, 1749, 183, 2264, 183, 2296, 183, 1803, 183, 2240, 183, 1745, 183, 2300, 183, 2412, 183, 2395, 183, 1781, 183, 1878, 183, 2288, 183, 2335, 183, 1793, 183, 1997, 183, 1993, 183, 2384, 183, 1811, 183, 1799, 183, 1985, 183, 2304, 183, 1827, 183, 1831, 183, 1777, 183, 1870, 183, 1916, 183, 1846, 183, 2372, 183, 1981, 183, 2331, 183, 2276, 183, 1866, 183, 2391, 183, 1977, 183, 1764, 183, 1874, 183, 2376, 183, 2364, 183, 2249, 183, 2316, 183, 2324, 183, 1928, 183, 1807, 183, 1957, 183, 1953, 183, 1938, 183, 1973, 183, 1969, 183, 1942, 183, 1838, 183, 2307, 183, 1989, 183, 2272, 183, 1907, 183, 2311, 183, 2284, 183, 2236, 183, 1760, 183, 1895, 183, 1862, 183, 1768, 183, 2244, 183, 2260, 183, 2327, 183, 2400, 183, 1858, 183, 2292, 183, 2380, 183, 2387, 183, 2339, 183, 1823, 183, 1903, 183, 1819, 183, 1886, 183, 1773, 183, 1854, 183, 1741, 183, 2256, 183, 1891, 183, 2280, 183, 1842, 183, 2343, 183, 2319, 183, 1785, 183] (by decide +kernel) (by decide +kernel)
set_option maxRecDepth 100000 in
theorem pm_stat_in : ∀ w ∈ pm_stat.flatMap pm_mws, w ∈ pm_ws := pm_in_of [2252, 183, 1949, 183, 2351, 183, 611, 165, 820, 165, 823, 165] (by decide +kernel) (by decide +kernel)
/-- the handlers as the class file has them: (start, end, handler, class) -/
def pm_hr (y : Nat) : List (Nat × Nat × Nat × Nat) := match y with
  | 232 => [(0, 10, 13, 19), (0, 10, 17, 29)]
  | 233 => [(0, 9, 12, 19)]
  | 234 => [(0, 12, 15, 19), (0, 12, 19, 29)]
  | 235 => [(0, 10, 13, 19), (0, 10, 17, 21)]
  | 236 => [(0, 9, 12, 19)]
  | 237 => [(0, 10, 13, 13)]
  | 238 => [(0, 10, 13, 19), (0, 10, 17, 13)]
  | 239 => [(0, 10, 13, 19), (0, 10, 17, 21)]
  | 240 => [(0, 10, 13, 13), (0, 10, 17, 21)]
  | 241 => [(0, 12, 15, 19), (0, 12, 19, 13), (0, 12, 23, 21)]
  | 242 => [(0, 8, 11, 13)]
  | 243 => [(0, 10, 13, 13), (0, 10, 17, 21)]
  | 244 => [(0, 14, 17, 13)]
  | 245 => [(0, 10, 13, 19)]
  | 246 => [(0, 10, 13, 19), (0, 10, 17, 21)]
  | 247 => [(0, 10, 13, 19), (0, 10, 17, 21)]
  | 248 => [(0, 10, 13, 19), (0, 10, 17, 13)]
  | _ => []
set_option maxRecDepth 100000 in
theorem pm_hand_in : ∀ w ∈ pm_hand.flatMap pm_mws, w ∈ pm_ws := pm_in_of [1501, 152, 1530, 152, 1551, 152, 1538, 152, 1589, 152, 1613, 152, 1605, 152, 1576, 152, 1710, 152, 1718, 152, 1274, 152, 1630, 152, 1733, 152, 1569, 152, 1446, 152, 1488, 152, 1726, 152] (by decide +kernel) (by decide +kernel)
def pm_cwh (y : Nat) : Jvm.Cond := .codeWith (pm_name y) (pm_code y) (pm_nL y) (pm_ret y) (pm_hr y)
set_option maxRecDepth 100000 in
theorem pm_cwh_in : ∀ w ∈ pm_hand.map pm_cwh, w ∈ pm_ws := pm_in_of [1502, 1531, 1552, 1539, 1590, 1614, 1606, 1577, 1711, 1719, 1275, 1631, 1734, 1570, 1447, 1489, 1727] rfl (by decide +kernel)
def pm_cl0 : List Nat := [0, 1, 2, 3, 4, 5, 6, 7, 8, 9, 10, 11, 12, 13, 14, 15, 16, 17, 18, 19, 20, 21, 22, 23, 24]
set_option maxRecDepth 100000 in
theorem pm_cl0_in : ∀ w ∈ pm_cl0.map pm_cw, w ∈ pm_ws := pm_in_of [414, 1166, 1175, 1179, 816, 1171, 812, 808, 1158, 581, 1425, 1413, 1377, 1353, 1272, 797, 480, 1202, 1193, 1198, 328, 388, 738, 781, 761] rfl (by decide +kernel)
def pm_cl1 : List Nat := [25, 26, 27, 28, 29, 30, 31, 32, 33, 34, 35, 36, 37, 38, 39, 40, 41, 42, 43, 44, 45, 46, 47, 48, 49]
set_option maxRecDepth 100000 in
theorem pm_cl1_in : ∀ w ∈ pm_cl1.map pm_cw, w ∈ pm_ws := pm_in_of [785, 770, 793, 757, 774, 801, 437, 1603, 1189, 1561, 1598, 1565, 1184, 198, 1429, 1405, 1385, 1421, 1365, 1437, 1284, 1373, 1401, 1409, 1357] rfl (by decide +kernel)
def pm_cl2 : List Nat := [50, 51, 52, 53, 54, 55, 56, 57, 58, 59, 60, 61, 62, 63, 64, 65, 66, 67, 68, 69, 70, 71, 72, 73, 74]
set_option maxRecDepth 100000 in
theorem pm_cl2_in : ∀ w ∈ pm_cl2.map pm_cw, w ∈ pm_ws := pm_in_of [1393, 1361, 1369, 1417, 1389, 1397, 1433, 1381, 1441, 523, 1688, 1668, 1696, 1704, 1652, 1700, 1656, 1676, 1664, 1672, 1660, 1692, 1645, 1680, 1684] rfl (by decide +kernel)
def pm_cl3 : List Nat := [75, 76, 77, 78, 79, 80, 81, 82, 83, 84, 85, 86, 87, 88, 89, 90, 91, 92, 93, 94, 95, 96, 97, 98, 99]
set_option maxRecDepth 100000 in
theorem pm_cl3_in : ∀ w ∈ pm_cl3.map pm_cw, w ∈ pm_ws := pm_in_of [1708, 587, 789, 204, 1344, 1293, 1306, 1348, 1340, 1288, 1297, 1301, 250, 742, 765, 1162, 753, 749, 190, 1507, 734, 1535, 1556, 1543, 1268] rfl (by decide +kernel)
def pm_cl4 : List Nat := [100, 101, 102, 103, 104, 105, 106, 107, 108, 109, 110, 111, 112, 113, 114, 115, 116, 117, 118, 119, 120, 121, 122, 123, 124]
set_option maxRecDepth 100000 in
theorem pm_cl4_in : ∀ w ∈ pm_cl4.map pm_cw, w ∈ pm_ws := pm_in_of [1260, 1264, 1252, 1594, 1618, 1610, 1581, 1547, 1639, 1622, 1627, 1585, 1511, 1457, 1497, 1715, 1723, 1280, 1635, 1738, 1574, 1453, 1256, 1493, 1731] rfl (by decide +kernel)
def pm_cl5 : List Nat := [125, 126, 127, 128, 129, 130, 131, 132, 133, 134, 135, 136, 137, 138, 139, 140, 141, 142, 143, 144, 145, 146, 147, 148, 149]
set_option maxRecDepth 100000 in
theorem pm_cl5_in : ∀ w ∈ pm_cl5.map pm_cw, w ∈ pm_ws := pm_in_of [1756, 2349, 1816, 1912, 2357, 1790, 1883, 2409, 1947, 1925, 1921, 2369, 2361, 1962, 1851, 1966, 1935, 2405, 2269, 1900, 1751, 2265, 2297, 1804, 2242] rfl (by decide +kernel)
def pm_cl6 : List Nat := [150, 151, 152, 153, 154, 155, 156, 157, 158, 159, 160, 161, 162, 163, 164, 165, 166, 167, 168, 169, 170, 171, 172, 173, 174]
set_option maxRecDepth 100000 in
theorem pm_cl6_in : ∀ w ∈ pm_cl6.map pm_cw, w ∈ pm_ws := pm_in_of [1747, 2301, 2413, 2397, 1782, 1879, 2289, 2253, 2337, 1794, 1998, 1994, 2385, 1812, 1800, 1986, 2305, 1828, 1832, 1778, 1871, 1917, 1847, 2373, 1982] rfl (by decide +kernel)
def pm_cl7 : List Nat := [175, 176, 177, 178, 179, 180, 181, 182, 183, 184, 185, 186, 187, 188, 189, 190, 191, 192, 193, 194, 195, 196, 197, 198, 199]
set_option maxRecDepth 100000 in
theorem pm_cl7_in : ∀ w ∈ pm_cl7.map pm_cw, w ∈ pm_ws := pm_in_of [2333, 2277, 1867, 2393, 1978, 1765, 1875, 1950, 2377, 2365, 2250, 2317, 2325, 1929, 1808, 1958, 1954, 1939, 1974, 1970, 1943, 1839, 2309, 1990, 2273] rfl (by decide +kernel)
def pm_cl8 : List Nat := [200, 201, 202, 203, 204, 205, 206, 207, 208, 209, 210, 211, 212, 213, 214, 215, 216, 217, 218, 219, 220, 221, 222, 223, 224]
set_option maxRecDepth 100000 in
theorem pm_cl8_in : ∀ w ∈ pm_cl8.map pm_cw, w ∈ pm_ws := pm_in_of [1908, 2313, 2285, 2238, 1761, 1896, 1863, 1769, 2246, 2261, 2329, 2401, 1859, 2293, 2381, 2389, 2341, 1824, 1904, 1820, 1887, 1774, 1855, 1743, 2257] rfl (by decide +kernel)
def pm_cl9 : List Nat := [225, 226, 227, 228, 229, 230, 231, 249, 250, 251]
set_option maxRecDepth 100000 in
theorem pm_cl9_in : ∀ w ∈ pm_cl9.map pm_cw, w ∈ pm_ws := pm_in_of [2352, 1892, 2281, 1843, 2345, 2321, 1786, 612, 821, 824] rfl (by decide +kernel)
theorem pm_cw_in {y : Nat} (hy : y ∈ pm_cl0 ++ pm_cl1 ++ pm_cl2 ++ pm_cl3 ++ pm_cl4 ++ pm_cl5 ++ pm_cl6 ++ pm_cl7 ++ pm_cl8 ++ pm_cl9) : pm_cw y ∈ pm_ws := by
  simp only [List.mem_append] at hy
  rcases hy with (((((((((hy | hy) | hy) | hy) | hy) | hy) | hy) | hy) | hy) | hy)
  · exact pm_cl0_in _ (List.mem_map.mpr ⟨y, hy, rfl⟩)
  · exact pm_cl1_in _ (List.mem_map.mpr ⟨y, hy, rfl⟩)
  · exact pm_cl2_in _ (List.mem_map.mpr ⟨y, hy, rfl⟩)
  · exact pm_cl3_in _ (List.mem_map.mpr ⟨y, hy, rfl⟩)
  · exact pm_cl4_in _ (List.mem_map.mpr ⟨y, hy, rfl⟩)
  · exact pm_cl5_in _ (List.mem_map.mpr ⟨y, hy, rfl⟩)
  · exact pm_cl6_in _ (List.mem_map.mpr ⟨y, hy, rfl⟩)
  · exact pm_cl7_in _ (List.mem_map.mpr ⟨y, hy, rfl⟩)
  · exact pm_cl8_in _ (List.mem_map.mpr ⟨y, hy, rfl⟩)
  · exact pm_cl9_in _ (List.mem_map.mpr ⟨y, hy, rfl⟩)
def pm_plain : List Nat := pm_cl0 ++ pm_cl1 ++ pm_cl2 ++ pm_cl3 ++ pm_cl4 ++ pm_cl5 ++ pm_cl6 ++ pm_cl7 ++ pm_cl8 ++ pm_cl9
def pm_vw (y : Nat) : List Jvm.Cond := [.selects (pm_name y).cls (pm_name y) (pm_name y)]
set_option maxRecDepth 100000 in
theorem pm_virt_in : ∀ w ∈ pm_virt.flatMap pm_vw, w ∈ pm_ws := pm_in_of [1165, 14, 15, 10, 13, 9, 807, 12, 1424, 1412, 1376, 1352, 1271, 796, 18, 1192, 17, 737, 5, 2, 6, 3, 7, 1, 4, 8, 52, 16, 1560, 1597, 50, 1183, 42, 38, 33, 41, 29, 44, 1283, 31, 37, 39, 27, 35, 28, 30, 40, 34, 36, 43, 32, 45, 65, 60, 67, 69, 56, 68, 57, 62, 59, 61, 58, 66, 1644, 63, 64, 70, 788, 25, 20, 23, 26, 24, 1287, 21, 22, 741, 764, 1161, 752, 748, 1506, 0, 1534, 1555, 1542, 1267, 1259, 1263, 1251, 1593, 1617, 1609, 1580, 49, 55, 53, 54, 51, 48, 46, 47, 1714, 1722, 1279, 1634, 1737, 1573, 1452, 19, 1492, 1730, 2348, 84, 107, 2356, 78, 100, 150, 115, 110, 109, 2368, 2360, 118, 92, 119, 112, 2404, 132, 104, 1750, 131, 139, 81, 2241, 1746, 140, 151, 2396, 76, 99, 137, 2336, 79, 127, 126, 148, 83, 80, 124, 141, 87, 88, 75, 97, 108, 91, 145, 123, 2332, 134, 96, 2392, 122, 72, 98, 146, 144, 128, 142, 143, 111, 82, 117, 116, 113, 121, 120, 114, 89, 2308, 125, 133, 106, 2312, 136, 2237, 71, 103, 95, 73, 2245, 130, 2328, 149, 94, 138, 147, 2388, 2340, 86, 105, 85, 101, 74, 93, 1742, 129, 102, 135, 90, 2344, 2320, 77] (by decide +kernel) (by decide +kernel)
def pm_mtw (e : (Nat × Nat) × (Nat × Nat)) : Jvm.Cond := match e.2.1 with
  | 0 | 1 | 2 | 10 => .methodLink (pm_cn e.1.1) e.1.2 (pm_name e.2.2)
  | 3 => .methodLinkNest (pm_cn e.1.1) e.1.2 (pm_name e.2.2) "RowProver"
  | 4 => .methodLink (pm_cn e.1.1) e.1.2 objectInit
  | 5 => .methodLink (pm_cn e.1.1) e.1.2 Lib.Math.max.name
  | 6 => .methodLink (pm_cn e.1.1) e.1.2 Lib.Math.min.name
  | 7 => .methodLink (pm_cn e.1.1) e.1.2 arraycopyName
  | 8 => .methodLink (pm_cn e.1.1) e.1.2 yJ0_length_8abf5
  | _ => .methodLink (pm_cn e.1.1) e.1.2 yJ0_charAt_5068e
set_option maxRecDepth 100000 in
theorem pm_mt_in0 : ∀ w ∈ (pm_mt_0.filter (fun e => !(e.2.1 == 3))).map pm_mtw, w ∈ pm_ws := pm_in_of [188, 191, 196, 199, 202, 205, 251, 329, 386, 389, 412, 415, 435, 438, 478, 481, 521, 524, 579, 582, 588, 610, 731, 735, 739, 743, 746, 750, 754, 758, 762, 766, 767, 771, 775, 778, 782, 786, 790, 794, 798, 802, 805, 809, 813, 817, 819, 822, 939, 940, 1155, 1159, 1163, 1168, 1172, 1176, 1180, 1181, 1185, 1186, 1190, 1194, 1195, 1199, 1249, 1253, 1257, 1261, 1265, 1269, 1273, 1277, 1281, 1285, 1289, 1290, 1294] (by decide +kernel) (by decide +kernel)
set_option maxRecDepth 100000 in
theorem pm_mt_in1 : ∀ w ∈ (pm_mt_1.filter (fun e => !(e.2.1 == 3))).map pm_mtw, w ∈ pm_ws := pm_in_of [1298, 1303, 1307, 1308, 1337, 1341, 1345, 1349, 1350, 1354, 1358, 1362, 1366, 1370, 1374, 1378, 1382, 1386, 1390, 1394, 1398, 1402, 1406, 1410, 1414, 1418, 1422, 1426, 1430, 1434, 1438, 1445, 1450, 1454, 1487, 1490, 1494, 1500, 1504, 1508, 1529, 1532, 1537, 1540, 1544, 1550, 1553, 1558, 1562, 1566, 1567, 1568, 1571, 1575, 1578, 1582, 1588, 1591, 1595, 1599, 1600, 1604, 1607, 1612, 1615, 1619, 1624, 1629, 1632, 1636, 1642, 1646, 1647, 1648, 1649, 1653, 1657, 1661, 1665, 1669] (by decide +kernel) (by decide +kernel)
set_option maxRecDepth 100000 in
theorem pm_mt_in2 : ∀ w ∈ (pm_mt_2.filter (fun e => !(e.2.1 == 3))).map pm_mtw, w ∈ pm_ws := pm_in_of [1673, 1677, 1681, 1685, 1689, 1693, 1697, 1701, 1705, 1709, 1712, 1717, 1720, 1725, 1728, 1732, 1735, 1740, 1744, 1748, 1754, 1757, 1758, 1762, 1766, 1771, 1775, 1779, 1783, 1787, 1791, 1795, 1796, 1797, 1801, 1805, 1809, 1813, 1817, 1821, 1825, 1829, 1836, 1840, 1844, 1848, 1852, 1856, 1860, 1864, 1868, 1872, 1876, 1880, 1884, 1889, 1893, 1897, 1901, 1905, 1909, 1914, 1918, 1922, 1926, 1932, 1936, 1940, 1944, 1948, 1951, 1955, 1959, 1963, 1967, 1971, 1975, 1979, 1983, 1987] (by decide +kernel) (by decide +kernel)
set_option maxRecDepth 100000 in
theorem pm_mt_in3 : ∀ w ∈ (pm_mt_3.filter (fun e => !(e.2.1 == 3))).map pm_mtw, w ∈ pm_ws := pm_in_of [1991, 1995, 2235, 2239, 2243, 2247, 2251, 2254, 2258, 2262, 2266, 2270, 2274, 2278, 2282, 2286, 2290, 2294, 2298, 2302, 2306, 2310, 2314, 2318, 2322, 2326, 2330, 2334, 2338, 2342, 2346, 2350, 2354, 2358, 2362, 2366, 2370, 2374, 2378, 2382, 2386, 2390, 2394, 2398, 2402, 2406, 2410] (by decide +kernel) (by decide +kernel)
theorem pm_mt_in : ∀ w ∈ (pm_mt.filter (fun e => !(e.2.1 == 3))).map pm_mtw, w ∈ pm_ws := by
  unfold pm_mt
  simp only [List.filter_append, List.map_append, List.forall_mem_append]
  exact ⟨⟨⟨pm_mt_in0, pm_mt_in1⟩, pm_mt_in2⟩, pm_mt_in3⟩
set_option maxRecDepth 100000 in
theorem pm_mt_ok : pm_mt.all (fun e => match e.2.1 with | 0 => decide (e.2.2 ∈ pm_inst) && decide (e.2.2 ∈ pm_virt) && decide (e.2.2 < pm_N) | 1 | 3 => decide (e.2.2 ∈ pm_inst) && pm_ini e.2.2 && decide (e.2.2 < pm_N) | 2 => decide (e.2.2 ∈ pm_stat) && decide (e.2.2 < pm_N) | 10 => decide (e.2.2 ∈ pm_hand) && decide (e.2.2 < pm_N) | _ => true) = true := by decide +kernel
def pm_ntw (e : (Nat × Nat) × Nat) : List Jvm.Cond := [.classLink (pm_cn e.1.1) e.1.2 (pm_cn e.2), .instantiable (pm_cn e.2) (pm_df e.2).length, .initialized (pm_cn e.2)]
set_option maxRecDepth 100000 in
theorem pm_nt_in : ∀ w ∈ pm_nt.flatMap pm_ntw, w ∈ pm_ws := pm_in_of [186, 187, 153, 194, 195, 154, 200, 201, 155, 246, 247, 156, 324, 325, 157, 384, 385, 158, 410, 411, 159, 433, 434, 160, 476, 477, 161, 519, 520, 162, 577, 578, 163, 583, 584, 164, 1752, 1753, 183] (by decide +kernel) (by decide +kernel)
def pm_gtw (e : Nat × Nat) : Jvm.Cond := .classLink (pm_cn e.1) e.2 "[[I"
set_option maxRecDepth 100000 in
theorem pm_gt_in : ∀ w ∈ pm_gt.map pm_gtw, w ∈ pm_ws := pm_in_of [252, 330, 390, 416, 439, 525, 589] (by decide +kernel) (by decide +kernel)
def pm_itw (e : (Nat × Nat) × Int32) : Jvm.Cond := .constant (pm_cn e.1.1) e.1.2 e.2
set_option maxRecDepth 100000 in
theorem pm_it_in : ∀ w ∈ pm_it.map pm_itw, w ∈ pm_ws := pm_in_of [818, 1154, 1167, 1536, 1930, 1931, 2353] (by decide +kernel) (by decide +kernel)
def pm_ow : List Jvm.Cond := [.arrayClass .int, .arrayClass .byte, .arrayClass .boolean, .arrayClass .long, .instanceMethod objectInit, .code objectInit ⟨#[0xb1]⟩ 1 none, .static Lib.Math.max.name, .static Lib.Math.min.name, .initialized "java/lang/Math", .code Lib.Math.max.name Lib.Math.max.code 2 (some .int), .code Lib.Math.min.name Lib.Math.min.code 2 (some .int), .native arraycopyName, .static arraycopyName, .initialized "java/lang/System"]
set_option maxRecDepth 100000 in
theorem pm_ow_in : ∀ w ∈ pm_ow, w ∈ pm_ws := pm_in_of [228, 899, 2234, 2414, 192, 193, 803, 744, 166, 804, 745, 777, 776, 167] (by decide +kernel) (by decide +kernel)
