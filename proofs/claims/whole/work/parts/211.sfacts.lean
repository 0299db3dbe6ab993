theorem sx_tin {T : List Jvm.Cond} {L : List Jvm.Cond} (ps : List Nat) (h : L = ps.filterMap (fun i => T[i]?)) : ∀ w ∈ L, w ∈ T := by
  intro w hw
  rw [h] at hw
  obtain ⟨i, -, hi⟩ := List.mem_filterMap.mp hw
  exact List.mem_of_getElem? hi
def sx_prs : List (Nat × Nat) := [(0, 1), (0, 2), (0, 3), (1, 0), (1, 2), (1, 3), (2, 0), (2, 1), (2, 3), (3, 0), (3, 1), (3, 2)]
theorem sx_prs_ok : ∀ i, i < 4 → ∀ j, j < 4 → i ≠ j → (i, j) ∈ sx_prs := by
  intro i hi j hj hij
  simp [sx_prs]
  omega
set_option maxRecDepth 100000 in
theorem sx_ncs : ∀ w ∈ sx_prs.map (fun q => Jvm.Cond.not (.castable (pm_xn.getD q.1 "") (pm_xn.getD q.2 ""))), w ∈ flatC narrow_1 := sx_tin [246, 264, 283, 231, 269, 288, 232, 250, 289, 233, 251, 270] (by decide +kernel)
def sx_xs : List (Nat × String) := [(120, "the text is wrong"), (312, "no such statement"), (148, "no such what of a statement"), (315, "no such version"), (167, "no such what of a version"), (321, "no such row"), (177, "the row was not told"), (317, "no such check"), (212, "no such what of a check"), (214, "the part is not shown"), (319, "no such loop"), (235, "no such what of a loop"), (241, "no length of a row"), (325, "no such input"), (327, "no number of an input"), (323, "no way to run"), (252, "no such what of a run"), (261, "nothing was out so"), (269, "no such place"), (277, "no such span of an input")]
theorem sx_xs_eq : sx_xs.map (·.1) = pm_xm := by decide +kernel
set_option maxRecDepth 100000 in
theorem sx_xs_in : ∀ w ∈ sx_xs.map (fun e => Jvm.Cond.stringRef RX11 e.1 e.2), w ∈ lw_tbl := sx_tin [1443, 1467, 1480, 1498, 1499, 1512, 1522, 1548, 1549, 1557, 1586, 1587, 1611, 1623, 1628, 1640, 1641, 1716, 1724, 1739] (by decide +kernel)
set_option maxRecDepth 100000 in
theorem sx_xs_ex : ∀ w ∈ sx_xs.map (fun e => Jvm.Cond.exactly (.string RX11 e.1) "java/lang/String"), w ∈ flatC narrow_1 := sx_tin [407, 428, 449, 480, 499, 528, 543, 567, 584, 611, 636, 652, 678, 700, 717, 742, 759, 784, 806, 823] (by decide +kernel)
def sx_st (j : Nat) : Nat × Nat := pm_st.getD j (0, 0)
def sx_tt (j : Nat) : Term := .string (pm_cn (sx_st j).1) (sx_st j).2
def sx_tv (j : Nat) : Term := .field (sx_tt j) "java/lang/String" "value" "[B"
set_option maxRecDepth 100000 in
theorem sx_st_in : ∀ w ∈ (List.range 12).map (fun j => Jvm.Cond.stringRef (pm_cn (sx_st j).1) (sx_st j).2 (sx_tn.getD j "")), w ∈ lw_tbl := sx_tin [1302, 1332, 1333, 1334, 1335, 1336, 1770, 1833, 1834, 1835, 1888, 1913] (by decide +kernel)
set_option maxRecDepth 100000 in
theorem sx_st_n1 : ∀ w ∈ (List.range 12).map (fun j => Jvm.Cond.exactly (sx_tt j) "java/lang/String"), w ∈ flatC narrow_1 := sx_tin [362, 371, 378, 384, 392, 401, 851, 861, 869, 876, 886, 895] (by decide +kernel)
set_option maxRecDepth 100000 in
theorem sx_st_n2 : ∀ w ∈ (List.range 12).map (fun j => Jvm.Cond.eq (.field (sx_tt j) "java/lang/String" "coder" "B") (.int 0)), w ∈ flatC narrow_1 := sx_tin [363, 372, 379, 385, 393, 402, 852, 862, 870, 877, 887, 896] (by decide +kernel)
set_option maxRecDepth 100000 in
theorem sx_st_n3 : ∀ w ∈ (List.range 12).map (fun j => Jvm.Cond.arrayOf (sx_tv j) .byte), w ∈ flatC narrow_1 := sx_tin [364, 373, 380, 386, 394, 403, 853, 863, 871, 878, 888, 897] (by decide +kernel)
set_option maxRecDepth 100000 in
theorem sx_st_n4 : ∀ w ∈ (List.range 12).map (fun j => Jvm.Cond.eq (.length (sx_tv j)) (.int (Int32.ofNat (pm_tx.getD j []).length))), w ∈ flatC narrow_1 := sx_tin [365, 374, 381, 387, 395, 404, 854, 864, 872, 879, 889, 898] (by decide +kernel)
set_option maxRecDepth 100000 in
theorem sx_st_e0 : ∀ w ∈ (List.range 5).map (fun k => Jvm.Cond.eq (.elem (sx_tv 0) (.int (Int32.ofNat k))) (.int (nI ((pm_tx.getD 0 []).getD k 0)))), w ∈ flatC narrow_1 := sx_tin [366, 367, 368, 369, 370] (by decide +kernel)
set_option maxRecDepth 100000 in
theorem sx_st_e1 : ∀ w ∈ (List.range 3).map (fun k => Jvm.Cond.eq (.elem (sx_tv 1) (.int (Int32.ofNat k))) (.int (nI ((pm_tx.getD 1 []).getD k 0)))), w ∈ flatC narrow_1 := sx_tin [375, 376, 377] (by decide +kernel)
set_option maxRecDepth 100000 in
theorem sx_st_e2 : ∀ w ∈ (List.range 2).map (fun k => Jvm.Cond.eq (.elem (sx_tv 2) (.int (Int32.ofNat k))) (.int (nI ((pm_tx.getD 2 []).getD k 0)))), w ∈ flatC narrow_1 := sx_tin [382, 383] (by decide +kernel)
set_option maxRecDepth 100000 in
theorem sx_st_e3 : ∀ w ∈ (List.range 4).map (fun k => Jvm.Cond.eq (.elem (sx_tv 3) (.int (Int32.ofNat k))) (.int (nI ((pm_tx.getD 3 []).getD k 0)))), w ∈ flatC narrow_1 := sx_tin [388, 389, 390, 391] (by decide +kernel)
set_option maxRecDepth 100000 in
theorem sx_st_e4 : ∀ w ∈ (List.range 5).map (fun k => Jvm.Cond.eq (.elem (sx_tv 4) (.int (Int32.ofNat k))) (.int (nI ((pm_tx.getD 4 []).getD k 0)))), w ∈ flatC narrow_1 := sx_tin [396, 397, 398, 399, 400] (by decide +kernel)
set_option maxRecDepth 100000 in
theorem sx_st_e5 : ∀ w ∈ (List.range 2).map (fun k => Jvm.Cond.eq (.elem (sx_tv 5) (.int (Int32.ofNat k))) (.int (nI ((pm_tx.getD 5 []).getD k 0)))), w ∈ flatC narrow_1 := sx_tin [405, 406] (by decide +kernel)
set_option maxRecDepth 100000 in
theorem sx_st_e6 : ∀ w ∈ (List.range 5).map (fun k => Jvm.Cond.eq (.elem (sx_tv 6) (.int (Int32.ofNat k))) (.int (nI ((pm_tx.getD 6 []).getD k 0)))), w ∈ flatC narrow_1 := sx_tin [855, 856, 857, 858, 859] (by decide +kernel)
set_option maxRecDepth 100000 in
theorem sx_st_e7 : ∀ w ∈ (List.range 3).map (fun k => Jvm.Cond.eq (.elem (sx_tv 7) (.int (Int32.ofNat k))) (.int (nI ((pm_tx.getD 7 []).getD k 0)))), w ∈ flatC narrow_1 := sx_tin [865, 866, 867] (by decide +kernel)
set_option maxRecDepth 100000 in
theorem sx_st_e8 : ∀ w ∈ (List.range 2).map (fun k => Jvm.Cond.eq (.elem (sx_tv 8) (.int (Int32.ofNat k))) (.int (nI ((pm_tx.getD 8 []).getD k 0)))), w ∈ flatC narrow_1 := sx_tin [873, 874] (by decide +kernel)
set_option maxRecDepth 100000 in
theorem sx_st_e9 : ∀ w ∈ (List.range 5).map (fun k => Jvm.Cond.eq (.elem (sx_tv 9) (.int (Int32.ofNat k))) (.int (nI ((pm_tx.getD 9 []).getD k 0)))), w ∈ flatC narrow_1 := sx_tin [880, 881, 882, 883, 884] (by decide +kernel)
set_option maxRecDepth 100000 in
theorem sx_st_e10 : ∀ w ∈ (List.range 4).map (fun k => Jvm.Cond.eq (.elem (sx_tv 10) (.int (Int32.ofNat k))) (.int (nI ((pm_tx.getD 10 []).getD k 0)))), w ∈ flatC narrow_1 := sx_tin [890, 891, 892, 893] (by decide +kernel)
set_option maxRecDepth 100000 in
theorem sx_st_e11 : ∀ w ∈ (List.range 2).map (fun k => Jvm.Cond.eq (.elem (sx_tv 11) (.int (Int32.ofNat k))) (.int (nI ((pm_tx.getD 11 []).getD k 0)))), w ∈ flatC narrow_1 := sx_tin [899, 900] (by decide +kernel)
theorem sx_st_el : ∀ j, j < 12 → ∀ k, k < (pm_tx.getD j []).length → Jvm.Cond.eq (.elem (sx_tv j) (.int (Int32.ofNat k))) (.int (nI ((pm_tx.getD j []).getD k 0))) ∈ flatC narrow_1 := by
  intro j hj k hk
  match j, hj with
  | 0, _ => exact sx_st_e0 _ (List.mem_map.mpr ⟨k, List.mem_range.mpr hk, rfl⟩)
  | 1, _ => exact sx_st_e1 _ (List.mem_map.mpr ⟨k, List.mem_range.mpr hk, rfl⟩)
  | 2, _ => exact sx_st_e2 _ (List.mem_map.mpr ⟨k, List.mem_range.mpr hk, rfl⟩)
  | 3, _ => exact sx_st_e3 _ (List.mem_map.mpr ⟨k, List.mem_range.mpr hk, rfl⟩)
  | 4, _ => exact sx_st_e4 _ (List.mem_map.mpr ⟨k, List.mem_range.mpr hk, rfl⟩)
  | 5, _ => exact sx_st_e5 _ (List.mem_map.mpr ⟨k, List.mem_range.mpr hk, rfl⟩)
  | 6, _ => exact sx_st_e6 _ (List.mem_map.mpr ⟨k, List.mem_range.mpr hk, rfl⟩)
  | 7, _ => exact sx_st_e7 _ (List.mem_map.mpr ⟨k, List.mem_range.mpr hk, rfl⟩)
  | 8, _ => exact sx_st_e8 _ (List.mem_map.mpr ⟨k, List.mem_range.mpr hk, rfl⟩)
  | 9, _ => exact sx_st_e9 _ (List.mem_map.mpr ⟨k, List.mem_range.mpr hk, rfl⟩)
  | 10, _ => exact sx_st_e10 _ (List.mem_map.mpr ⟨k, List.mem_range.mpr hk, rfl⟩)
  | 11, _ => exact sx_st_e11 _ (List.mem_map.mpr ⟨k, List.mem_range.mpr hk, rfl⟩)
  | j + 12, hj => omega
set_option maxRecDepth 100000 in
theorem sx_lay0 : ∀ w ∈ u_ws RJ0 TJ0 4 ++ (u_ws RJ4 TJ4 4 ++ u_ws RJx00060 TJx00060 6), w ∈ lw_tbl := sx_tin [1119, 1121, 1123, 1125, 890, 892, 894, 896, 1134, 1135, 1136, 1137, 1138, 1152] (by decide +kernel)
set_option maxRecDepth 100000 in
theorem sx_inst : ∀ w ∈ vwCl.map (fun q => Jvm.Cond.instantiable q.1 q.2.2), w ∈ lw_tbl := sx_tin [1047, 869, 1129, 411, 578, 477, 325, 385, 434, 195, 520, 584, 201, 247, 187, 1753] (by decide +kernel)
set_option maxRecDepth 100000 in
theorem sx_ac : ∀ w ∈ [FieldType.int, .byte, .boolean, .long].map (fun t => Jvm.Cond.arrayClass t), w ∈ lw_tbl := sx_tin [228, 899, 2234, 2414] (by decide +kernel)
set_option maxRecDepth 100000 in
theorem sx_aoi : ∀ w ∈ [Jvm.Cond.arrayOver (.array .int)], w ∈ lw_tbl := sx_tin [253] (by decide +kernel)
def sx_sti : List Jvm.Cond := [.laysStatic Bundle.tN "UNASSIGNED_STACK" Bundle.steD, .laysStatic Bundle.tN "SUPPRESSED_SENTINEL" Bundle.listD, .laysStatic "java/lang/String" "COMPACT_STRINGS" "Z", .laysStatic "jdk/internal/util/Preconditions" "SIOOBE_FORMATTER" "Ljava/util/function/BiFunction;", .initialized Bundle.tN, .initialized "java/lang/String", .initialized "jdk/internal/util/Preconditions"]
set_option maxRecDepth 100000 in
theorem sx_sti_in : ∀ w ∈ sx_sti, w ∈ lw_tbl := sx_tin [852, 854, 878, 959, 168, 174, 177] (by decide +kernel)
def sx_stn : List Jvm.Cond := [.isRef (.static Bundle.tN "UNASSIGNED_STACK" Bundle.steD), .isRef (.static Bundle.tN "SUPPRESSED_SENTINEL" Bundle.listD), .eq (.static "java/lang/String" "COMPACT_STRINGS" "Z") (.int 1), .isRef (.static "jdk/internal/util/Preconditions" "SIOOBE_FORMATTER" "Ljava/util/function/BiFunction;")]
set_option maxRecDepth 100000 in
theorem sx_stn_in : ∀ w ∈ sx_stn, w ∈ flatC narrow_1 := sx_tin [2, 3, 4, 5] (by decide +kernel)
theorem sx_nest : ∀ e ∈ pm_mt.filter (fun e => e.2.1 == 3), Jvm.Cond.methodLinkNest (pm_cn e.1.1) e.1.2 (pm_name e.2.2) "RowProver" ∈ lw_tbl := by decide +kernel
