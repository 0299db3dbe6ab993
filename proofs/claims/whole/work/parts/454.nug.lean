section NUE
variable {sc : Nat × (Nat → Int32)} {D a : Nat} {bb : Bool} {Q : QP} {c d : Nat} {σ C r r' : St} {i x how s v k n sh e ah fr too pls root shift rel ok on w : Int} {up dn : Int × Int × Int}
theorem C_ts_ne (h : ¬ (i = v ∧ 19 ≤ a ∧ a ≤ 26)) : C_ts r v rel how w ok on a i = r a i := by
  unfold C_ts
  split
  · split
    · rw [C_tt_ne (by omega), C_tt_ne (by omega)]
    · rfl
  · split
    · rw [C_tt_ne (by omega)]
    · rw [C_tt_ne (by omega)]
/-- makeSides -/
def C_s0 (C r : St) (v s how : Int) : St := q_up (C_ts (C_fol (C_add r v (C 22 s) how s) v (r 37 s) 0) v (C 17 s) how 0 (C 20 s) (if C 20 s = 3 then r 38 s else C 23 s)) 40 (C 22 s) v
def C_s1 (C r : St) (v s how : Int) : St := q_up (C_ts (C_fol (C_add r v (C 23 s) how s) v (r 38 s) 0) v (C 17 s) how 1 (C 19 s) (if C 19 s = 3 then r 37 s else C 22 s)) 40 (C 23 s) v
abbrev C_o0 (C : St) (s : Int) : Prop := C 19 s = 3 ∧ ¬ (C 19 s = 3 ∧ C 20 s = 3 ∧ C 22 s = C 23 s)
abbrev C_o1 (C : St) (s : Int) : Prop := C 20 s = 3 ∧ ¬ (C 19 s = 3 ∧ C 20 s = 3 ∧ C 22 s = C 23 s)
def C_m0 (C r : St) (s how : Int) : St := if C_o0 C s then C_s0 C r (r 9 0) s how else r
def C_m1 (C r : St) (s how : Int) : St := if C_o1 C s then C_s1 C r (r 9 0) s how else r
def C_mk (C r : St) (s how : Int) : St := q_up (C_m1 C (C_m0 C r s how) s how) 35 s (C_m1 C (C_m0 C r s how) s how 9 0 - r 9 0)
theorem C_s0_ne (h : ¬ (a = 9 ∧ i = 0)) (h' : ¬ (i = v ∧ 10 ≤ a ∧ a ≤ 26)) (h2 : ¬ (a = 40 ∧ i = C 22 s)) : C_s0 C r v s how a i = r a i := by
  unfold C_s0
  rw [q_up, if_neg h2, C_ts_ne (by omega), C_fol_ne (by omega), C_add_ne h h']
theorem C_s1_ne (h : ¬ (a = 9 ∧ i = 0)) (h' : ¬ (i = v ∧ 10 ≤ a ∧ a ≤ 26)) (h2 : ¬ (a = 40 ∧ i = C 23 s)) : C_s1 C r v s how a i = r a i := by
  unfold C_s1
  rw [q_up, if_neg h2, C_ts_ne (by omega), C_fol_ne (by omega), C_add_ne h h']
theorem C_s0_9 : C_s0 C r v s how 9 0 = v + 1 := by
  unfold C_s0
  rw [q_up_ne _ _ _ _ (by decide), C_ts_ne (by omega), C_fol_ne (by omega), C_add_9]
theorem C_s1_9 : C_s1 C r v s how 9 0 = v + 1 := by
  unfold C_s1
  rw [q_up_ne _ _ _ _ (by decide), C_ts_ne (by omega), C_fol_ne (by omega), C_add_9]
theorem n25_e (hc : q_C c) (s0 : 0 ≤ s) (s1 : s < 40) {l2 l3 l5 l6 : V2} (hv : q_R (r' 9 0 - v)) (kk : Q (.inl (some (vi v))) bb (NS c C (q_up r' 35 s (r' 9 0 - v)))) : qx sc D 25 120 [vr 39, vi s, l2, l3, vi v, l5, l6] [] (0, 0) bb (NS c C r') Q := by
  have e9 : NS c C r' 9 0 = r' 9 0 := NS_lo hc (by decide) (by decide)
  have u35 : ∀ x, q_up (NS c C r') 35 s x = NS c C (q_up r' 35 s x) := fun x => NS_u hc (by decide) (by decide)
  simp only [k25_120, k25_121, k25_124, k25_127, k25_128, k25_129, k25_132, k25_135, k25_137, k25_138, k25_139, k25_141, true_implies, false_implies, not_true_eq_false, not_false_eq_true, true_and, and_true, implies_true, or_true, true_or, or_false, false_or, Int.reduceEq, Int.one_ne_zero, Nat.reduceEqDiff, qt_1, ql_1, qt_2, ql_2, qt_3, ql_3, qt_6, ql_6, qt_7, ql_7, qt_8, ql_8, qt_10, ql_10, qt_11, ql_11, qt_12, ql_12, qt_13, ql_13, qt_14, ql_14, qt_15, ql_15, qt_16, ql_16, qt_17, ql_17, qt_18, ql_18, qt_19, ql_19, qt_20, ql_20, qt_21, ql_21, qt_22, ql_22, qt_23, ql_23, qt_24, ql_24, qt_25, ql_25, qt_26, ql_26, qt_28, ql_28, qt_29, ql_29, qt_30, ql_30, qt_31, ql_31, qt_32, ql_32, qt_33, ql_33, qt_34, ql_34, qt_35, ql_35, qt_36, ql_36, qt_37, ql_37, qt_38, ql_38, qt_40, ql_40, qt_41, ql_41, qt_42, ql_42, qt_43, ql_43, qt_44, ql_44, qt_45, ql_45, qt_46, ql_46, qt_47, ql_47, qt_48, ql_48, qt_49, ql_49, qt_50, ql_50, qt_51, ql_51, qt_52, ql_52, qt_53, ql_53, qt_54, ql_54, qt_56, ql_56, qt_57, ql_57, qt_58, ql_58, qt_59, ql_59, qt_60, ql_60, qt_61, ql_61, qt_62, ql_62, qt_63, ql_63, qt_64, ql_64, qt_65, ql_65, qt_67, ql_67, qt_68, ql_68, qt_69, ql_69, qt_70, ql_70, qt_71, ql_71, qt_73, ql_73, qt_74, ql_74, qt_75, ql_75, qt_76, ql_76, qt_78, ql_78, qt_79, ql_79, qt_80, ql_80, qt_81, ql_81, qt_82, ql_82, qt_83, ql_83, qt_84, ql_84, qt_85, ql_85, qt_86, ql_86, qt_87, ql_87, qt_89, ql_89, qt_90, ql_90, qt_91, ql_91, qt_92, ql_92, qt_93, ql_93, qt_94, ql_94, qt_95, ql_95, qt_96, ql_96, qt_97, ql_97, qt_98, ql_98, qt_99, ql_99, qt_100, ql_100, qt_101, ql_101, qt_102, ql_102, qt_103, ql_103, qt_105, ql_105, qt_106, ql_106, qt_107, ql_107, qt_108, ql_108, qt_109, ql_109, qt_110, ql_110, qt_111, ql_111, qt_113, ql_113, qt_114, ql_114, qt_115, ql_115, qt_116, ql_116, qt_117, ql_117, qt_118, ql_118, qt_119, ql_119, qt_120, ql_120, qt_121, ql_121, qt_122, ql_122, qt_123, ql_123, qt_124, ql_124, qt_125, ql_125, qt_126, ql_126, qt_127, ql_127, qt_129, ql_129, qt_130, ql_130, qt_131, ql_131, qt_132, ql_132, qt_133, ql_133, qt_134, ql_134, qt_135, ql_135, qt_137, ql_137, qt_138, ql_138, qt_139, ql_139, qt_140, ql_140, qt_141, ql_141, qt_142, ql_142, qt_143, ql_143, qt_144, ql_144, qt_145, ql_145, qt_146, ql_146, qt_147, ql_147, qt_148, ql_148, qt_149, ql_149, qt_150, ql_150, qt_151, ql_151, qt_152, ql_152, qt_153, ql_153, qt_154, ql_154, qt_155, ql_155, qt_156, ql_156, qt_157, ql_157, qt_158, ql_158, qt_159, ql_159, qt_160, ql_160, qt_161, ql_161, qt_162, ql_162, qt_163, ql_163, qt_164, ql_164, qt_165, ql_165, qt_166, ql_166, qt_167, ql_167, qt_168, ql_168, qt_169, ql_169, qt_170, ql_170, qt_171, ql_171, qt_172, ql_172, qt_173, ql_173, qt_174, ql_174, qt_175, ql_175, qt_176, ql_176, qt_177, ql_177, qt_178, ql_178, qt_179, ql_179, qt_180, ql_180, qt_181, ql_181, qt_182, ql_182, qt_183, ql_183, qt_184, ql_184, qt_185, ql_185, qt_186, ql_186, qt_187, ql_187, qt_188, ql_188, e9, u35, s0, s1]
  exact ⟨hv, kk⟩
theorem n25_w0 (hc : q_C c) (hv : r 9 0 = v) (h0 : 0 ≤ v) (h1 : v < 240) (s0 : 0 ≤ s) (s1 : s < 40) (g : C 19 s = 3) (b1 : 0 ≤ C 22 s) (b2 : C 22 s < 8) (b3 : 0 ≤ r 37 s) (b4 : r 37 s < v) (b5 : -100000 ≤ r 17 (r 37 s) ∧ r 17 (r 37 s) ≤ 100000) {l4 l6 : V2} (kk : qx sc (D + 3) 25 28 [vr 39, vi s, vi how, vr (c + 16), l4, vi 1, vi v] [] (0, 0) bb (NS c C (C_s0 C r v s how)) Q) : qx sc (D + 3) 25 34 [vr 39, vi s, vi how, vr (c + 16), l4, vi 0, l6] [] (0, 0) bb (NS c C r) Q := by
  have e37 : ∀ r', NS c C r' 37 s = r' 37 s := fun r' => NS_lo hc (by decide) (by decide)
  have u40 : ∀ r i x, q_up (NS c C r) 40 i x = NS c C (q_up r 40 i x) := fun r i x => NS_u hc (by decide) (by decide)
  simp only [k25_34, k25_35 hc, k25_38, k25_40, k25_41, k25_42, k25_43, k25_44, k25_47, k25_48, k25_51, k25_52 hc, k25_55, k25_57, k25_58, k25_59, k25_60, k25_61, k25_62, true_implies, false_implies, not_true_eq_false, not_false_eq_true, true_and, and_true, implies_true, or_true, true_or, or_false, false_or, Int.reduceEq, Int.one_ne_zero, Nat.reduceEqDiff, qtc_18 hc, qlc_18 hc, qtc_21 hc, qlc_21 hc, c18_0, c21_0, qtc_19 hc, qlc_19 hc, qtc_22 hc, qlc_22 hc, NS_g (j := 19) hc (by decide), NS_g (j := 22) hc (by decide), g, s0, s1, Int.reduceLT, Int.reduceLE, Int.le_refl]
  refine n88 (v := v) (by rw [NS_lo hc (by decide) (by decide), hv]) h0 h1 ?_
  rw [NS_add hc]
  have a37 : C_add r v (C 22 s) how s 37 s = r 37 s := C_add_ne (by omega) (by omega)
  have a38 : C_add r v (C 22 s) how s 38 s = r 38 s := C_add_ne (by omega) (by omega)
  simp only [q_kn_v, k25_65, k25_67, k25_68, k25_71, k25_73, k25_74, k25_77, k25_80, k25_82, k25_83, k25_84, k25_85, k25_86, true_implies, false_implies, not_true_eq_false, not_false_eq_true, true_and, and_true, implies_true, or_true, true_or, or_false, false_or, Int.reduceEq, Int.one_ne_zero, Nat.reduceEqDiff, qt_1, ql_1, qt_2, ql_2, qt_3, ql_3, qt_6, ql_6, qt_7, ql_7, qt_8, ql_8, qt_10, ql_10, qt_11, ql_11, qt_12, ql_12, qt_13, ql_13, qt_14, ql_14, qt_15, ql_15, qt_16, ql_16, qt_17, ql_17, qt_18, ql_18, qt_19, ql_19, qt_20, ql_20, qt_21, ql_21, qt_22, ql_22, qt_23, ql_23, qt_24, ql_24, qt_25, ql_25, qt_26, ql_26, qt_28, ql_28, qt_29, ql_29, qt_30, ql_30, qt_31, ql_31, qt_32, ql_32, qt_33, ql_33, qt_34, ql_34, qt_35, ql_35, qt_36, ql_36, qt_37, ql_37, qt_38, ql_38, qt_40, ql_40, qt_41, ql_41, qt_42, ql_42, qt_43, ql_43, qt_44, ql_44, qt_45, ql_45, qt_46, ql_46, qt_47, ql_47, qt_48, ql_48, qt_49, ql_49, qt_50, ql_50, qt_51, ql_51, qt_52, ql_52, qt_53, ql_53, qt_54, ql_54, qt_56, ql_56, qt_57, ql_57, qt_58, ql_58, qt_59, ql_59, qt_60, ql_60, qt_61, ql_61, qt_62, ql_62, qt_63, ql_63, qt_64, ql_64, qt_65, ql_65, qt_67, ql_67, qt_68, ql_68, qt_69, ql_69, qt_70, ql_70, qt_71, ql_71, qt_73, ql_73, qt_74, ql_74, qt_75, ql_75, qt_76, ql_76, qt_78, ql_78, qt_79, ql_79, qt_80, ql_80, qt_81, ql_81, qt_82, ql_82, qt_83, ql_83, qt_84, ql_84, qt_85, ql_85, qt_86, ql_86, qt_87, ql_87, qt_89, ql_89, qt_90, ql_90, qt_91, ql_91, qt_92, ql_92, qt_93, ql_93, qt_94, ql_94, qt_95, ql_95, qt_96, ql_96, qt_97, ql_97, qt_98, ql_98, qt_99, ql_99, qt_100, ql_100, qt_101, ql_101, qt_102, ql_102, qt_103, ql_103, qt_105, ql_105, qt_106, ql_106, qt_107, ql_107, qt_108, ql_108, qt_109, ql_109, qt_110, ql_110, qt_111, ql_111, qt_113, ql_113, qt_114, ql_114, qt_115, ql_115, qt_116, ql_116, qt_117, ql_117, qt_118, ql_118, qt_119, ql_119, qt_120, ql_120, qt_121, ql_121, qt_122, ql_122, qt_123, ql_123, qt_124, ql_124, qt_125, ql_125, qt_126, ql_126, qt_127, ql_127, qt_129, ql_129, qt_130, ql_130, qt_131, ql_131, qt_132, ql_132, qt_133, ql_133, qt_134, ql_134, qt_135, ql_135, qt_137, ql_137, qt_138, ql_138, qt_139, ql_139, qt_140, ql_140, qt_141, ql_141, qt_142, ql_142, qt_143, ql_143, qt_144, ql_144, qt_145, ql_145, qt_146, ql_146, qt_147, ql_147, qt_148, ql_148, qt_149, ql_149, qt_150, ql_150, qt_151, ql_151, qt_152, ql_152, qt_153, ql_153, qt_154, ql_154, qt_155, ql_155, qt_156, ql_156, qt_157, ql_157, qt_158, ql_158, qt_159, ql_159, qt_160, ql_160, qt_161, ql_161, qt_162, ql_162, qt_163, ql_163, qt_164, ql_164, qt_165, ql_165, qt_166, ql_166, qt_167, ql_167, qt_168, ql_168, qt_169, ql_169, qt_170, ql_170, qt_171, ql_171, qt_172, ql_172, qt_173, ql_173, qt_174, ql_174, qt_175, ql_175, qt_176, ql_176, qt_177, ql_177, qt_178, ql_178, qt_179, ql_179, qt_180, ql_180, qt_181, ql_181, qt_182, ql_182, qt_183, ql_183, qt_184, ql_184, qt_185, ql_185, qt_186, ql_186, qt_187, ql_187, qt_188, ql_188, s0, s1, Int.reduceLT, Int.reduceLE, Int.le_refl, Int.toNat_zero, Nat.reduceAdd, Nat.add_zero, e37, a37]
  have e17 : C_add r v (C 22 s) how s 17 (r 37 s) = r 17 (r 37 s) := C_add_ne (by omega) (by omega)
  refine n89 h0 h1 b3 (by omega) (by rw [NS_lo hc (by decide) (by decide), e17]; unfold q_R; omega) ?_
  rw [NS_fol hc]
  simp only [q_kn_n, k25_89, k25_90, k25_91, k25_93, k25_95]
  refine n27_0 (how := how) hc h0 h1 s0 s1 (by rw [C_fol_ne (by omega)]; exact RAW_add.1.2.1) ?_
  rw [C_fol_ne (by omega), a38]
  simp only [q_kn_n, k25_98, k25_99, k25_102, k25_103 hc, k25_106, k25_108, k25_109, k25_110, k25_111, k25_113, k25_114, k25_117, true_implies, false_implies, not_true_eq_false, not_false_eq_true, true_and, and_true, implies_true, or_true, true_or, or_false, false_or, Int.reduceEq, Int.one_ne_zero, Nat.reduceEqDiff, qt_1, ql_1, qt_2, ql_2, qt_3, ql_3, qt_6, ql_6, qt_7, ql_7, qt_8, ql_8, qt_10, ql_10, qt_11, ql_11, qt_12, ql_12, qt_13, ql_13, qt_14, ql_14, qt_15, ql_15, qt_16, ql_16, qt_17, ql_17, qt_18, ql_18, qt_19, ql_19, qt_20, ql_20, qt_21, ql_21, qt_22, ql_22, qt_23, ql_23, qt_24, ql_24, qt_25, ql_25, qt_26, ql_26, qt_28, ql_28, qt_29, ql_29, qt_30, ql_30, qt_31, ql_31, qt_32, ql_32, qt_33, ql_33, qt_34, ql_34, qt_35, ql_35, qt_36, ql_36, qt_37, ql_37, qt_38, ql_38, qt_40, ql_40, qt_41, ql_41, qt_42, ql_42, qt_43, ql_43, qt_44, ql_44, qt_45, ql_45, qt_46, ql_46, qt_47, ql_47, qt_48, ql_48, qt_49, ql_49, qt_50, ql_50, qt_51, ql_51, qt_52, ql_52, qt_53, ql_53, qt_54, ql_54, qt_56, ql_56, qt_57, ql_57, qt_58, ql_58, qt_59, ql_59, qt_60, ql_60, qt_61, ql_61, qt_62, ql_62, qt_63, ql_63, qt_64, ql_64, qt_65, ql_65, qt_67, ql_67, qt_68, ql_68, qt_69, ql_69, qt_70, ql_70, qt_71, ql_71, qt_73, ql_73, qt_74, ql_74, qt_75, ql_75, qt_76, ql_76, qt_78, ql_78, qt_79, ql_79, qt_80, ql_80, qt_81, ql_81, qt_82, ql_82, qt_83, ql_83, qt_84, ql_84, qt_85, ql_85, qt_86, ql_86, qt_87, ql_87, qt_89, ql_89, qt_90, ql_90, qt_91, ql_91, qt_92, ql_92, qt_93, ql_93, qt_94, ql_94, qt_95, ql_95, qt_96, ql_96, qt_97, ql_97, qt_98, ql_98, qt_99, ql_99, qt_100, ql_100, qt_101, ql_101, qt_102, ql_102, qt_103, ql_103, qt_105, ql_105, qt_106, ql_106, qt_107, ql_107, qt_108, ql_108, qt_109, ql_109, qt_110, ql_110, qt_111, ql_111, qt_113, ql_113, qt_114, ql_114, qt_115, ql_115, qt_116, ql_116, qt_117, ql_117, qt_118, ql_118, qt_119, ql_119, qt_120, ql_120, qt_121, ql_121, qt_122, ql_122, qt_123, ql_123, qt_124, ql_124, qt_125, ql_125, qt_126, ql_126, qt_127, ql_127, qt_129, ql_129, qt_130, ql_130, qt_131, ql_131, qt_132, ql_132, qt_133, ql_133, qt_134, ql_134, qt_135, ql_135, qt_137, ql_137, qt_138, ql_138, qt_139, ql_139, qt_140, ql_140, qt_141, ql_141, qt_142, ql_142, qt_143, ql_143, qt_144, ql_144, qt_145, ql_145, qt_146, ql_146, qt_147, ql_147, qt_148, ql_148, qt_149, ql_149, qt_150, ql_150, qt_151, ql_151, qt_152, ql_152, qt_153, ql_153, qt_154, ql_154, qt_155, ql_155, qt_156, ql_156, qt_157, ql_157, qt_158, ql_158, qt_159, ql_159, qt_160, ql_160, qt_161, ql_161, qt_162, ql_162, qt_163, ql_163, qt_164, ql_164, qt_165, ql_165, qt_166, ql_166, qt_167, ql_167, qt_168, ql_168, qt_169, ql_169, qt_170, ql_170, qt_171, ql_171, qt_172, ql_172, qt_173, ql_173, qt_174, ql_174, qt_175, ql_175, qt_176, ql_176, qt_177, ql_177, qt_178, ql_178, qt_179, ql_179, qt_180, ql_180, qt_181, ql_181, qt_182, ql_182, qt_183, ql_183, qt_184, ql_184, qt_185, ql_185, qt_186, ql_186, qt_187, ql_187, qt_188, ql_188, qtc_21 hc, qlc_21 hc, c21_0, qtc_22 hc, qlc_22 hc, NS_g (j := 22) hc (by decide), s0, s1, b1, b2, u40, Int.reduceLT, Int.reduceLE, Int.le_refl, Int.zero_add]
  exact ⟨by decide, kk⟩
theorem n25_w1 (hc : q_C c) (hv : r 9 0 = v) (h0 : 0 ≤ v) (h1 : v < 240) (s0 : 0 ≤ s) (s1 : s < 40) (g : C 20 s = 3) (b1 : 0 ≤ C 23 s) (b2 : C 23 s < 8) (b3 : 0 ≤ r 38 s) (b4 : r 38 s < v) (b5 : -100000 ≤ r 17 (r 38 s) ∧ r 17 (r 38 s) ≤ 100000) {l4 l6 : V2} (kk : qx sc (D + 3) 25 28 [vr 39, vi s, vi how, vr (c + 16), l4, vi 2, vi v] [] (0, 0) bb (NS c C (C_s1 C r v s how)) Q) : qx sc (D + 3) 25 34 [vr 39, vi s, vi how, vr (c + 16), l4, vi 1, l6] [] (0, 0) bb (NS c C r) Q := by
  have e38 : ∀ r', NS c C r' 38 s = r' 38 s := fun r' => NS_lo hc (by decide) (by decide)
  have u40 : ∀ r i x, q_up (NS c C r) 40 i x = NS c C (q_up r 40 i x) := fun r i x => NS_u hc (by decide) (by decide)
  simp only [k25_34, k25_35 hc, k25_38, k25_40, k25_41, k25_42, k25_43, k25_44, k25_47, k25_48, k25_51, k25_52 hc, k25_55, k25_57, k25_58, k25_59, k25_60, k25_61, k25_62, true_implies, false_implies, not_true_eq_false, not_false_eq_true, true_and, and_true, implies_true, or_true, true_or, or_false, false_or, Int.reduceEq, Int.one_ne_zero, Nat.reduceEqDiff, qtc_18 hc, qlc_18 hc, qtc_21 hc, qlc_21 hc, c18_1, c21_1, qtc_20 hc, qlc_20 hc, qtc_23 hc, qlc_23 hc, NS_g (j := 20) hc (by decide), NS_g (j := 23) hc (by decide), g, s0, s1, Int.reduceLT, Int.reduceLE, Int.le_refl]
  refine n88 (v := v) (by rw [NS_lo hc (by decide) (by decide), hv]) h0 h1 ?_
  rw [NS_add hc]
  have a37 : C_add r v (C 23 s) how s 37 s = r 37 s := C_add_ne (by omega) (by omega)
  have a38 : C_add r v (C 23 s) how s 38 s = r 38 s := C_add_ne (by omega) (by omega)
  simp only [q_kn_v, k25_65, k25_67, k25_68, k25_71, k25_73, k25_74, k25_77, k25_80, k25_82, k25_83, k25_84, k25_85, k25_86, true_implies, false_implies, not_true_eq_false, not_false_eq_true, true_and, and_true, implies_true, or_true, true_or, or_false, false_or, Int.reduceEq, Int.one_ne_zero, Nat.reduceEqDiff, qt_1, ql_1, qt_2, ql_2, qt_3, ql_3, qt_6, ql_6, qt_7, ql_7, qt_8, ql_8, qt_10, ql_10, qt_11, ql_11, qt_12, ql_12, qt_13, ql_13, qt_14, ql_14, qt_15, ql_15, qt_16, ql_16, qt_17, ql_17, qt_18, ql_18, qt_19, ql_19, qt_20, ql_20, qt_21, ql_21, qt_22, ql_22, qt_23, ql_23, qt_24, ql_24, qt_25, ql_25, qt_26, ql_26, qt_28, ql_28, qt_29, ql_29, qt_30, ql_30, qt_31, ql_31, qt_32, ql_32, qt_33, ql_33, qt_34, ql_34, qt_35, ql_35, qt_36, ql_36, qt_37, ql_37, qt_38, ql_38, qt_40, ql_40, qt_41, ql_41, qt_42, ql_42, qt_43, ql_43, qt_44, ql_44, qt_45, ql_45, qt_46, ql_46, qt_47, ql_47, qt_48, ql_48, qt_49, ql_49, qt_50, ql_50, qt_51, ql_51, qt_52, ql_52, qt_53, ql_53, qt_54, ql_54, qt_56, ql_56, qt_57, ql_57, qt_58, ql_58, qt_59, ql_59, qt_60, ql_60, qt_61, ql_61, qt_62, ql_62, qt_63, ql_63, qt_64, ql_64, qt_65, ql_65, qt_67, ql_67, qt_68, ql_68, qt_69, ql_69, qt_70, ql_70, qt_71, ql_71, qt_73, ql_73, qt_74, ql_74, qt_75, ql_75, qt_76, ql_76, qt_78, ql_78, qt_79, ql_79, qt_80, ql_80, qt_81, ql_81, qt_82, ql_82, qt_83, ql_83, qt_84, ql_84, qt_85, ql_85, qt_86, ql_86, qt_87, ql_87, qt_89, ql_89, qt_90, ql_90, qt_91, ql_91, qt_92, ql_92, qt_93, ql_93, qt_94, ql_94, qt_95, ql_95, qt_96, ql_96, qt_97, ql_97, qt_98, ql_98, qt_99, ql_99, qt_100, ql_100, qt_101, ql_101, qt_102, ql_102, qt_103, ql_103, qt_105, ql_105, qt_106, ql_106, qt_107, ql_107, qt_108, ql_108, qt_109, ql_109, qt_110, ql_110, qt_111, ql_111, qt_113, ql_113, qt_114, ql_114, qt_115, ql_115, qt_116, ql_116, qt_117, ql_117, qt_118, ql_118, qt_119, ql_119, qt_120, ql_120, qt_121, ql_121, qt_122, ql_122, qt_123, ql_123, qt_124, ql_124, qt_125, ql_125, qt_126, ql_126, qt_127, ql_127, qt_129, ql_129, qt_130, ql_130, qt_131, ql_131, qt_132, ql_132, qt_133, ql_133, qt_134, ql_134, qt_135, ql_135, qt_137, ql_137, qt_138, ql_138, qt_139, ql_139, qt_140, ql_140, qt_141, ql_141, qt_142, ql_142, qt_143, ql_143, qt_144, ql_144, qt_145, ql_145, qt_146, ql_146, qt_147, ql_147, qt_148, ql_148, qt_149, ql_149, qt_150, ql_150, qt_151, ql_151, qt_152, ql_152, qt_153, ql_153, qt_154, ql_154, qt_155, ql_155, qt_156, ql_156, qt_157, ql_157, qt_158, ql_158, qt_159, ql_159, qt_160, ql_160, qt_161, ql_161, qt_162, ql_162, qt_163, ql_163, qt_164, ql_164, qt_165, ql_165, qt_166, ql_166, qt_167, ql_167, qt_168, ql_168, qt_169, ql_169, qt_170, ql_170, qt_171, ql_171, qt_172, ql_172, qt_173, ql_173, qt_174, ql_174, qt_175, ql_175, qt_176, ql_176, qt_177, ql_177, qt_178, ql_178, qt_179, ql_179, qt_180, ql_180, qt_181, ql_181, qt_182, ql_182, qt_183, ql_183, qt_184, ql_184, qt_185, ql_185, qt_186, ql_186, qt_187, ql_187, qt_188, ql_188, s0, s1, Int.reduceLT, Int.reduceLE, Int.le_refl, Int.toNat_one, Nat.reduceAdd, e38, a38]
  have e17 : C_add r v (C 23 s) how s 17 (r 38 s) = r 17 (r 38 s) := C_add_ne (by omega) (by omega)
  refine n89 h0 h1 b3 (by omega) (by rw [NS_lo hc (by decide) (by decide), e17]; unfold q_R; omega) ?_
  rw [NS_fol hc]
  simp only [q_kn_n, k25_89, k25_90, k25_91, k25_93, k25_95]
  refine n27_1 (how := how) hc h0 h1 s0 s1 (by rw [C_fol_ne (by omega)]; exact RAW_add.1.2.1) ?_
  rw [C_fol_ne (by omega), a37]
  simp only [q_kn_n, k25_98, k25_99, k25_102, k25_103 hc, k25_106, k25_108, k25_109, k25_110, k25_111, k25_113, k25_114, k25_117, true_implies, false_implies, not_true_eq_false, not_false_eq_true, true_and, and_true, implies_true, or_true, true_or, or_false, false_or, Int.reduceEq, Int.one_ne_zero, Nat.reduceEqDiff, qt_1, ql_1, qt_2, ql_2, qt_3, ql_3, qt_6, ql_6, qt_7, ql_7, qt_8, ql_8, qt_10, ql_10, qt_11, ql_11, qt_12, ql_12, qt_13, ql_13, qt_14, ql_14, qt_15, ql_15, qt_16, ql_16, qt_17, ql_17, qt_18, ql_18, qt_19, ql_19, qt_20, ql_20, qt_21, ql_21, qt_22, ql_22, qt_23, ql_23, qt_24, ql_24, qt_25, ql_25, qt_26, ql_26, qt_28, ql_28, qt_29, ql_29, qt_30, ql_30, qt_31, ql_31, qt_32, ql_32, qt_33, ql_33, qt_34, ql_34, qt_35, ql_35, qt_36, ql_36, qt_37, ql_37, qt_38, ql_38, qt_40, ql_40, qt_41, ql_41, qt_42, ql_42, qt_43, ql_43, qt_44, ql_44, qt_45, ql_45, qt_46, ql_46, qt_47, ql_47, qt_48, ql_48, qt_49, ql_49, qt_50, ql_50, qt_51, ql_51, qt_52, ql_52, qt_53, ql_53, qt_54, ql_54, qt_56, ql_56, qt_57, ql_57, qt_58, ql_58, qt_59, ql_59, qt_60, ql_60, qt_61, ql_61, qt_62, ql_62, qt_63, ql_63, qt_64, ql_64, qt_65, ql_65, qt_67, ql_67, qt_68, ql_68, qt_69, ql_69, qt_70, ql_70, qt_71, ql_71, qt_73, ql_73, qt_74, ql_74, qt_75, ql_75, qt_76, ql_76, qt_78, ql_78, qt_79, ql_79, qt_80, ql_80, qt_81, ql_81, qt_82, ql_82, qt_83, ql_83, qt_84, ql_84, qt_85, ql_85, qt_86, ql_86, qt_87, ql_87, qt_89, ql_89, qt_90, ql_90, qt_91, ql_91, qt_92, ql_92, qt_93, ql_93, qt_94, ql_94, qt_95, ql_95, qt_96, ql_96, qt_97, ql_97, qt_98, ql_98, qt_99, ql_99, qt_100, ql_100, qt_101, ql_101, qt_102, ql_102, qt_103, ql_103, qt_105, ql_105, qt_106, ql_106, qt_107, ql_107, qt_108, ql_108, qt_109, ql_109, qt_110, ql_110, qt_111, ql_111, qt_113, ql_113, qt_114, ql_114, qt_115, ql_115, qt_116, ql_116, qt_117, ql_117, qt_118, ql_118, qt_119, ql_119, qt_120, ql_120, qt_121, ql_121, qt_122, ql_122, qt_123, ql_123, qt_124, ql_124, qt_125, ql_125, qt_126, ql_126, qt_127, ql_127, qt_129, ql_129, qt_130, ql_130, qt_131, ql_131, qt_132, ql_132, qt_133, ql_133, qt_134, ql_134, qt_135, ql_135, qt_137, ql_137, qt_138, ql_138, qt_139, ql_139, qt_140, ql_140, qt_141, ql_141, qt_142, ql_142, qt_143, ql_143, qt_144, ql_144, qt_145, ql_145, qt_146, ql_146, qt_147, ql_147, qt_148, ql_148, qt_149, ql_149, qt_150, ql_150, qt_151, ql_151, qt_152, ql_152, qt_153, ql_153, qt_154, ql_154, qt_155, ql_155, qt_156, ql_156, qt_157, ql_157, qt_158, ql_158, qt_159, ql_159, qt_160, ql_160, qt_161, ql_161, qt_162, ql_162, qt_163, ql_163, qt_164, ql_164, qt_165, ql_165, qt_166, ql_166, qt_167, ql_167, qt_168, ql_168, qt_169, ql_169, qt_170, ql_170, qt_171, ql_171, qt_172, ql_172, qt_173, ql_173, qt_174, ql_174, qt_175, ql_175, qt_176, ql_176, qt_177, ql_177, qt_178, ql_178, qt_179, ql_179, qt_180, ql_180, qt_181, ql_181, qt_182, ql_182, qt_183, ql_183, qt_184, ql_184, qt_185, ql_185, qt_186, ql_186, qt_187, ql_187, qt_188, ql_188, qtc_21 hc, qlc_21 hc, c21_1, qtc_23 hc, qlc_23 hc, NS_g (j := 23) hc (by decide), s0, s1, b1, b2, u40, Int.reduceLT, Int.reduceLE, Int.le_refl, Int.reduceAdd]
  exact ⟨by decide, kk⟩
theorem n25 (hc : q_C c) (hv : r 9 0 = v) (h0 : 0 ≤ v) (h1 : v + (if C_o0 C s then 1 else 0) + (if C_o1 C s then 1 else 0) ≤ 240) (s0 : 0 ≤ s) (s1 : s < 40)
    (w0 : C 19 s = 3 → 0 ≤ C 22 s ∧ C 22 s < 8 ∧ 0 ≤ r 37 s ∧ r 37 s < v ∧ (-100000 ≤ r 17 (r 37 s) ∧ r 17 (r 37 s) ≤ 100000))
    (w1 : C 20 s = 3 → 0 ≤ C 23 s ∧ C 23 s < 8 ∧ 0 ≤ r 38 s ∧ r 38 s < v ∧ (-100000 ≤ r 17 (r 38 s) ∧ r 17 (r 38 s) ≤ 100000))
    (kk : Q (.inl (some (vi v))) bb (NS c C (C_mk C r s how))) : qx sc (D + 3) 25 0 [vr 39, vi s, vi how, vn, vn, vn, vn] [] (0, 0) bb (NS c C r) Q := by
  have e9 : NS c C r 9 0 = r 9 0 := NS_lo hc (by decide) (by decide)
  unfold C_mk at kk
  have hm0 : C_m0 C r s how 9 0 = v + (if C_o0 C s then 1 else 0) := by
    unfold C_m0
    split
    · rw [C_s0_9, hv]
    · rw [hv]; omega
  have hm1 : C_m1 C (C_m0 C r s how) s how 9 0 = v + (if C_o0 C s then 1 else 0) + (if C_o1 C s then 1 else 0) := by
    unfold C_m1
    split
    · rw [C_s1_9, hm0]
    · rw [hm0]; omega
  have fin : ∀ l2 l3 l5 l6, qx sc (D + 3) 25 120 [vr 39, vi s, l2, l3, vi v, l5, l6] [] (0, 0) bb (NS c C (C_m1 C (C_m0 C r s how) s how)) Q := by
    intro l2 l3 l5 l6
    refine n25_e hc s0 s1 ?_ (by rw [hv] at kk; exact kk)
    rw [hm1]
    unfold q_R
    split <;> split <;> omega
  simp only [k25_0, k25_1, k25_4 hc, k25_7, k25_8, k25_9, k25_12, k25_15, k25_17, k25_18, k25_19 hc, NS_co, c_nn, Int.toNat_natCast, true_implies, false_implies, not_true_eq_false, not_false_eq_true, true_and, and_true, implies_true, or_true, true_or, or_false, false_or, Int.reduceEq, Int.one_ne_zero, Nat.reduceEqDiff, e9, hv]
  refine n77 hc s0 s1 (fun g => ?_) (fun g => ?_)
  · simp only [q_kn_v, k25_22, true_implies, false_implies, not_true_eq_false, not_false_eq_true, true_and, and_true, implies_true, or_true, true_or, or_false, false_or, Int.reduceEq, Int.one_ne_zero, Nat.reduceEqDiff]
    have z0 : C_m0 C r s how = r := by unfold C_m0; rw [if_neg (fun h => h.2 g)]
    have z1 : C_m1 C r s how = r := by unfold C_m1; rw [if_neg (fun h => h.2 g)]
    rw [z0, z1] at fin
    exact fin _ _ _ _
  · simp only [q_kn_v, k25_22, k25_25, k25_26, true_implies, false_implies, not_true_eq_false, not_false_eq_true, true_and, and_true, implies_true, or_true, true_or, or_false, false_or, Int.reduceEq, Int.one_ne_zero, Nat.reduceEqDiff]
    have it2 : ∀ l6, qx sc (D + 3) 25 28 [vr 39, vi s, vi how, vr (c + 16), vi v, vi 2, l6] [] (0, 0) bb (NS c C (C_m1 C (C_m0 C r s how) s how)) Q := by
      intro l6
      rw [k25_28]
      simp only [k25_30, k25_31, Int.reduceLT, true_implies, not_true_eq_false, false_implies, and_true]
      exact fin _ _ _ _
    have it1 : ∀ l6, qx sc (D + 3) 25 28 [vr 39, vi s, vi how, vr (c + 16), vi v, vi 1, l6] [] (0, 0) bb (NS c C (C_m0 C r s how)) Q := by
      intro l6
      rw [k25_28]
      simp only [k25_30, k25_31, Int.reduceLT, Int.lt_irrefl, true_implies, not_false_eq_true, false_implies, true_and]
      by_cases g1 : C 20 s = 3
      · obtain ⟨b1, b2, b3, b4, b5⟩ := w1 g1
        have p1 : C_o1 C s := ⟨g1, g⟩
        rw [if_pos p1] at h1
        have f38 : C_m0 C r s how 38 s = r 38 s := by
          unfold C_m0
          split
          · rw [C_s0_ne (by omega) (by omega) (by omega)]
          · rfl
        have f17 : C_m0 C r s how 17 (r 38 s) = r 17 (r 38 s) := by
          unfold C_m0
          split
          · rw [C_s0_ne (by omega) (by omega) (by omega)]
          · rfl
        have it2' := it2
        unfold C_m1 at it2'
        rw [if_pos p1] at it2'
        have hle : (0 : Int) ≤ (if C_o0 C s then 1 else 0) := by split <;> decide
        exact n25_w1 hc rfl (by rw [hm0]; omega) (by rw [hm0]; omega) s0 s1 g1 b1 b2 (by rw [f38]; exact b3) (by rw [f38, hm0]; omega) (by rw [f38, f17]; exact b5) (it2' _)
      · have z1 : C_m1 C (C_m0 C r s how) s how = C_m0 C r s how := by unfold C_m1; rw [if_neg (fun h => g1 h.1)]
        rw [z1] at it2
        simp only [k25_34, k25_35 hc, k25_38, k25_40, k25_41, k25_42, k25_43, k25_44, k25_114, k25_117, true_implies, false_implies, not_true_eq_false, not_false_eq_true, true_and, and_true, implies_true, or_true, true_or, or_false, false_or, Int.reduceEq, Int.one_ne_zero, Nat.reduceEqDiff, qtc_18 hc, qlc_18 hc, c18_1, qtc_20 hc, qlc_20 hc, NS_g (j := 20) hc (by decide), g1, s0, s1, Int.reduceLT, Int.reduceLE, Int.reduceAdd]
        exact ⟨by decide, it2 _⟩
    rw [k25_28]
    simp only [k25_30, k25_31, Int.reduceLT, true_implies, not_false_eq_true, false_implies, true_and]
    by_cases g0 : C 19 s = 3
    · obtain ⟨b1, b2, b3, b4, b5⟩ := w0 g0
      have p0 : C_o0 C s := ⟨g0, g⟩
      rw [if_pos p0] at h1
      unfold C_m0 at it1
      rw [if_pos p0, hv] at it1
      have hle : (0 : Int) ≤ (if C_o1 C s then 1 else 0) := by split <;> decide
      exact n25_w0 hc hv h0 (by omega) s0 s1 g0 b1 b2 b3 b4 b5 (it1 _)
    · have z0 : C_m0 C r s how = r := by unfold C_m0; rw [if_neg (fun h => g0 h.1)]
      rw [z0] at it1
      simp only [k25_34, k25_35 hc, k25_38, k25_40, k25_41, k25_42, k25_43, k25_44, k25_114, k25_117, true_implies, false_implies, not_true_eq_false, not_false_eq_true, true_and, and_true, implies_true, or_true, true_or, or_false, false_or, Int.reduceEq, Int.one_ne_zero, Nat.reduceEqDiff, qtc_18 hc, qlc_18 hc, c18_0, qtc_19 hc, qlc_19 hc, NS_g (j := 19) hc (by decide), g0, s0, s1, Int.reduceLT, Int.reduceLE, Int.le_refl, Int.zero_add]
      exact ⟨by decide, it1 _⟩
end NUE
