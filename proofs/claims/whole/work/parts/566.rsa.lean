/-! a run from its beginning, in the reference -/
section RSC
variable {sc : Nat × (Nat → Int32)} {D : Nat} {bb : Bool} {Q : QP} {ρ ρ' r r0 : St} {pl : Int → Int} {how : Int} {L : List (ST 5)} {c : Nat}
theorem m209_v {l1 : V2} : ∀ (d : Nat) (j : Int) (ρ : St), j + d = 8 → 0 ≤ j → (∀ i, 0 ≤ i → i < j → ρ 183 i = 0) → (∀ ρ', (∀ i, 0 ≤ i → i < 8 → ρ' 183 i = 0) → (∀ a i, ¬ a = 183 → ρ' a i = ρ a i) → qx sc D 209 61 [vr 136, l1, vi 8] [] (0, 0) bb ρ' Q) → qx sc D 209 42 [vr 136, l1, vi j] [] (0, 0) bb ρ Q := by
  intro d
  induction d with
  | zero =>
    intro j ρ hj j0 hi kk
    have e : j = 8 := by omega
    subst e
    rw [k209_42]
    simp only [k209_43, k209_45, Int.lt_irrefl, true_implies, false_implies, not_true_eq_false, not_false_eq_true, true_and, and_true, implies_true, or_true, true_or, or_false, false_or, Int.reduceEq, Int.one_ne_zero, Nat.reduceEqDiff]
    exact kk ρ hi (fun _ _ _ => rfl)
  | succ d ih =>
    intro j ρ hj j0 hi kk
    have g : j < 8 := by omega
    have R1 : q_R (j + 1) = True := eq_true (by omega)
    rw [k209_42]
    simp only [k209_43, k209_45, k209_48, k209_49, k209_52, k209_53, k209_54, k209_55, k209_58, qt_1, ql_1, qt_2, ql_2, qt_3, ql_3, qt_6, ql_6, qt_7, ql_7, qt_8, ql_8, qt_10, ql_10, qt_11, ql_11, qt_12, ql_12, qt_13, ql_13, qt_14, ql_14, qt_15, ql_15, qt_16, ql_16, qt_17, ql_17, qt_18, ql_18, qt_19, ql_19, qt_20, ql_20, qt_21, ql_21, qt_22, ql_22, qt_23, ql_23, qt_24, ql_24, qt_25, ql_25, qt_26, ql_26, qt_28, ql_28, qt_29, ql_29, qt_30, ql_30, qt_31, ql_31, qt_32, ql_32, qt_33, ql_33, qt_34, ql_34, qt_35, ql_35, qt_36, ql_36, qt_37, ql_37, qt_38, ql_38, qt_40, ql_40, qt_41, ql_41, qt_42, ql_42, qt_43, ql_43, qt_44, ql_44, qt_45, ql_45, qt_46, ql_46, qt_47, ql_47, qt_48, ql_48, qt_49, ql_49, qt_50, ql_50, qt_51, ql_51, qt_52, ql_52, qt_53, ql_53, qt_54, ql_54, qt_56, ql_56, qt_57, ql_57, qt_58, ql_58, qt_59, ql_59, qt_60, ql_60, qt_61, ql_61, qt_62, ql_62, qt_63, ql_63, qt_64, ql_64, qt_65, ql_65, qt_67, ql_67, qt_68, ql_68, qt_69, ql_69, qt_70, ql_70, qt_71, ql_71, qt_73, ql_73, qt_74, ql_74, qt_75, ql_75, qt_76, ql_76, qt_78, ql_78, qt_79, ql_79, qt_80, ql_80, qt_81, ql_81, qt_82, ql_82, qt_83, ql_83, qt_84, ql_84, qt_85, ql_85, qt_86, ql_86, qt_87, ql_87, qt_89, ql_89, qt_90, ql_90, qt_91, ql_91, qt_92, ql_92, qt_93, ql_93, qt_94, ql_94, qt_95, ql_95, qt_96, ql_96, qt_97, ql_97, qt_98, ql_98, qt_99, ql_99, qt_100, ql_100, qt_101, ql_101, qt_102, ql_102, qt_103, ql_103, qt_105, ql_105, qt_106, ql_106, qt_107, ql_107, qt_108, ql_108, qt_109, ql_109, qt_110, ql_110, qt_111, ql_111, qt_113, ql_113, qt_114, ql_114, qt_115, ql_115, qt_116, ql_116, qt_117, ql_117, qt_118, ql_118, qt_119, ql_119, qt_120, ql_120, qt_121, ql_121, qt_122, ql_122, qt_123, ql_123, qt_124, ql_124, qt_125, ql_125, qt_126, ql_126, qt_127, ql_127, qt_129, ql_129, qt_130, ql_130, qt_131, ql_131, qt_132, ql_132, qt_133, ql_133, qt_134, ql_134, qt_135, ql_135, qt_137, ql_137, qt_138, ql_138, qt_139, ql_139, qt_140, ql_140, qt_141, ql_141, qt_142, ql_142, qt_143, ql_143, qt_144, ql_144, qt_145, ql_145, qt_146, ql_146, qt_147, ql_147, qt_148, ql_148, qt_149, ql_149, qt_150, ql_150, qt_151, ql_151, qt_152, ql_152, qt_153, ql_153, qt_154, ql_154, qt_155, ql_155, qt_156, ql_156, qt_157, ql_157, qt_158, ql_158, qt_159, ql_159, qt_160, ql_160, qt_161, ql_161, qt_162, ql_162, qt_163, ql_163, qt_164, ql_164, qt_165, ql_165, qt_166, ql_166, qt_167, ql_167, qt_168, ql_168, qt_169, ql_169, qt_170, ql_170, qt_171, ql_171, qt_172, ql_172, qt_173, ql_173, qt_174, ql_174, qt_175, ql_175, qt_176, ql_176, qt_177, ql_177, qt_178, ql_178, qt_179, ql_179, qt_180, ql_180, qt_181, ql_181, qt_182, ql_182, qt_183, ql_183, qt_184, ql_184, qt_185, ql_185, qt_186, ql_186, qt_187, ql_187, qt_188, ql_188, true_implies, false_implies, not_true_eq_false, not_false_eq_true, true_and, and_true, implies_true, or_true, true_or, or_false, false_or, Int.reduceEq, Int.one_ne_zero, Nat.reduceEqDiff, g, j0, R1]
    refine ih (j + 1) _ (by omega) (by omega) (fun i i0 i1 => ?_) (fun ρ' h1 h2 => kk ρ' h1 (fun a i ha => by rw [h2 a i ha, q_up_ne _ _ _ _ ha]))
    by_cases e : i = j
    · subst e; exact q_up_eq _ _ _ _
    · rw [q_up_ne2 _ _ _ e]; exact hi i i0 (by omega)
theorem m209_p {l1 : V2} : ∀ (d : Nat) (j : Int) (ρ : St), j + d = 123 → 0 ≤ j → (∀ i, 0 ≤ i → i < j → ρ 184 i = i % 41) → (∀ ρ', (∀ i, 0 ≤ i → i < 123 → ρ' 184 i = i % 41) → (∀ a i, ¬ a = 184 → ρ' a i = ρ a i) → qx sc D 209 85 [vr 136, l1, vi 123] [] (0, 0) bb ρ' Q) → qx sc D 209 63 [vr 136, l1, vi j] [] (0, 0) bb ρ Q := by
  intro d
  induction d with
  | zero =>
    intro j ρ hj j0 hi kk
    have e : j = 123 := by omega
    subst e
    rw [k209_63]
    simp only [k209_64, k209_66, Int.lt_irrefl, true_implies, false_implies, not_true_eq_false, not_false_eq_true, true_and, and_true, implies_true, or_true, true_or, or_false, false_or, Int.reduceEq, Int.one_ne_zero, Nat.reduceEqDiff]
    exact kk ρ hi (fun _ _ _ => rfl)
  | succ d ih =>
    intro j ρ hj j0 hi kk
    have g : j < 123 := by omega
    have R1 : q_R (j + 1) = True := eq_true (by omega)
    have R2 : q_R (j % 41) = True := eq_true (by omega)
    rw [k209_63]
    simp only [k209_64, k209_66, k209_69, k209_70, k209_73, k209_74, k209_75, k209_77, k209_78, k209_79, k209_82, qt_1, ql_1, qt_2, ql_2, qt_3, ql_3, qt_6, ql_6, qt_7, ql_7, qt_8, ql_8, qt_10, ql_10, qt_11, ql_11, qt_12, ql_12, qt_13, ql_13, qt_14, ql_14, qt_15, ql_15, qt_16, ql_16, qt_17, ql_17, qt_18, ql_18, qt_19, ql_19, qt_20, ql_20, qt_21, ql_21, qt_22, ql_22, qt_23, ql_23, qt_24, ql_24, qt_25, ql_25, qt_26, ql_26, qt_28, ql_28, qt_29, ql_29, qt_30, ql_30, qt_31, ql_31, qt_32, ql_32, qt_33, ql_33, qt_34, ql_34, qt_35, ql_35, qt_36, ql_36, qt_37, ql_37, qt_38, ql_38, qt_40, ql_40, qt_41, ql_41, qt_42, ql_42, qt_43, ql_43, qt_44, ql_44, qt_45, ql_45, qt_46, ql_46, qt_47, ql_47, qt_48, ql_48, qt_49, ql_49, qt_50, ql_50, qt_51, ql_51, qt_52, ql_52, qt_53, ql_53, qt_54, ql_54, qt_56, ql_56, qt_57, ql_57, qt_58, ql_58, qt_59, ql_59, qt_60, ql_60, qt_61, ql_61, qt_62, ql_62, qt_63, ql_63, qt_64, ql_64, qt_65, ql_65, qt_67, ql_67, qt_68, ql_68, qt_69, ql_69, qt_70, ql_70, qt_71, ql_71, qt_73, ql_73, qt_74, ql_74, qt_75, ql_75, qt_76, ql_76, qt_78, ql_78, qt_79, ql_79, qt_80, ql_80, qt_81, ql_81, qt_82, ql_82, qt_83, ql_83, qt_84, ql_84, qt_85, ql_85, qt_86, ql_86, qt_87, ql_87, qt_89, ql_89, qt_90, ql_90, qt_91, ql_91, qt_92, ql_92, qt_93, ql_93, qt_94, ql_94, qt_95, ql_95, qt_96, ql_96, qt_97, ql_97, qt_98, ql_98, qt_99, ql_99, qt_100, ql_100, qt_101, ql_101, qt_102, ql_102, qt_103, ql_103, qt_105, ql_105, qt_106, ql_106, qt_107, ql_107, qt_108, ql_108, qt_109, ql_109, qt_110, ql_110, qt_111, ql_111, qt_113, ql_113, qt_114, ql_114, qt_115, ql_115, qt_116, ql_116, qt_117, ql_117, qt_118, ql_118, qt_119, ql_119, qt_120, ql_120, qt_121, ql_121, qt_122, ql_122, qt_123, ql_123, qt_124, ql_124, qt_125, ql_125, qt_126, ql_126, qt_127, ql_127, qt_129, ql_129, qt_130, ql_130, qt_131, ql_131, qt_132, ql_132, qt_133, ql_133, qt_134, ql_134, qt_135, ql_135, qt_137, ql_137, qt_138, ql_138, qt_139, ql_139, qt_140, ql_140, qt_141, ql_141, qt_142, ql_142, qt_143, ql_143, qt_144, ql_144, qt_145, ql_145, qt_146, ql_146, qt_147, ql_147, qt_148, ql_148, qt_149, ql_149, qt_150, ql_150, qt_151, ql_151, qt_152, ql_152, qt_153, ql_153, qt_154, ql_154, qt_155, ql_155, qt_156, ql_156, qt_157, ql_157, qt_158, ql_158, qt_159, ql_159, qt_160, ql_160, qt_161, ql_161, qt_162, ql_162, qt_163, ql_163, qt_164, ql_164, qt_165, ql_165, qt_166, ql_166, qt_167, ql_167, qt_168, ql_168, qt_169, ql_169, qt_170, ql_170, qt_171, ql_171, qt_172, ql_172, qt_173, ql_173, qt_174, ql_174, qt_175, ql_175, qt_176, ql_176, qt_177, ql_177, qt_178, ql_178, qt_179, ql_179, qt_180, ql_180, qt_181, ql_181, qt_182, ql_182, qt_183, ql_183, qt_184, ql_184, qt_185, ql_185, qt_186, ql_186, qt_187, ql_187, qt_188, ql_188, true_implies, false_implies, not_true_eq_false, not_false_eq_true, true_and, and_true, implies_true, or_true, true_or, or_false, false_or, Int.reduceEq, Int.one_ne_zero, Nat.reduceEqDiff, g, j0, R1, R2, Int.reduceLT]
    refine ih (j + 1) _ (by omega) (by omega) (fun i i0 i1 => ?_) (fun ρ' h1 h2 => kk ρ' h1 (fun a i ha => by rw [h2 a i ha, q_up_ne _ _ _ _ ha]))
    by_cases e : i = j
    · subst e; exact q_up_eq _ _ _ _
    · rw [q_up_ne2 _ _ _ e]; exact hi i i0 (by omega)
theorem m209_w {l1 : V2} : ∀ (d : Nat) (j : Int) (ρ : St), j + d = 700 → 0 ≤ j → (∀ i, 0 ≤ i → i < j → ρ 185 i = 0) → (∀ ρ', (∀ i, 0 ≤ i → i < 700 → ρ' 185 i = 0) → (∀ a i, ¬ a = 185 → ρ' a i = ρ a i) → qx sc D 209 107 [vr 136, l1, vi 700] [] (0, 0) bb ρ' Q) → qx sc D 209 87 [vr 136, l1, vi j] [] (0, 0) bb ρ Q := by
  intro d
  induction d with
  | zero =>
    intro j ρ hj j0 hi kk
    have e : j = 700 := by omega
    subst e
    rw [k209_87]
    simp only [k209_88, k209_91, Int.lt_irrefl, true_implies, false_implies, not_true_eq_false, not_false_eq_true, true_and, and_true, implies_true, or_true, true_or, or_false, false_or, Int.reduceEq, Int.one_ne_zero, Nat.reduceEqDiff]
    exact kk ρ hi (fun _ _ _ => rfl)
  | succ d ih =>
    intro j ρ hj j0 hi kk
    have g : j < 700 := by omega
    have R1 : q_R (j + 1) = True := eq_true (by omega)
    rw [k209_87]
    simp only [k209_88, k209_91, k209_94, k209_95, k209_98, k209_99, k209_100, k209_101, k209_104, qt_1, ql_1, qt_2, ql_2, qt_3, ql_3, qt_6, ql_6, qt_7, ql_7, qt_8, ql_8, qt_10, ql_10, qt_11, ql_11, qt_12, ql_12, qt_13, ql_13, qt_14, ql_14, qt_15, ql_15, qt_16, ql_16, qt_17, ql_17, qt_18, ql_18, qt_19, ql_19, qt_20, ql_20, qt_21, ql_21, qt_22, ql_22, qt_23, ql_23, qt_24, ql_24, qt_25, ql_25, qt_26, ql_26, qt_28, ql_28, qt_29, ql_29, qt_30, ql_30, qt_31, ql_31, qt_32, ql_32, qt_33, ql_33, qt_34, ql_34, qt_35, ql_35, qt_36, ql_36, qt_37, ql_37, qt_38, ql_38, qt_40, ql_40, qt_41, ql_41, qt_42, ql_42, qt_43, ql_43, qt_44, ql_44, qt_45, ql_45, qt_46, ql_46, qt_47, ql_47, qt_48, ql_48, qt_49, ql_49, qt_50, ql_50, qt_51, ql_51, qt_52, ql_52, qt_53, ql_53, qt_54, ql_54, qt_56, ql_56, qt_57, ql_57, qt_58, ql_58, qt_59, ql_59, qt_60, ql_60, qt_61, ql_61, qt_62, ql_62, qt_63, ql_63, qt_64, ql_64, qt_65, ql_65, qt_67, ql_67, qt_68, ql_68, qt_69, ql_69, qt_70, ql_70, qt_71, ql_71, qt_73, ql_73, qt_74, ql_74, qt_75, ql_75, qt_76, ql_76, qt_78, ql_78, qt_79, ql_79, qt_80, ql_80, qt_81, ql_81, qt_82, ql_82, qt_83, ql_83, qt_84, ql_84, qt_85, ql_85, qt_86, ql_86, qt_87, ql_87, qt_89, ql_89, qt_90, ql_90, qt_91, ql_91, qt_92, ql_92, qt_93, ql_93, qt_94, ql_94, qt_95, ql_95, qt_96, ql_96, qt_97, ql_97, qt_98, ql_98, qt_99, ql_99, qt_100, ql_100, qt_101, ql_101, qt_102, ql_102, qt_103, ql_103, qt_105, ql_105, qt_106, ql_106, qt_107, ql_107, qt_108, ql_108, qt_109, ql_109, qt_110, ql_110, qt_111, ql_111, qt_113, ql_113, qt_114, ql_114, qt_115, ql_115, qt_116, ql_116, qt_117, ql_117, qt_118, ql_118, qt_119, ql_119, qt_120, ql_120, qt_121, ql_121, qt_122, ql_122, qt_123, ql_123, qt_124, ql_124, qt_125, ql_125, qt_126, ql_126, qt_127, ql_127, qt_129, ql_129, qt_130, ql_130, qt_131, ql_131, qt_132, ql_132, qt_133, ql_133, qt_134, ql_134, qt_135, ql_135, qt_137, ql_137, qt_138, ql_138, qt_139, ql_139, qt_140, ql_140, qt_141, ql_141, qt_142, ql_142, qt_143, ql_143, qt_144, ql_144, qt_145, ql_145, qt_146, ql_146, qt_147, ql_147, qt_148, ql_148, qt_149, ql_149, qt_150, ql_150, qt_151, ql_151, qt_152, ql_152, qt_153, ql_153, qt_154, ql_154, qt_155, ql_155, qt_156, ql_156, qt_157, ql_157, qt_158, ql_158, qt_159, ql_159, qt_160, ql_160, qt_161, ql_161, qt_162, ql_162, qt_163, ql_163, qt_164, ql_164, qt_165, ql_165, qt_166, ql_166, qt_167, ql_167, qt_168, ql_168, qt_169, ql_169, qt_170, ql_170, qt_171, ql_171, qt_172, ql_172, qt_173, ql_173, qt_174, ql_174, qt_175, ql_175, qt_176, ql_176, qt_177, ql_177, qt_178, ql_178, qt_179, ql_179, qt_180, ql_180, qt_181, ql_181, qt_182, ql_182, qt_183, ql_183, qt_184, ql_184, qt_185, ql_185, qt_186, ql_186, qt_187, ql_187, qt_188, ql_188, true_implies, false_implies, not_true_eq_false, not_false_eq_true, true_and, and_true, implies_true, or_true, true_or, or_false, false_or, Int.reduceEq, Int.one_ne_zero, Nat.reduceEqDiff, g, j0, R1]
    refine ih (j + 1) _ (by omega) (by omega) (fun i i0 i1 => ?_) (fun ρ' h1 h2 => kk ρ' h1 (fun a i ha => by rw [h2 a i ha, q_up_ne _ _ _ _ ha]))
    by_cases e : i = j
    · subst e; exact q_up_eq _ _ _ _
    · rw [q_up_ne2 _ _ _ e]; exact hi i i0 (by omega)
theorem m209_u {l1 : V2} : ∀ (d : Nat) (j : Int) (ρ : St), j + d = 40 → 0 ≤ j → (∀ i, 0 ≤ i → i < j → ρ 187 i = 0) → (∀ ρ', (∀ i, 0 ≤ i → i < 40 → ρ' 187 i = 0) → (∀ a i, ¬ a = 187 → ρ' a i = ρ a i) → qx sc D 209 128 [vr 136, l1, vi 40] [] (0, 0) bb ρ' Q) → qx sc D 209 109 [vr 136, l1, vi j] [] (0, 0) bb ρ Q := by
  intro d
  induction d with
  | zero =>
    intro j ρ hj j0 hi kk
    have e : j = 40 := by omega
    subst e
    rw [k209_109]
    simp only [k209_110, k209_112, Int.lt_irrefl, true_implies, false_implies, not_true_eq_false, not_false_eq_true, true_and, and_true, implies_true, or_true, true_or, or_false, false_or, Int.reduceEq, Int.one_ne_zero, Nat.reduceEqDiff]
    exact kk ρ hi (fun _ _ _ => rfl)
  | succ d ih =>
    intro j ρ hj j0 hi kk
    have g : j < 40 := by omega
    have R1 : q_R (j + 1) = True := eq_true (by omega)
    rw [k209_109]
    simp only [k209_110, k209_112, k209_115, k209_116, k209_119, k209_120, k209_121, k209_122, k209_125, qt_1, ql_1, qt_2, ql_2, qt_3, ql_3, qt_6, ql_6, qt_7, ql_7, qt_8, ql_8, qt_10, ql_10, qt_11, ql_11, qt_12, ql_12, qt_13, ql_13, qt_14, ql_14, qt_15, ql_15, qt_16, ql_16, qt_17, ql_17, qt_18, ql_18, qt_19, ql_19, qt_20, ql_20, qt_21, ql_21, qt_22, ql_22, qt_23, ql_23, qt_24, ql_24, qt_25, ql_25, qt_26, ql_26, qt_28, ql_28, qt_29, ql_29, qt_30, ql_30, qt_31, ql_31, qt_32, ql_32, qt_33, ql_33, qt_34, ql_34, qt_35, ql_35, qt_36, ql_36, qt_37, ql_37, qt_38, ql_38, qt_40, ql_40, qt_41, ql_41, qt_42, ql_42, qt_43, ql_43, qt_44, ql_44, qt_45, ql_45, qt_46, ql_46, qt_47, ql_47, qt_48, ql_48, qt_49, ql_49, qt_50, ql_50, qt_51, ql_51, qt_52, ql_52, qt_53, ql_53, qt_54, ql_54, qt_56, ql_56, qt_57, ql_57, qt_58, ql_58, qt_59, ql_59, qt_60, ql_60, qt_61, ql_61, qt_62, ql_62, qt_63, ql_63, qt_64, ql_64, qt_65, ql_65, qt_67, ql_67, qt_68, ql_68, qt_69, ql_69, qt_70, ql_70, qt_71, ql_71, qt_73, ql_73, qt_74, ql_74, qt_75, ql_75, qt_76, ql_76, qt_78, ql_78, qt_79, ql_79, qt_80, ql_80, qt_81, ql_81, qt_82, ql_82, qt_83, ql_83, qt_84, ql_84, qt_85, ql_85, qt_86, ql_86, qt_87, ql_87, qt_89, ql_89, qt_90, ql_90, qt_91, ql_91, qt_92, ql_92, qt_93, ql_93, qt_94, ql_94, qt_95, ql_95, qt_96, ql_96, qt_97, ql_97, qt_98, ql_98, qt_99, ql_99, qt_100, ql_100, qt_101, ql_101, qt_102, ql_102, qt_103, ql_103, qt_105, ql_105, qt_106, ql_106, qt_107, ql_107, qt_108, ql_108, qt_109, ql_109, qt_110, ql_110, qt_111, ql_111, qt_113, ql_113, qt_114, ql_114, qt_115, ql_115, qt_116, ql_116, qt_117, ql_117, qt_118, ql_118, qt_119, ql_119, qt_120, ql_120, qt_121, ql_121, qt_122, ql_122, qt_123, ql_123, qt_124, ql_124, qt_125, ql_125, qt_126, ql_126, qt_127, ql_127, qt_129, ql_129, qt_130, ql_130, qt_131, ql_131, qt_132, ql_132, qt_133, ql_133, qt_134, ql_134, qt_135, ql_135, qt_137, ql_137, qt_138, ql_138, qt_139, ql_139, qt_140, ql_140, qt_141, ql_141, qt_142, ql_142, qt_143, ql_143, qt_144, ql_144, qt_145, ql_145, qt_146, ql_146, qt_147, ql_147, qt_148, ql_148, qt_149, ql_149, qt_150, ql_150, qt_151, ql_151, qt_152, ql_152, qt_153, ql_153, qt_154, ql_154, qt_155, ql_155, qt_156, ql_156, qt_157, ql_157, qt_158, ql_158, qt_159, ql_159, qt_160, ql_160, qt_161, ql_161, qt_162, ql_162, qt_163, ql_163, qt_164, ql_164, qt_165, ql_165, qt_166, ql_166, qt_167, ql_167, qt_168, ql_168, qt_169, ql_169, qt_170, ql_170, qt_171, ql_171, qt_172, ql_172, qt_173, ql_173, qt_174, ql_174, qt_175, ql_175, qt_176, ql_176, qt_177, ql_177, qt_178, ql_178, qt_179, ql_179, qt_180, ql_180, qt_181, ql_181, qt_182, ql_182, qt_183, ql_183, qt_184, ql_184, qt_185, ql_185, qt_186, ql_186, qt_187, ql_187, qt_188, ql_188, true_implies, false_implies, not_true_eq_false, not_false_eq_true, true_and, and_true, implies_true, or_true, true_or, or_false, false_or, Int.reduceEq, Int.one_ne_zero, Nat.reduceEqDiff, g, j0, R1]
    refine ih (j + 1) _ (by omega) (by omega) (fun i i0 i1 => ?_) (fun ρ' h1 h2 => kk ρ' h1 (fun a i ha => by rw [h2 a i ha, q_up_ne _ _ _ _ ha]))
    by_cases e : i = j
    · subst e; exact q_up_eq _ _ _ _
    · rw [q_up_ne2 _ _ _ e]; exact hi i i0 (by omega)
/-- runs -/
theorem m209 (hd : PRD pl L) (hx : RRX ρ (GG L) pl (nV L) (nS L) (nK L) (nL L) (nD L)) (hhow : 0 ≤ how ∧ how ≤ 2) (h3 : ∀ b, 0 ≤ b → b ≤ 2 → 0 ≤ r 3 b ∧ r 3 b ≤ 40) (h2 : ∀ d, 0 ≤ d → d ≤ 2 → -99 ≤ r 2 d ∧ r 2 d ≤ 99) (hI : INI r r0 c pl (nV L) how) (h181 : ∀ b, 0 ≤ b → b ≤ 2 → ρ 181 b = r 3 b) (h182 : ∀ d, 0 ≤ d → d ≤ 2 → ρ 182 d = r 2 d) (kk : ∀ ρ', RLT ρ' (r_L (GG L) pl (nV L) (nK L) how 5 L 0 r0).1 pl (nV L) how → (∀ a i, ¬ (183 ≤ a ∧ a ≤ 187) → ¬ (a = 136 ∧ 70 ≤ i ∧ i ≤ 77) → ρ' a i = ρ a i) → ρ' 136 70 = (r_L (GG L) pl (nV L) (nK L) how 5 L 0 r0).1 87 0 → Q (.inl none) bb ρ') : qx sc (D + 5) 209 0 [vr 136, vi how, vn] [] (0, 0) bb ρ Q := by
  obtain ⟨hv, hp, -, hC⟩ := hd
  have hb := hp.2.1
  obtain ⟨hL, hG⟩ := INI_GST hv hp h3 h2 hI
  obtain ⟨i1, i2, i3, i4, i5, ⟨e0, e1, e2, e3, e4, e5, e6⟩, i7, i8⟩ := hI
  simp only [k209_0, k209_1, k209_2, k209_5, k209_6, k209_7, k209_10, k209_11, k209_12, k209_15, k209_16, k209_17, k209_20, k209_21, k209_22, k209_25, k209_26, k209_27, k209_30, k209_31, k209_32, k209_35, k209_36, k209_37, k209_40, k209_41]
  refine m209_v 8 0 _ (by decide) (by decide) (fun i i0 i1 => by omega) (fun ρ1 u1 u2 => ?_)
  simp only [k209_61, k209_62]
  refine m209_p 123 0 _ (by decide) (by decide) (fun i i0 i1 => by omega) (fun ρ2 v1 v2 => ?_)
  simp only [k209_85, k209_86]
  refine m209_w 700 0 _ (by decide) (by decide) (fun i i0 i1 => by omega) (fun ρ3 w1 w2 => ?_)
  simp only [k209_107, k209_108]
  refine m209_u 40 0 _ (by decide) (by decide) (fun i i0 i1 => by omega) (fun ρ4 x1 x2 => ?_)
  simp only [k209_128, k209_129]
  have lo : ∀ a i, ¬ (183 ≤ a ∧ a ≤ 187) → ρ4 a i = q_up (q_up (q_up (q_up (q_up (q_up (q_up (q_up ρ 136 77 how) 136 70 (-1)) 136 71 (-1)) 136 72 0) 136 73 0) 136 74 0) 136 75 0) 136 76 0 a i := fun a i ha => by rw [x2 a i (by omega), w2 a i (by omega), v2 a i (by omega), u2 a i (by omega)]
  have fr : ∀ a i, ¬ (183 ≤ a ∧ a ≤ 187) → ¬ (a = 136 ∧ 70 ≤ i ∧ i ≤ 77) → ρ4 a i = ρ a i := by
    intro a i ha hi
    rw [lo a i ha]
    by_cases e : a = 136
    · subst e
      rw [q_up_ne2 _ _ _ (by omega), q_up_ne2 _ _ _ (by omega), q_up_ne2 _ _ _ (by omega), q_up_ne2 _ _ _ (by omega), q_up_ne2 _ _ _ (by omega), q_up_ne2 _ _ _ (by omega), q_up_ne2 _ _ _ (by omega), q_up_ne2 _ _ _ (by omega)]
    · rw [q_up_ne _ _ _ _ e, q_up_ne _ _ _ _ e, q_up_ne _ _ _ _ e, q_up_ne _ _ _ _ e, q_up_ne _ _ _ _ e, q_up_ne _ _ _ _ e, q_up_ne _ _ _ _ e, q_up_ne _ _ _ _ e]
  have f70 : ρ4 136 70 = -1 := by rw [lo 136 70 (by omega)]; rfl
  have hx4 : RRX ρ4 (GG L) pl (nV L) (nS L) (nK L) (nL L) (nD L) := ⟨RK_of hx.1 (fun a i q => fr a i (by omega) (by omega)), STN_of hx.2.1 (fun a i q => fr a i (by omega) (by omega)), KNW_of hx.2.2 (fun a i q => fr a i (by omega) (by omega))⟩
  have e141 := hx.1.2.1
  have hl4 : RLT ρ4 r0 pl (nV L) how := by
    refine ⟨fun x x0 x1 => ?_, fun j j0 j1 => ?_, fun w w0 w1' => ?_, fun k k0 k1 => ?_, fun l l0 l1 => ?_, ⟨?_, ?_, ?_, ?_, ?_, ?_⟩, ?_, fun b b0 b1 bt => ?_, fun d d0 d1 => ?_⟩
    · rw [x2 183 x (by omega), w2 183 x (by omega), v2 183 x (by omega), u1 x x0 (by omega), i3 x x0 x1]
    · have p : ∀ i, 0 ≤ i → i < 123 → ρ4 184 i = i % 41 := fun i i0 i1 => by rw [x2 184 i (by omega), w2 184 i (by omega)]; exact v1 i i0 i1
      obtain ⟨q1, q2, q3⟩ := i8 j j0 j1
      rw [q1, q2, q3, p j j0 (by omega), p (41 + j) (by omega) (by omega), p (82 + j) (by omega) (by omega)]
      omega
    · rw [x2 185 w (by omega), w1 w w0 (by omega), i5 w w0 w1']
    · rw [e3] at k1; omega
    · rw [x1 l l0 l1, i4 l l0 l1]
    · rw [lo 136 71 (by omega), e1]; rfl
    · rw [lo 136 72 (by omega), e2]; rfl
    · rw [lo 136 73 (by omega), e3]; rfl
    · rw [lo 136 74 (by omega), e4]; rfl
    · rw [lo 136 75 (by omega), e5]; rfl
    · rw [lo 136 76 (by omega), e6]; rfl
    · rw [lo 136 77 (by omega)]; rfl
    · rw [fr 181 b (by omega) (by omega), fr 141 b (by omega) (by omega), h181 b b0 b1, e141 b (by omega), q_of_t bt, i7 b b0 b1]
    · rw [fr 182 d (by omega) (by omega), h182 d d0 d1, i1 2 d (by unfold RUC; omega) (by decide) (by omega)]
  have hres := (RES_S (how := how) hp hL 5).2 L hv (-1) 0 0 0 8 0 id8 (PCX_P hv) r0 hG
  have hrun := ((RCO (how := how) (Cn := nD L) hp hL hC hhow 5).2 L hv (-1) 0 0 0 8 0 id8 (PCX_P hv)) sc D bb r0 (Int.le_refl 0)
  have ez : (0 : Int) + ((n_LL 5 L 0 0 0 8 0 (-1) id8).2.2.2.2.2.length : Nat) = (nD L : Nat) := by rw [Int.zero_add]; rfl
  rw [ez] at hrun
  refine hrun (Int.le_refl _) hG (Or.inr i4) Q ρ4 (vi how) hx4 hl4 f70 (fun q ρ' a1 a2 a3 a4 => ?_) (fun q ρ' a1 a2 a3 => ?_)
  · have e18 : ρ' 136 18 = (nD L : Nat) := a1.1.1.2.2.2.2.2
    have e0' : (r_L (GG L) pl (nV L) (nK L) how 5 L 0 r0).1 87 0 = 0 := (hres.2.1 q).1.1.2.2.2.2.2.2.1
    rw [k209_130]
    simp only [k209_131, k209_134, k209_135, k209_138, k209_139, k209_140, k209_143, k209_146, k209_147, k209_148, true_implies, false_implies, not_true_eq_false, not_false_eq_true, true_and, and_true, implies_true, or_true, true_or, or_false, false_or, Int.reduceEq, Int.one_ne_zero, Nat.reduceEqDiff, a4, e18, k146_0, k146_1, k146_2, k146_5, k146_6, q_kn_v, k209_151, k209_159, k209_160]
    refine X_end (by rw [q_up_eq]; decide) (kk _ a2 (fun a i h1 h2 => ?_) (by rw [q_up_eq, e0']))
    rw [FRE_70 a i h1 (by omega), a3 a i h1 (by omega)]
    exact fr a i h1 h2
  · refine kk ρ' a1 (fun a i h1 h2 => ?_) a3
    rw [a2 a i h1 (by omega)]
    exact fr a i h1 h2
end RSC
