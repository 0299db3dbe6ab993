/-! the reference reads a text, or keeps the one it had -/
section RPE
variable {sc : Nat × (Nat → Int32)} {D : Nat} {bb : Bool} {Q : QP} {σ σ0 σ' : St} {m : Int} {L : List (ST 5)} {pl f inp len g : Int → Int} {n ft a b x y k w v l s ab lo hi e : Int} {O : OC}
theorem s203_a (n0 : 0 ≤ n) (n4 : n ≤ 400) (h2 : σ0 136 2 = n) (hb : t_by (σ0 137) n) {l2 : V2} (kk : ∀ σ, AGR (σ 139) (σ0 137) n → (∀ a i, ¬ a = 139 → σ a i = σ0 a i) → qx sc D 203 41 [vr 136, vi n, l2] [] (0, 0) bb σ Q) : ∀ (d : Nat) (j : Int) (σ : St), j + d = n → 0 ≤ j → AGR (σ 139) (σ0 137) j → (∀ a i, ¬ a = 139 → σ a i = σ0 a i) → qx sc D 203 15 [vr 136, vi j, l2] [] (0, 0) bb σ Q := by
  intro d
  induction d with
  | zero =>
    intro j σ hj j0 h1 hF
    have e : j = n := by omega
    subst e
    have g2 : σ 136 2 = j := by rw [hF 136 2 (by decide)]; exact h2
    rw [k203_15]
    simp only [k203_16, k203_17, k203_20, g2, Int.lt_irrefl, true_implies, false_implies, not_true_eq_false, not_false_eq_true, true_and, and_true, implies_true, or_true, true_or, or_false, false_or, Int.reduceEq, Int.one_ne_zero, Nat.reduceEqDiff]
    exact kk σ h1 hF
  | succ d ih =>
    intro j σ hj j0 h1 hF
    have g2 : σ 136 2 = n := by rw [hF 136 2 (by decide)]; exact h2
    have jn : j < n := by omega
    have j4 : j < 400 := by omega
    have hs : σ 137 j = σ0 137 j := hF 137 j (by decide)
    have hbj := hb j j0 jn
    have R : q_R (j + 1) = True := eq_true (by unfold q_R; omega)
    rw [k203_15]
    simp only [k203_16, k203_17, k203_20, k203_23, k203_24, k203_27, k203_28, k203_29, k203_32, k203_33, k203_34, k203_35, k203_38, g2, jn, qt_1, ql_1, qt_2, ql_2, qt_3, ql_3, qt_6, ql_6, qt_7, ql_7, qt_8, ql_8, qt_10, ql_10, qt_11, ql_11, qt_12, ql_12, qt_13, ql_13, qt_14, ql_14, qt_15, ql_15, qt_16, ql_16, qt_17, ql_17, qt_18, ql_18, qt_19, ql_19, qt_20, ql_20, qt_21, ql_21, qt_22, ql_22, qt_23, ql_23, qt_24, ql_24, qt_25, ql_25, qt_26, ql_26, qt_28, ql_28, qt_29, ql_29, qt_30, ql_30, qt_31, ql_31, qt_32, ql_32, qt_33, ql_33, qt_34, ql_34, qt_35, ql_35, qt_36, ql_36, qt_37, ql_37, qt_38, ql_38, qt_40, ql_40, qt_41, ql_41, qt_42, ql_42, qt_43, ql_43, qt_44, ql_44, qt_45, ql_45, qt_46, ql_46, qt_47, ql_47, qt_48, ql_48, qt_49, ql_49, qt_50, ql_50, qt_51, ql_51, qt_52, ql_52, qt_53, ql_53, qt_54, ql_54, qt_56, ql_56, qt_57, ql_57, qt_58, ql_58, qt_59, ql_59, qt_60, ql_60, qt_61, ql_61, qt_62, ql_62, qt_63, ql_63, qt_64, ql_64, qt_65, ql_65, qt_67, ql_67, qt_68, ql_68, qt_69, ql_69, qt_70, ql_70, qt_71, ql_71, qt_73, ql_73, qt_74, ql_74, qt_75, ql_75, qt_76, ql_76, qt_78, ql_78, qt_79, ql_79, qt_80, ql_80, qt_81, ql_81, qt_82, ql_82, qt_83, ql_83, qt_84, ql_84, qt_85, ql_85, qt_86, ql_86, qt_87, ql_87, qt_89, ql_89, qt_90, ql_90, qt_91, ql_91, qt_92, ql_92, qt_93, ql_93, qt_94, ql_94, qt_95, ql_95, qt_96, ql_96, qt_97, ql_97, qt_98, ql_98, qt_99, ql_99, qt_100, ql_100, qt_101, ql_101, qt_102, ql_102, qt_103, ql_103, qt_105, ql_105, qt_106, ql_106, qt_107, ql_107, qt_108, ql_108, qt_109, ql_109, qt_110, ql_110, qt_111, ql_111, qt_113, ql_113, qt_114, ql_114, qt_115, ql_115, qt_116, ql_116, qt_117, ql_117, qt_118, ql_118, qt_119, ql_119, qt_120, ql_120, qt_121, ql_121, qt_122, ql_122, qt_123, ql_123, qt_124, ql_124, qt_125, ql_125, qt_126, ql_126, qt_127, ql_127, qt_129, ql_129, qt_130, ql_130, qt_131, ql_131, qt_132, ql_132, qt_133, ql_133, qt_134, ql_134, qt_135, ql_135, qt_137, ql_137, qt_138, ql_138, qt_139, ql_139, qt_140, ql_140, qt_141, ql_141, qt_142, ql_142, qt_143, ql_143, qt_144, ql_144, qt_145, ql_145, qt_146, ql_146, qt_147, ql_147, qt_148, ql_148, qt_149, ql_149, qt_150, ql_150, qt_151, ql_151, qt_152, ql_152, qt_153, ql_153, qt_154, ql_154, qt_155, ql_155, qt_156, ql_156, qt_157, ql_157, qt_158, ql_158, qt_159, ql_159, qt_160, ql_160, qt_161, ql_161, qt_162, ql_162, qt_163, ql_163, qt_164, ql_164, qt_165, ql_165, qt_166, ql_166, qt_167, ql_167, qt_168, ql_168, qt_169, ql_169, qt_170, ql_170, qt_171, ql_171, qt_172, ql_172, qt_173, ql_173, qt_174, ql_174, qt_175, ql_175, qt_176, ql_176, qt_177, ql_177, qt_178, ql_178, qt_179, ql_179, qt_180, ql_180, qt_181, ql_181, qt_182, ql_182, qt_183, ql_183, qt_184, ql_184, qt_185, ql_185, qt_186, ql_186, qt_187, ql_187, qt_188, ql_188, true_implies, false_implies, not_true_eq_false, not_false_eq_true, true_and, and_true, implies_true, or_true, true_or, or_false, false_or, Int.reduceEq, Int.one_ne_zero, Nat.reduceEqDiff, j0, j4, hs, hbj.1, hbj.2, R]
    refine ih (j + 1) _ (by omega) (by omega) (fun i i0 i1 => ?_) (fun a i h => ?_)
    · rw [q_up_app]
      by_cases e : i = j
      · rw [if_pos ⟨rfl, e⟩, e]
      · rw [if_neg (by omega)]; exact h1 i i0 (by omega)
    · rw [q_up_ne _ _ _ _ h]; exact hF a i h
theorem s203_b (n0 : 0 ≤ n) (n4 : n ≤ 400) (h2 : σ0 136 6 = n) (hb : t_by (σ0 139) n) {l1 : V2} (kk : ∀ σ, AGR (σ 140) (σ0 139) n → (∀ a i, ¬ a = 140 → σ a i = σ0 a i) → qx sc D 203 99 [vr 136, l1, vi n] [] (0, 0) bb σ Q) : ∀ (d : Nat) (j : Int) (σ : St), j + d = n → 0 ≤ j → AGR (σ 140) (σ0 139) j → (∀ a i, ¬ a = 140 → σ a i = σ0 a i) → qx sc D 203 73 [vr 136, l1, vi j] [] (0, 0) bb σ Q := by
  intro d
  induction d with
  | zero =>
    intro j σ hj j0 h1 hF
    have e : j = n := by omega
    subst e
    have g2 : σ 136 6 = j := by rw [hF 136 6 (by decide)]; exact h2
    rw [k203_73]
    simp only [k203_74, k203_75, k203_78, g2, Int.lt_irrefl, true_implies, false_implies, not_true_eq_false, not_false_eq_true, true_and, and_true, implies_true, or_true, true_or, or_false, false_or, Int.reduceEq, Int.one_ne_zero, Nat.reduceEqDiff]
    exact kk σ h1 hF
  | succ d ih =>
    intro j σ hj j0 h1 hF
    have g2 : σ 136 6 = n := by rw [hF 136 6 (by decide)]; exact h2
    have jn : j < n := by omega
    have j4 : j < 400 := by omega
    have hs : σ 139 j = σ0 139 j := hF 139 j (by decide)
    have hbj := hb j j0 jn
    have R : q_R (j + 1) = True := eq_true (by unfold q_R; omega)
    rw [k203_73]
    simp only [k203_74, k203_75, k203_78, k203_81, k203_82, k203_85, k203_86, k203_87, k203_90, k203_91, k203_92, k203_93, k203_96, g2, jn, qt_1, ql_1, qt_2, ql_2, qt_3, ql_3, qt_6, ql_6, qt_7, ql_7, qt_8, ql_8, qt_10, ql_10, qt_11, ql_11, qt_12, ql_12, qt_13, ql_13, qt_14, ql_14, qt_15, ql_15, qt_16, ql_16, qt_17, ql_17, qt_18, ql_18, qt_19, ql_19, qt_20, ql_20, qt_21, ql_21, qt_22, ql_22, qt_23, ql_23, qt_24, ql_24, qt_25, ql_25, qt_26, ql_26, qt_28, ql_28, qt_29, ql_29, qt_30, ql_30, qt_31, ql_31, qt_32, ql_32, qt_33, ql_33, qt_34, ql_34, qt_35, ql_35, qt_36, ql_36, qt_37, ql_37, qt_38, ql_38, qt_40, ql_40, qt_41, ql_41, qt_42, ql_42, qt_43, ql_43, qt_44, ql_44, qt_45, ql_45, qt_46, ql_46, qt_47, ql_47, qt_48, ql_48, qt_49, ql_49, qt_50, ql_50, qt_51, ql_51, qt_52, ql_52, qt_53, ql_53, qt_54, ql_54, qt_56, ql_56, qt_57, ql_57, qt_58, ql_58, qt_59, ql_59, qt_60, ql_60, qt_61, ql_61, qt_62, ql_62, qt_63, ql_63, qt_64, ql_64, qt_65, ql_65, qt_67, ql_67, qt_68, ql_68, qt_69, ql_69, qt_70, ql_70, qt_71, ql_71, qt_73, ql_73, qt_74, ql_74, qt_75, ql_75, qt_76, ql_76, qt_78, ql_78, qt_79, ql_79, qt_80, ql_80, qt_81, ql_81, qt_82, ql_82, qt_83, ql_83, qt_84, ql_84, qt_85, ql_85, qt_86, ql_86, qt_87, ql_87, qt_89, ql_89, qt_90, ql_90, qt_91, ql_91, qt_92, ql_92, qt_93, ql_93, qt_94, ql_94, qt_95, ql_95, qt_96, ql_96, qt_97, ql_97, qt_98, ql_98, qt_99, ql_99, qt_100, ql_100, qt_101, ql_101, qt_102, ql_102, qt_103, ql_103, qt_105, ql_105, qt_106, ql_106, qt_107, ql_107, qt_108, ql_108, qt_109, ql_109, qt_110, ql_110, qt_111, ql_111, qt_113, ql_113, qt_114, ql_114, qt_115, ql_115, qt_116, ql_116, qt_117, ql_117, qt_118, ql_118, qt_119, ql_119, qt_120, ql_120, qt_121, ql_121, qt_122, ql_122, qt_123, ql_123, qt_124, ql_124, qt_125, ql_125, qt_126, ql_126, qt_127, ql_127, qt_129, ql_129, qt_130, ql_130, qt_131, ql_131, qt_132, ql_132, qt_133, ql_133, qt_134, ql_134, qt_135, ql_135, qt_137, ql_137, qt_138, ql_138, qt_139, ql_139, qt_140, ql_140, qt_141, ql_141, qt_142, ql_142, qt_143, ql_143, qt_144, ql_144, qt_145, ql_145, qt_146, ql_146, qt_147, ql_147, qt_148, ql_148, qt_149, ql_149, qt_150, ql_150, qt_151, ql_151, qt_152, ql_152, qt_153, ql_153, qt_154, ql_154, qt_155, ql_155, qt_156, ql_156, qt_157, ql_157, qt_158, ql_158, qt_159, ql_159, qt_160, ql_160, qt_161, ql_161, qt_162, ql_162, qt_163, ql_163, qt_164, ql_164, qt_165, ql_165, qt_166, ql_166, qt_167, ql_167, qt_168, ql_168, qt_169, ql_169, qt_170, ql_170, qt_171, ql_171, qt_172, ql_172, qt_173, ql_173, qt_174, ql_174, qt_175, ql_175, qt_176, ql_176, qt_177, ql_177, qt_178, ql_178, qt_179, ql_179, qt_180, ql_180, qt_181, ql_181, qt_182, ql_182, qt_183, ql_183, qt_184, ql_184, qt_185, ql_185, qt_186, ql_186, qt_187, ql_187, qt_188, ql_188, true_implies, false_implies, not_true_eq_false, not_false_eq_true, true_and, and_true, implies_true, or_true, true_or, or_false, false_or, Int.reduceEq, Int.one_ne_zero, Nat.reduceEqDiff, j0, j4, hs, hbj.1, hbj.2, R]
    refine ih (j + 1) _ (by omega) (by omega) (fun i i0 i1 => ?_) (fun a i h => ?_)
    · rw [q_up_app]
      by_cases e : i = j
      · rw [if_pos ⟨rfl, e⟩, e]
      · rw [if_neg (by omega)]; exact h1 i i0 (by omega)
    · rw [q_up_ne _ _ _ _ h]; exact hF a i h
theorem s203_c (n0 : 0 ≤ n) (n4 : n ≤ 400) (h2 : σ0 136 6 = n) (hb : t_by (σ0 140) n) {l1 : V2} (kk : ∀ σ, AGR (σ 139) (σ0 140) n → (∀ a i, ¬ a = 139 → σ a i = σ0 a i) → qx sc D 203 145 [vr 136, l1, vi n] [] (0, 0) bb σ Q) : ∀ (d : Nat) (j : Int) (σ : St), j + d = n → 0 ≤ j → AGR (σ 139) (σ0 140) j → (∀ a i, ¬ a = 139 → σ a i = σ0 a i) → qx sc D 203 119 [vr 136, l1, vi j] [] (0, 0) bb σ Q := by
  intro d
  induction d with
  | zero =>
    intro j σ hj j0 h1 hF
    have e : j = n := by omega
    subst e
    have g2 : σ 136 6 = j := by rw [hF 136 6 (by decide)]; exact h2
    rw [k203_119]
    simp only [k203_120, k203_121, k203_124, g2, Int.lt_irrefl, true_implies, false_implies, not_true_eq_false, not_false_eq_true, true_and, and_true, implies_true, or_true, true_or, or_false, false_or, Int.reduceEq, Int.one_ne_zero, Nat.reduceEqDiff]
    exact kk σ h1 hF
  | succ d ih =>
    intro j σ hj j0 h1 hF
    have g2 : σ 136 6 = n := by rw [hF 136 6 (by decide)]; exact h2
    have jn : j < n := by omega
    have j4 : j < 400 := by omega
    have hs : σ 140 j = σ0 140 j := hF 140 j (by decide)
    have hbj := hb j j0 jn
    have R : q_R (j + 1) = True := eq_true (by unfold q_R; omega)
    rw [k203_119]
    simp only [k203_120, k203_121, k203_124, k203_127, k203_128, k203_131, k203_132, k203_133, k203_136, k203_137, k203_138, k203_139, k203_142, g2, jn, qt_1, ql_1, qt_2, ql_2, qt_3, ql_3, qt_6, ql_6, qt_7, ql_7, qt_8, ql_8, qt_10, ql_10, qt_11, ql_11, qt_12, ql_12, qt_13, ql_13, qt_14, ql_14, qt_15, ql_15, qt_16, ql_16, qt_17, ql_17, qt_18, ql_18, qt_19, ql_19, qt_20, ql_20, qt_21, ql_21, qt_22, ql_22, qt_23, ql_23, qt_24, ql_24, qt_25, ql_25, qt_26, ql_26, qt_28, ql_28, qt_29, ql_29, qt_30, ql_30, qt_31, ql_31, qt_32, ql_32, qt_33, ql_33, qt_34, ql_34, qt_35, ql_35, qt_36, ql_36, qt_37, ql_37, qt_38, ql_38, qt_40, ql_40, qt_41, ql_41, qt_42, ql_42, qt_43, ql_43, qt_44, ql_44, qt_45, ql_45, qt_46, ql_46, qt_47, ql_47, qt_48, ql_48, qt_49, ql_49, qt_50, ql_50, qt_51, ql_51, qt_52, ql_52, qt_53, ql_53, qt_54, ql_54, qt_56, ql_56, qt_57, ql_57, qt_58, ql_58, qt_59, ql_59, qt_60, ql_60, qt_61, ql_61, qt_62, ql_62, qt_63, ql_63, qt_64, ql_64, qt_65, ql_65, qt_67, ql_67, qt_68, ql_68, qt_69, ql_69, qt_70, ql_70, qt_71, ql_71, qt_73, ql_73, qt_74, ql_74, qt_75, ql_75, qt_76, ql_76, qt_78, ql_78, qt_79, ql_79, qt_80, ql_80, qt_81, ql_81, qt_82, ql_82, qt_83, ql_83, qt_84, ql_84, qt_85, ql_85, qt_86, ql_86, qt_87, ql_87, qt_89, ql_89, qt_90, ql_90, qt_91, ql_91, qt_92, ql_92, qt_93, ql_93, qt_94, ql_94, qt_95, ql_95, qt_96, ql_96, qt_97, ql_97, qt_98, ql_98, qt_99, ql_99, qt_100, ql_100, qt_101, ql_101, qt_102, ql_102, qt_103, ql_103, qt_105, ql_105, qt_106, ql_106, qt_107, ql_107, qt_108, ql_108, qt_109, ql_109, qt_110, ql_110, qt_111, ql_111, qt_113, ql_113, qt_114, ql_114, qt_115, ql_115, qt_116, ql_116, qt_117, ql_117, qt_118, ql_118, qt_119, ql_119, qt_120, ql_120, qt_121, ql_121, qt_122, ql_122, qt_123, ql_123, qt_124, ql_124, qt_125, ql_125, qt_126, ql_126, qt_127, ql_127, qt_129, ql_129, qt_130, ql_130, qt_131, ql_131, qt_132, ql_132, qt_133, ql_133, qt_134, ql_134, qt_135, ql_135, qt_137, ql_137, qt_138, ql_138, qt_139, ql_139, qt_140, ql_140, qt_141, ql_141, qt_142, ql_142, qt_143, ql_143, qt_144, ql_144, qt_145, ql_145, qt_146, ql_146, qt_147, ql_147, qt_148, ql_148, qt_149, ql_149, qt_150, ql_150, qt_151, ql_151, qt_152, ql_152, qt_153, ql_153, qt_154, ql_154, qt_155, ql_155, qt_156, ql_156, qt_157, ql_157, qt_158, ql_158, qt_159, ql_159, qt_160, ql_160, qt_161, ql_161, qt_162, ql_162, qt_163, ql_163, qt_164, ql_164, qt_165, ql_165, qt_166, ql_166, qt_167, ql_167, qt_168, ql_168, qt_169, ql_169, qt_170, ql_170, qt_171, ql_171, qt_172, ql_172, qt_173, ql_173, qt_174, ql_174, qt_175, ql_175, qt_176, ql_176, qt_177, ql_177, qt_178, ql_178, qt_179, ql_179, qt_180, ql_180, qt_181, ql_181, qt_182, ql_182, qt_183, ql_183, qt_184, ql_184, qt_185, ql_185, qt_186, ql_186, qt_187, ql_187, qt_188, ql_188, true_implies, false_implies, not_true_eq_false, not_false_eq_true, true_and, and_true, implies_true, or_true, true_or, or_false, false_or, Int.reduceEq, Int.one_ne_zero, Nat.reduceEqDiff, j0, j4, hs, hbj.1, hbj.2, R]
    refine ih (j + 1) _ (by omega) (by omega) (fun i i0 i1 => ?_) (fun a i h => ?_)
    · rw [q_up_app]
      by_cases e : i = j
      · rw [if_pos ⟨rfl, e⟩, e]
      · rw [if_neg (by omega)]; exact h1 i i0 (by omega)
    · rw [q_up_ne _ _ _ _ h]; exact hF a i h
theorem RP_lo {S r : St} {p b ft dp i : Int} {a : Nat} (h : ¬ (142 ≤ a ∧ a ≤ 172)) (h2 : a = 136 → i = 0 ∨ i = 2 ∨ i = 6 ∨ i = 7 ∨ i = 52 ∨ i = 54) : RP S r p b ft dp a i = r a i := by
  unfold RP
  by_cases e : a = 136
  · have := h2 e
    rw [if_pos e, if_neg (by omega), if_neg (by omega), if_neg (by omega), if_neg (by omega), if_neg (by omega), e]
  · rw [if_neg e, if_neg h]
/-- read -/
theorem s203 (hI : RI σ L pl n f ft inp len) (kF : ∀ q, p_P f n = .inl q → RPO Q bb σ (.inr (0, 1)) L pl 0 f q inp len) (kS : ∀ pl' L' cnt z, p_P f n = .inr ((pl', L', cnt), z) → RPO Q bb σ (.inl (nS L')) L' pl' 0 f (-1) inp len) : qx sc (D + 40) 203 0 [vr 136, vn, vn] [] (0, 0) bb σ Q := by
  obtain ⟨h2, n0, n4, hA, hB⟩ := hI.2.2.1
  have g2 : q_up σ 136 0 0 136 2 = n := by rw [u0_ne _ _ (by decide)]; exact h2
  simp only [k203_0, k203_1, k203_2, k203_5, k203_6, k203_7, k203_10, k203_13, k203_14, g2]
  obtain ⟨σ0, hs0⟩ : ∃ σ0, σ0 = q_up (q_up σ 136 0 0) 136 6 n := ⟨_, rfl⟩
  rw [← hs0]
  have f0 : ∀ a i, ¬ (a = 136 ∧ (i = 0 ∨ i = 6)) → σ0 a i = σ a i := fun a i h => by rw [hs0, q_up_app, if_neg (by omega), q_up_app, if_neg (by omega)]
  have b6 : σ0 136 6 = n := by rw [hs0, q_up_eq]
  have b0 : σ0 136 0 = 0 := by rw [hs0, q_up_ne2 _ _ _ (by decide), q_up_eq]
  have e137 : σ0 137 = σ 137 := funext (fun i => f0 137 i (by omega))
  have t137 : t_by (σ0 137) n := by rw [e137]; exact fun i i0 i1 => by rw [hA i i0 i1]; exact hB i i0 i1
  refine s203_a n0 n4 (by rw [f0 136 2 (by decide)]; exact h2) t137 (fun σ1 a1 a2 => ?_) n.toNat 0 σ0 (by omega) (by decide) (fun i i0 i1 => absurd i1 (by omega)) (fun _ _ _ => rfl)
  simp only [k203_41, k203_42, k203_43, k203_46, k203_47]
  obtain ⟨σ2, hs2⟩ : ∃ σ2, σ2 = q_up σ1 136 2 0 := ⟨_, rfl⟩
  rw [← hs2]
  have f2 : ∀ a i, ¬ a = 139 → ¬ (a = 136 ∧ i = 2) → σ2 a i = σ0 a i := fun a i h h' => by rw [hs2, q_up_app, if_neg h', a2 a i h]
  have c6 : σ2 136 6 = n := by rw [f2 136 6 (by decide) (by decide)]; exact b6
  have c2 : σ2 136 2 = 0 := by rw [hs2, q_up_eq]
  have c0 : σ2 136 0 = 0 := by rw [f2 136 0 (by decide) (by decide)]; exact b0
  have hAG : AGR (σ2 139) f n := fun i i0 i1 => by rw [hs2, q_up_ne _ _ _ _ (by decide), a1 i i0 i1, e137]; exact hA i i0 i1
  have hP : p_P (σ2 139) (σ2 136 6) = p_P f n := by rw [c6]; exact x_P hAG hB
  have hRH : RH σ2 := by
    refine ⟨by rw [c6]; exact n0, by rw [c6]; exact n4, ?_⟩
    rw [c6]
    exact fun i i0 i1 => by rw [hAG i i0 i1]; exact hB i i0 i1
  have f02 : ∀ a i, ¬ a = 139 → ¬ (a = 136 ∧ (i = 0 ∨ i = 2 ∨ i = 6)) → σ2 a i = σ a i := fun a i h h' => by rw [f2 a i h (by omega), f0 a i (by omega)]
  have h6 : ∀ d, 0 ≤ d → d ≤ 2 → (σ2 182 d = inp d ∧ σ2 181 d = len d) ∧ (-99 ≤ inp d ∧ inp d ≤ 99) ∧ (0 ≤ len d ∧ len d ≤ 40) := fun d d0 d1 => by
    rw [f02 182 d (by decide) (by omega), f02 181 d (by decide) (by omega)]; exact hI.2.2.2.2.2 d d0 d1
  rw [show D + 39 = 24 + (D + 4) + 11 by omega, ← RP_eta σ2]
  refine m204 hRH (fun S' r' p' b' q e1 hFR => ?_) (fun σ' pl' L' cnt z e1 hPR ec hST e10 fr => ?_)
  · rw [hP] at e1
    rw [show 24 + (D + 4) + 11 + 1 = D + 40 by omega]
    have ft1 : RP S' r' p' b' q 0 136 10 = q := RP_ft
    simp only [q_kn_v, k203_50, k203_51, k203_52, k203_53, k203_56, k203_59, k203_60, k203_104, k203_105, k203_106, k203_109, k203_110, k203_111, k203_114, k203_117, k203_118, ft1, true_implies, false_implies, not_true_eq_false, not_false_eq_true, true_and, and_true, implies_true, or_true, true_or, or_false, false_or, Int.reduceEq, Int.one_ne_zero, Nat.reduceEqDiff]
    have l1 : ∀ a i, ¬ (141 ≤ a ∧ a ≤ 172) → (a = 136 → i = 0 ∨ i = 2 ∨ i = 6 ∨ i = 7 ∨ i = 52 ∨ i = 54) → RP S' r' p' b' q 0 a i = σ2 a i := fun a i h h' => by
      rw [RP_lo (by omega) h', hFR a i (by omega) (by omega)]
    have d7 : RP S' r' p' b' q 0 136 7 = σ 136 7 := by rw [l1 136 7 (by decide) (by omega), f02 136 7 (by decide) (by decide)]
    obtain ⟨k0, k4, kt, cnt, z, kP⟩ := hI.2.2.2.1
    obtain ⟨τ, hτ⟩ : ∃ τ, τ = RP S' r' p' b' q 0 := ⟨_, rfl⟩
    rw [← hτ] at l1 d7 ⊢
    have d7' : q_up (q_up τ 136 52 q) 136 0 1 136 7 = σ 136 7 := by rw [q_up_app, if_neg (by decide), q_up_app, if_neg (by decide)]; exact d7
    rw [d7']
    obtain ⟨σ3, hs3⟩ : ∃ σ3, σ3 = q_up (q_up (q_up τ 136 52 q) 136 0 1) 136 6 (σ 136 7) := ⟨_, rfl⟩
    rw [← hs3]
    have f3 : ∀ a i, ¬ (a = 136 ∧ (i = 52 ∨ i = 0 ∨ i = 6)) → σ3 a i = τ a i := fun a i h => by rw [hs3, q_up_app, if_neg (by omega), q_up_app, if_neg (by omega), q_up_app, if_neg (by omega)]
    have e140 : σ3 140 = σ 140 := funext (fun i => by rw [f3 140 i (by omega), l1 140 i (by decide) (by omega), f02 140 i (by decide) (by omega)])
    have d6 : σ3 136 6 = σ 136 7 := by rw [hs3, q_up_eq]
    have d0 : σ3 136 0 = 1 := by rw [hs3, q_up_ne2 _ _ _ (by decide), q_up_eq]
    have d52 : σ3 136 52 = q := by rw [hs3, q_up_ne2 _ _ _ (by decide), q_up_ne2 _ _ _ (by decide), q_up_eq]
    refine s203_c k0 k4 d6 (by rw [e140]; exact kt) (fun σ4 u1 u2 => ?_) (σ 136 7).toNat 0 σ3 (by omega) (by decide) (fun i i0 i1 => absurd i1 (by omega)) (fun _ _ _ => rfl)
    simp only [k203_145, k203_146]
    have v6 : σ4 136 6 = σ 136 7 := by rw [u2 136 6 (by decide)]; exact d6
    have hAG4 : AGR (σ4 139) (σ 140) (σ 136 7) := by rw [← e140]; exact u1
    have hP4 : p_P (σ4 139) (σ4 136 6) = .inr ((pl, L, cnt), z) := by rw [v6, x_P hAG4 kt]; exact kP
    have hRH4 : RH σ4 := by
      refine ⟨by rw [v6]; exact k0, by rw [v6]; exact k4, ?_⟩
      rw [v6]
      exact fun i i0 i1 => by rw [hAG4 i i0 i1]; exact kt i i0 i1
    have f4 : ∀ a i, ¬ (141 ≤ a ∧ a ≤ 172) → ¬ a = 139 → (a = 136 → i = 7 ∨ i = 54) → σ4 a i = σ a i := fun a i h h' h3 => by
      rw [u2 a i h', f3 a i (by omega), l1 a i h (by omega), f02 a i h' (by omega)]
    rw [show D + 39 = 24 + (D + 4) + 11 by omega, ← RP_eta σ4]
    refine m204 hRH4 (fun S' r' p' b' q e1 hFR => ?_) (fun σ' pl' L' cnt' z' e1' hPR ec hST e10 fr => ?_)
    · rw [hP4] at e1; cases e1
    · rw [hP4] at e1'
      cases e1'
      rw [show 24 + (D + 4) + 11 + 1 = D + 40 by omega]
      simp only [q_kn_v, k203_149, k203_150, k203_151]
      have fr' : ∀ a i, ¬ (141 ≤ a ∧ a ≤ 179) → (a = 136 → RFX i) → σ' a i = σ4 a i := fun a i h h' => fr a i h (fun q => q.2 (h' q.1))
      have r0 : RFX 0 := by unfold RFX; decide
      have r2 : RFX 2 := by unfold RFX; decide
      have r7 : RFX 7 := by unfold RFX; decide
      have r52 : RFX 52 := by unfold RFX; decide
      have x140 : σ' 140 = σ 140 := funext (fun i => by rw [fr' 140 i (by decide) (by omega), f4 140 i (by decide) (by decide) (by omega)])
      refine kF q e1 σ' ⟨hPR, hST, ⟨?_, by decide, by decide, fun i i0 i1 => absurd i1 (by omega), fun i i0 i1 => absurd i1 (by omega)⟩, ?_, ?_, fun d d0 d1 => ?_⟩ ?_ (fun a i ha => ?_)
      · rw [fr' 136 2 (by decide) (fun _ => r2), u2 136 2 (by decide), f3 136 2 (by decide), l1 136 2 (by decide) (by omega)]; exact c2
      · rw [fr' 136 7 (by decide) (fun _ => r7), f4 136 7 (by decide) (by decide) (by omega), x140]
        exact ⟨k0, k4, kt, cnt, z, kP⟩
      · rw [fr' 136 52 (by decide) (fun _ => r52), u2 136 52 (by decide)]; exact d52
      · rw [fr' 182 d (by decide) (by omega), fr' 181 d (by decide) (by omega), f4 182 d (by decide) (by decide) (by omega), f4 181 d (by decide) (by decide) (by omega)]
        exact hI.2.2.2.2.2 d d0 d1
      · rw [fr' 136 0 (by decide) (fun _ => r0), u2 136 0 (by decide)]; exact d0
      · rw [fr' a i (by omega) (by omega), f4 a i (by omega) (by omega) (by omega)]
  · rw [hP] at e1
    rw [show 24 + (D + 4) + 11 + 1 = D + 40 by omega]
    have fr' : ∀ a i, ¬ (141 ≤ a ∧ a ≤ 179) → (a = 136 → RFX i) → σ' a i = σ2 a i := fun a i h h' => fr a i h (fun q => q.2 (h' q.1))
    have r0 : RFX 0 := by unfold RFX; decide
    have r2 : RFX 2 := by unfold RFX; decide
    have r6 : RFX 6 := by unfold RFX; decide
    have v6 : σ' 136 6 = n := by rw [fr' 136 6 (by decide) (fun _ => r6)]; exact c6
    have v6' : q_up σ' 136 52 (-1) 136 6 = n := by rw [q_up_app, if_neg (by decide)]; exact v6
    simp only [q_kn_v, k203_50, k203_51, k203_52, k203_53, k203_56, k203_59, k203_60, k203_63, k203_64, k203_65, k203_68, k203_71, k203_72, e10, true_implies, false_implies, not_true_eq_false, not_false_eq_true, true_and, and_true, implies_true, or_true, true_or, or_false, false_or, Int.reduceEq, Int.one_ne_zero, Nat.reduceEqDiff, v6']
    obtain ⟨σ3, hs3⟩ : ∃ σ3, σ3 = q_up (q_up σ' 136 52 (-1)) 136 7 n := ⟨_, rfl⟩
    rw [← hs3]
    have f3 : ∀ a i, ¬ (a = 136 ∧ (i = 52 ∨ i = 7)) → σ3 a i = σ' a i := fun a i h => by rw [hs3, q_up_app, if_neg (by omega), q_up_app, if_neg (by omega)]
    have w7 : σ3 136 7 = n := by rw [hs3, q_up_eq]
    have w52 : σ3 136 52 = -1 := by rw [hs3, q_up_ne2 _ _ _ (by decide), q_up_eq]
    have w6 : σ3 136 6 = n := by rw [f3 136 6 (by decide)]; exact v6
    have x139 : σ3 139 = σ2 139 := funext (fun i => by rw [f3 139 i (by omega), fr' 139 i (by decide) (by omega)])
    refine s203_b n0 n4 w6 (by rw [x139]; exact fun i i0 i1 => by rw [hAG i i0 i1]; exact hB i i0 i1) (fun σ4 u1 u2 => ?_) n.toNat 0 σ3 (by omega) (by decide) (fun i i0 i1 => absurd i1 (by omega)) (fun _ _ _ => rfl)
    have lo4 : ∀ a i, ¬ a = 140 → ¬ (a = 136 ∧ (i = 52 ∨ i = 7)) → σ4 a i = σ' a i := fun a i h h' => by rw [u2 a i h, f3 a i h']
    have s14 : σ4 136 14 = nS L' := by rw [lo4 136 14 (by decide) (by decide)]; exact hST.1.1.2.1
    simp only [k203_99, k203_100, k203_103, s14]
    have hAG4 : AGR (σ4 140) f n := fun i i0 i1 => by rw [u1 i i0 i1, x139]; exact hAG i i0 i1
    obtain ⟨k1, k2, k3, k4, k5⟩ := hST
    refine kS pl' L' cnt z e1 σ4 ⟨hPR, ⟨RK_of k1 (fun a i ha => lo4 a i (by omega) (by omega)), BALL_of k2 (fun i => lo4 173 i (by decide) (by omega)), fun w hw => ?_, fun j j0 j1 => ?_, ?_⟩, ⟨?_, by decide, by decide, fun i i0 i1 => absurd i1 (by omega), fun i i0 i1 => absurd i1 (by omega)⟩, ?_, ?_, fun d d0 d1 => ?_⟩ ?_ (fun a i ha => ?_)
    · rw [lo4 174 w (by decide) (by omega), lo4 175 w (by decide) (by omega)]; exact k3 w hw
    · rw [lo4 178 j (by decide) (by omega), lo4 179 j (by decide) (by omega), lo4 176 j (by decide) (by omega), lo4 177 j (by decide) (by omega)]; exact k4 j j0 j1
    · rw [lo4 136 54 (by decide) (by decide)]; exact k5
    · rw [lo4 136 2 (by decide) (by decide), fr' 136 2 (by decide) (fun _ => r2)]; exact c2
    · have x7 : σ4 136 7 = n := by rw [u2 136 7 (by decide)]; exact w7
      rw [x7]
      exact ⟨n0, n4, fun i i0 i1 => by rw [hAG4 i i0 i1]; exact hB i i0 i1, cnt, z, by rw [x_P hAG4 hB]; exact e1⟩
    · rw [u2 136 52 (by decide)]; exact w52
    · rw [lo4 182 d (by decide) (by omega), lo4 181 d (by decide) (by omega), fr' 182 d (by decide) (by omega), fr' 181 d (by decide) (by omega)]
      exact h6 d d0 d1
    · rw [lo4 136 0 (by decide) (by decide), fr' 136 0 (by decide) (fun _ => r0)]; exact c0
    · rw [lo4 a i (by omega) (by omega), fr' a i (by omega) (by omega), f02 a i (by omega) (by omega)]
end RPE
