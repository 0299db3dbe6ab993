/-! the class' answers, one by one -/
section CPA
variable {sc : Nat × (Nat → Int32)} {D : Nat} {bb : Bool} {Q : QP} {c : Nat} {C r r' σ : St} {m : Int} {L : List (ST 5)} {pl f inp len : Int → Int} {n ft a b x y k w v l s ab : Int} {O : OC}
theorem o_in_y {M : Int} (h : 0 ≤ x ∧ x < M) : o_in x M O = O := if_pos h
theorem o_in_n {M : Int} (h : ¬ (0 ≤ x ∧ x < M)) : o_in x M O = .inr (1, 1) := if_neg h
/-- what is known of a state, in one -/
theorem CI_fs (hI : CI c C r m L pl n f ft inp len) : r 0 11 = c ∧ r 9 0 = nV L ∧ (C 0 0 = nS L ∧ C 0 1 = nK L ∧ C 0 2 = nL L) ∧ (∀ k, k = 0 ∨ k = 1 ∨ k = 2 → C 1 k = pl k ∧ -1 ≤ pl k ∧ pl k ≤ 20) ∧ (8 ≤ nV L ∧ nV L ≤ 240 ∧ nS L ≤ 40 ∧ nK L ≤ nS L ∧ nL L ≤ nS L) :=
  ⟨hI.2.2.2.1.1, hI.2.2.1.2.1.2.2.2.1.2, hI.2.2.1.2.1.2.1, fun k hk => ⟨hI.2.2.1.2.1.2.2.1 k hk, hI.2.2.1.1.2.2.1 k hk⟩, hI.2.2.1.1.2.1⟩
/-- above -/
theorem p94 (hI : CI c C r m L pl n f ft inp len) (kk : CPO Q bb (NS c C r) (o_ab L pl a b) m L pl n f ft inp len) : qx sc (D + 30) 94 0 [vr 0, vi a, vi b] [] (0, 0) bb (NS c C r) Q := by
  have kq := CPO_s hI kk
  have hc := hI.1
  obtain ⟨h11, h9, -, hpl, hb⟩ := CI_fs hI
  unfold o_ab at kq
  by_cases ha : 0 ≤ a ∧ a < 3
  · rw [o_in_y ha] at kq
    obtain ⟨hp, -⟩ := hpl a (by omega)
    by_cases hv : 0 ≤ b ∧ b < nV L
    · rw [o_in_y hv] at kq
      have hv' : 0 ≤ b ∧ b < r 9 0 := by rw [h9]; exact hv
      have b240 : b < 240 := by omega
      simp only [k94_0, k94_1, k94_2, k94_5, k94_6, k94_7, k94_10, k94_11, k94_14 hc, k94_17, k94_18, k94_19, k94_20, d112_y ha, d114_y hc hv', q_kn_n, NS_lo hc, NS_g hc, NS_f hc, NS_u hc, NS_uf hc, Nat.reduceLT, Nat.reduceLeDiff, Nat.reduceEqDiff, not_false_eq_true, qtc_1 hc, qlc_1 hc, qtc_2 hc, qlc_2 hc, qtc_3 hc, qlc_3 hc, qtc_4 hc, qlc_4 hc, qtc_5 hc, qlc_5 hc, qtc_6 hc, qlc_6 hc, qtc_7 hc, qlc_7 hc, qtc_8 hc, qlc_8 hc, qtc_9 hc, qlc_9 hc, qtc_10 hc, qlc_10 hc, qtc_11 hc, qlc_11 hc, qtc_12 hc, qlc_12 hc, qtc_13 hc, qlc_13 hc, qtc_14 hc, qlc_14 hc, qtc_15 hc, qlc_15 hc, qtc_17 hc, qlc_17 hc, qtc_19 hc, qlc_19 hc, qtc_20 hc, qlc_20 hc, qtc_22 hc, qlc_22 hc, qtc_23 hc, qlc_23 hc, qtc_18 hc, qlc_18 hc, qtc_21 hc, qlc_21 hc, c18_0, c18_1, c21_0, c21_1, true_implies, false_implies, not_true_eq_false, not_false_eq_true, true_and, and_true, implies_true, or_true, true_or, or_false, false_or, Int.reduceEq, Int.one_ne_zero, Nat.reduceEqDiff, h11, c_nn, Int.toNat_natCast, ha.1, ha.2, hp]
      by_cases hm : pl a = -1
      · rw [if_pos hm] at kq
        simp only [hm, true_implies, false_implies, not_true_eq_false, not_false_eq_true, true_and, and_true, implies_true, or_true, true_or, or_false, false_or, Int.reduceEq, Int.one_ne_zero, Nat.reduceEqDiff, k94_23]
        exact kq
      · rw [if_neg hm] at kq
        obtain ⟨R1, R2, -⟩ := ROW_b (bs := 56) (Or.inl rfl) (show a.toNat ≤ 3 by omega)
        have hs := hI.2.2.1.2.2.1 a.toNat (by omega) (Or.inr (by rw [Int.toNat_of_nonneg ha.1]; exact hm)) b.toNat (by omega)
        rw [Int.toNat_of_nonneg ha.1, Int.toNat_of_nonneg hv.1] at hs
        have e : NS c C r (56 + 1 + a.toNat) b = enC (l_L (E_G (GG L) (q_of pl) a (-1)) (nV L) b.toNat) := by rw [NS_lo hc (by omega) (by omega)]; exact hs
        have a4 : a < 4 := by omega
        simp only [hm, true_implies, false_implies, not_true_eq_false, not_false_eq_true, true_and, and_true, implies_true, or_true, true_or, or_false, false_or, Int.reduceEq, Int.one_ne_zero, Nat.reduceEqDiff, k94_33, k94_34, k94_37, k94_40, k94_41, k94_42, k94_43, k94_44, qt_56, ql_56, ha.1, a4, R1, R2, hv.1, b240, e]
        exact kq
    · rw [o_in_n hv] at kq
      have hv' : ¬ (0 ≤ b ∧ b < r 9 0) := by rw [h9]; exact hv
      simp only [k94_0, k94_1, k94_2, k94_5, k94_6, k94_7, d112_y ha, d114_n hc hv', q_kn_n, q_kn_e]
      exact kq
  · rw [o_in_n ha] at kq
    simp only [k94_0, k94_1, k94_2, d112_n ha, q_kn_e]
    exact kq
/-- below -/
theorem p96 (hI : CI c C r m L pl n f ft inp len) (kk : CPO Q bb (NS c C r) (o_be L pl b) m L pl n f ft inp len) : qx sc (D + 30) 96 0 [vr 0, vi b, vn] [] (0, 0) bb (NS c C r) Q := by
  have kq := CPO_s hI kk
  have hc := hI.1
  obtain ⟨h11, h9, -, hpl, hb⟩ := CI_fs hI
  unfold o_be at kq
  by_cases hv : 0 ≤ b ∧ b < nV L
  · rw [o_in_y hv] at kq
    have hv' : 0 ≤ b ∧ b < r 9 0 := by rw [h9]; exact hv
    have b240 : b < 240 := by omega
    have hs := hI.2.2.1.2.2.1 3 (by decide) (Or.inl rfl) b.toNat (by omega)
    rw [Int.toNat_of_nonneg hv.1] at hs
    have e : r 60 b = enC (l_L (E_G (GG L) (q_of pl) 3 (-1)) (nV L) b.toNat) := hs
    have z3 : (3 : Int).toNat = 3 := rfl
    have hsm := L_small (b := 3) hI.2.2.1.1 (by decide) b.toNat (by omega)
    simp only [k96_0, k96_1, k96_2, k96_5, k96_6, k96_9, k96_12, k96_13, k96_14, k96_15, k96_16, k96_17, k96_18, k96_20, d114_y hc hv', q_kn_n, NS_lo hc, NS_g hc, NS_f hc, NS_u hc, NS_uf hc, Nat.reduceLT, Nat.reduceLeDiff, Nat.reduceEqDiff, not_false_eq_true, qt_1, ql_1, qt_2, ql_2, qt_3, ql_3, qt_6, ql_6, qt_7, ql_7, qt_8, ql_8, qt_10, ql_10, qt_11, ql_11, qt_12, ql_12, qt_13, ql_13, qt_14, ql_14, qt_15, ql_15, qt_16, ql_16, qt_17, ql_17, qt_18, ql_18, qt_19, ql_19, qt_20, ql_20, qt_21, ql_21, qt_22, ql_22, qt_23, ql_23, qt_24, ql_24, qt_25, ql_25, qt_26, ql_26, qt_28, ql_28, qt_29, ql_29, qt_30, ql_30, qt_31, ql_31, qt_32, ql_32, qt_33, ql_33, qt_34, ql_34, qt_35, ql_35, qt_36, ql_36, qt_37, ql_37, qt_38, ql_38, qt_40, ql_40, qt_41, ql_41, qt_42, ql_42, qt_43, ql_43, qt_44, ql_44, qt_45, ql_45, qt_46, ql_46, qt_47, ql_47, qt_48, ql_48, qt_49, ql_49, qt_50, ql_50, qt_51, ql_51, qt_52, ql_52, qt_53, ql_53, qt_54, ql_54, qt_56, ql_56, qt_57, ql_57, qt_58, ql_58, qt_59, ql_59, qt_60, ql_60, qt_61, ql_61, qt_62, ql_62, qt_63, ql_63, qt_64, ql_64, qt_65, ql_65, qt_67, ql_67, qt_68, ql_68, qt_69, ql_69, qt_70, ql_70, qt_71, ql_71, qt_73, ql_73, qt_74, ql_74, qt_75, ql_75, qt_76, ql_76, qt_78, ql_78, qt_79, ql_79, qt_80, ql_80, qt_81, ql_81, qt_82, ql_82, qt_83, ql_83, qt_84, ql_84, qt_85, ql_85, qt_86, ql_86, qt_87, ql_87, qt_89, ql_89, qt_90, ql_90, qt_91, ql_91, qt_92, ql_92, qt_93, ql_93, qt_94, ql_94, qt_95, ql_95, qt_96, ql_96, qt_97, ql_97, qt_98, ql_98, qt_99, ql_99, qt_100, ql_100, qt_101, ql_101, qt_102, ql_102, qt_103, ql_103, qt_105, ql_105, qt_106, ql_106, qt_107, ql_107, qt_108, ql_108, qt_109, ql_109, qt_110, ql_110, qt_111, ql_111, qt_113, ql_113, qt_114, ql_114, qt_115, ql_115, qt_116, ql_116, qt_117, ql_117, qt_118, ql_118, qt_119, ql_119, qt_120, ql_120, qt_121, ql_121, qt_122, ql_122, qt_123, ql_123, qt_124, ql_124, qt_125, ql_125, qt_126, ql_126, qt_127, ql_127, qt_129, ql_129, qt_130, ql_130, qt_131, ql_131, qt_132, ql_132, qt_133, ql_133, qt_134, ql_134, qt_135, ql_135, qt_137, ql_137, qt_138, ql_138, qt_139, ql_139, qt_140, ql_140, qt_141, ql_141, qt_142, ql_142, qt_143, ql_143, qt_144, ql_144, qt_145, ql_145, qt_146, ql_146, qt_147, ql_147, qt_148, ql_148, qt_149, ql_149, qt_150, ql_150, qt_151, ql_151, qt_152, ql_152, qt_153, ql_153, qt_154, ql_154, qt_155, ql_155, qt_156, ql_156, qt_157, ql_157, qt_158, ql_158, qt_159, ql_159, qt_160, ql_160, qt_161, ql_161, qt_162, ql_162, qt_163, ql_163, qt_164, ql_164, qt_165, ql_165, qt_166, ql_166, qt_167, ql_167, qt_168, ql_168, qt_169, ql_169, qt_170, ql_170, qt_171, ql_171, qt_172, ql_172, qt_173, ql_173, qt_174, ql_174, qt_175, ql_175, qt_176, ql_176, qt_177, ql_177, qt_178, ql_178, qt_179, ql_179, qt_180, ql_180, qt_181, ql_181, qt_182, ql_182, qt_183, ql_183, qt_184, ql_184, qt_185, ql_185, qt_186, ql_186, qt_187, ql_187, qt_188, ql_188, true_implies, false_implies, not_true_eq_false, not_false_eq_true, true_and, and_true, implies_true, or_true, true_or, or_false, false_or, Int.reduceEq, Int.one_ne_zero, Nat.reduceEqDiff, z3, Nat.reduceAdd, Int.reduceLE, Int.reduceLT, hv.1, b240, e]
    unfold ngC at kq
    by_cases hm : enC (l_L (E_G (GG L) (q_of pl) 3 (-1)) (nV L) b.toNat) = 99999
    · rw [if_pos hm] at kq
      simp only [hm, true_implies, false_implies, not_true_eq_false, not_false_eq_true, true_and, and_true, implies_true, or_true, true_or, or_false, false_or, Int.reduceEq, Int.one_ne_zero, Nat.reduceEqDiff, k96_23, k96_25, k96_28, k96_29, k96_30]
      exact kq
    · rw [if_neg hm] at kq
      have R : q_R (-enC (l_L (E_G (GG L) (q_of pl) 3 (-1)) (nV L) b.toNat)) = True := eq_true (by
        cases hO : l_L (E_G (GG L) (q_of pl) 3 (-1)) (nV L) b.toNat with
        | none => unfold enC q_R; decide
        | some z => have := hsm z hO; unfold enC q_R; dsimp only; omega)
      simp only [hm, true_implies, false_implies, not_true_eq_false, not_false_eq_true, true_and, and_true, implies_true, or_true, true_or, or_false, false_or, Int.reduceEq, Int.one_ne_zero, Nat.reduceEqDiff, k96_23, k96_25, k96_28, k96_29, k96_30, R]
      exact kq
  · rw [o_in_n hv] at kq
    have hv' : ¬ (0 ≤ b ∧ b < r 9 0) := by rw [h9]; exact hv
    simp only [k96_0, k96_1, k96_2, d114_n hc hv', q_kn_e]
    exact kq
/-- fault -/
theorem p101 (hI : CI c C r m L pl n f ft inp len) (kk : CPO Q bb (NS c C r) (.inl ft) m L pl n f ft inp len) : qx sc (D + 30) 101 0 [vr 0] [] (0, 0) bb (NS c C r) Q := by
  have kq := CPO_s hI kk
  have hc := hI.1
  have h14 : r 0 14 = ft := hI.2.2.2.2.2.2.2.1
  simp only [k101_0, k101_1, k101_4, NS_lo hc, NS_g hc, NS_f hc, NS_u hc, NS_uf hc, Nat.reduceLT, Nat.reduceLeDiff, Nat.reduceEqDiff, not_false_eq_true, true_implies, false_implies, not_true_eq_false, not_false_eq_true, true_and, and_true, implies_true, or_true, true_or, or_false, false_or, Int.reduceEq, Int.one_ne_zero, Nat.reduceEqDiff, h14]
  exact kq
/-- stands -/
theorem p120 (hI : CI c C r m L pl n f ft inp len) (kk : CPO Q bb (NS c C r) (o_sd L b w) m L pl n f ft inp len) : qx sc (D + 30) 120 0 [vr 0, vi b, vi w] [] (0, 0) bb (NS c C r) Q := by
  have kq := CPO_s hI kk
  have hc := hI.1
  obtain ⟨h11, h9, -, hpl, hb⟩ := CI_fs hI
  unfold o_sd at kq
  by_cases hv : 0 ≤ b ∧ b < nV L
  · rw [o_in_y hv] at kq
    have hv' : 0 ≤ b ∧ b < r 9 0 := by rw [h9]; exact hv
    have b240 : b < 240 := by omega
    obtain ⟨e16, e17⟩ := RT_C hI.2.2.1.1.1 hb.2.1 hI.2.2.1.2.1.2.2.2.1.1 (b.toNat + 1) b (by omega) hv.1 hv.2
    by_cases hw : w = 0
    · rw [if_pos hw] at kq
      simp only [k120_0, k120_1, k120_2, k120_5, k120_6, k120_9, k120_10, k120_13, k120_16, k120_17, k120_18, k120_21, k120_22, k120_25, k120_28, k120_29, k120_30, d114_y hc hv', q_kn_n, NS_lo hc, NS_g hc, NS_f hc, NS_u hc, NS_uf hc, Nat.reduceLT, Nat.reduceLeDiff, Nat.reduceEqDiff, not_false_eq_true, qt_1, ql_1, qt_2, ql_2, qt_3, ql_3, qt_6, ql_6, qt_7, ql_7, qt_8, ql_8, qt_10, ql_10, qt_11, ql_11, qt_12, ql_12, qt_13, ql_13, qt_14, ql_14, qt_15, ql_15, qt_16, ql_16, qt_17, ql_17, qt_18, ql_18, qt_19, ql_19, qt_20, ql_20, qt_21, ql_21, qt_22, ql_22, qt_23, ql_23, qt_24, ql_24, qt_25, ql_25, qt_26, ql_26, qt_28, ql_28, qt_29, ql_29, qt_30, ql_30, qt_31, ql_31, qt_32, ql_32, qt_33, ql_33, qt_34, ql_34, qt_35, ql_35, qt_36, ql_36, qt_37, ql_37, qt_38, ql_38, qt_40, ql_40, qt_41, ql_41, qt_42, ql_42, qt_43, ql_43, qt_44, ql_44, qt_45, ql_45, qt_46, ql_46, qt_47, ql_47, qt_48, ql_48, qt_49, ql_49, qt_50, ql_50, qt_51, ql_51, qt_52, ql_52, qt_53, ql_53, qt_54, ql_54, qt_56, ql_56, qt_57, ql_57, qt_58, ql_58, qt_59, ql_59, qt_60, ql_60, qt_61, ql_61, qt_62, ql_62, qt_63, ql_63, qt_64, ql_64, qt_65, ql_65, qt_67, ql_67, qt_68, ql_68, qt_69, ql_69, qt_70, ql_70, qt_71, ql_71, qt_73, ql_73, qt_74, ql_74, qt_75, ql_75, qt_76, ql_76, qt_78, ql_78, qt_79, ql_79, qt_80, ql_80, qt_81, ql_81, qt_82, ql_82, qt_83, ql_83, qt_84, ql_84, qt_85, ql_85, qt_86, ql_86, qt_87, ql_87, qt_89, ql_89, qt_90, ql_90, qt_91, ql_91, qt_92, ql_92, qt_93, ql_93, qt_94, ql_94, qt_95, ql_95, qt_96, ql_96, qt_97, ql_97, qt_98, ql_98, qt_99, ql_99, qt_100, ql_100, qt_101, ql_101, qt_102, ql_102, qt_103, ql_103, qt_105, ql_105, qt_106, ql_106, qt_107, ql_107, qt_108, ql_108, qt_109, ql_109, qt_110, ql_110, qt_111, ql_111, qt_113, ql_113, qt_114, ql_114, qt_115, ql_115, qt_116, ql_116, qt_117, ql_117, qt_118, ql_118, qt_119, ql_119, qt_120, ql_120, qt_121, ql_121, qt_122, ql_122, qt_123, ql_123, qt_124, ql_124, qt_125, ql_125, qt_126, ql_126, qt_127, ql_127, qt_129, ql_129, qt_130, ql_130, qt_131, ql_131, qt_132, ql_132, qt_133, ql_133, qt_134, ql_134, qt_135, ql_135, qt_137, ql_137, qt_138, ql_138, qt_139, ql_139, qt_140, ql_140, qt_141, ql_141, qt_142, ql_142, qt_143, ql_143, qt_144, ql_144, qt_145, ql_145, qt_146, ql_146, qt_147, ql_147, qt_148, ql_148, qt_149, ql_149, qt_150, ql_150, qt_151, ql_151, qt_152, ql_152, qt_153, ql_153, qt_154, ql_154, qt_155, ql_155, qt_156, ql_156, qt_157, ql_157, qt_158, ql_158, qt_159, ql_159, qt_160, ql_160, qt_161, ql_161, qt_162, ql_162, qt_163, ql_163, qt_164, ql_164, qt_165, ql_165, qt_166, ql_166, qt_167, ql_167, qt_168, ql_168, qt_169, ql_169, qt_170, ql_170, qt_171, ql_171, qt_172, ql_172, qt_173, ql_173, qt_174, ql_174, qt_175, ql_175, qt_176, ql_176, qt_177, ql_177, qt_178, ql_178, qt_179, ql_179, qt_180, ql_180, qt_181, ql_181, qt_182, ql_182, qt_183, ql_183, qt_184, ql_184, qt_185, ql_185, qt_186, ql_186, qt_187, ql_187, qt_188, ql_188, true_implies, false_implies, not_true_eq_false, not_false_eq_true, true_and, and_true, implies_true, or_true, true_or, or_false, false_or, Int.reduceEq, Int.one_ne_zero, Nat.reduceEqDiff, hw, hv.1, b240, e16]
      exact kq
    · rw [if_neg hw] at kq
      simp only [k120_0, k120_1, k120_2, k120_5, k120_6, k120_9, k120_10, k120_13, k120_16, k120_17, k120_18, k120_21, k120_22, k120_25, k120_28, k120_29, k120_30, d114_y hc hv', q_kn_n, NS_lo hc, NS_g hc, NS_f hc, NS_u hc, NS_uf hc, Nat.reduceLT, Nat.reduceLeDiff, Nat.reduceEqDiff, not_false_eq_true, qt_1, ql_1, qt_2, ql_2, qt_3, ql_3, qt_6, ql_6, qt_7, ql_7, qt_8, ql_8, qt_10, ql_10, qt_11, ql_11, qt_12, ql_12, qt_13, ql_13, qt_14, ql_14, qt_15, ql_15, qt_16, ql_16, qt_17, ql_17, qt_18, ql_18, qt_19, ql_19, qt_20, ql_20, qt_21, ql_21, qt_22, ql_22, qt_23, ql_23, qt_24, ql_24, qt_25, ql_25, qt_26, ql_26, qt_28, ql_28, qt_29, ql_29, qt_30, ql_30, qt_31, ql_31, qt_32, ql_32, qt_33, ql_33, qt_34, ql_34, qt_35, ql_35, qt_36, ql_36, qt_37, ql_37, qt_38, ql_38, qt_40, ql_40, qt_41, ql_41, qt_42, ql_42, qt_43, ql_43, qt_44, ql_44, qt_45, ql_45, qt_46, ql_46, qt_47, ql_47, qt_48, ql_48, qt_49, ql_49, qt_50, ql_50, qt_51, ql_51, qt_52, ql_52, qt_53, ql_53, qt_54, ql_54, qt_56, ql_56, qt_57, ql_57, qt_58, ql_58, qt_59, ql_59, qt_60, ql_60, qt_61, ql_61, qt_62, ql_62, qt_63, ql_63, qt_64, ql_64, qt_65, ql_65, qt_67, ql_67, qt_68, ql_68, qt_69, ql_69, qt_70, ql_70, qt_71, ql_71, qt_73, ql_73, qt_74, ql_74, qt_75, ql_75, qt_76, ql_76, qt_78, ql_78, qt_79, ql_79, qt_80, ql_80, qt_81, ql_81, qt_82, ql_82, qt_83, ql_83, qt_84, ql_84, qt_85, ql_85, qt_86, ql_86, qt_87, ql_87, qt_89, ql_89, qt_90, ql_90, qt_91, ql_91, qt_92, ql_92, qt_93, ql_93, qt_94, ql_94, qt_95, ql_95, qt_96, ql_96, qt_97, ql_97, qt_98, ql_98, qt_99, ql_99, qt_100, ql_100, qt_101, ql_101, qt_102, ql_102, qt_103, ql_103, qt_105, ql_105, qt_106, ql_106, qt_107, ql_107, qt_108, ql_108, qt_109, ql_109, qt_110, ql_110, qt_111, ql_111, qt_113, ql_113, qt_114, ql_114, qt_115, ql_115, qt_116, ql_116, qt_117, ql_117, qt_118, ql_118, qt_119, ql_119, qt_120, ql_120, qt_121, ql_121, qt_122, ql_122, qt_123, ql_123, qt_124, ql_124, qt_125, ql_125, qt_126, ql_126, qt_127, ql_127, qt_129, ql_129, qt_130, ql_130, qt_131, ql_131, qt_132, ql_132, qt_133, ql_133, qt_134, ql_134, qt_135, ql_135, qt_137, ql_137, qt_138, ql_138, qt_139, ql_139, qt_140, ql_140, qt_141, ql_141, qt_142, ql_142, qt_143, ql_143, qt_144, ql_144, qt_145, ql_145, qt_146, ql_146, qt_147, ql_147, qt_148, ql_148, qt_149, ql_149, qt_150, ql_150, qt_151, ql_151, qt_152, ql_152, qt_153, ql_153, qt_154, ql_154, qt_155, ql_155, qt_156, ql_156, qt_157, ql_157, qt_158, ql_158, qt_159, ql_159, qt_160, ql_160, qt_161, ql_161, qt_162, ql_162, qt_163, ql_163, qt_164, ql_164, qt_165, ql_165, qt_166, ql_166, qt_167, ql_167, qt_168, ql_168, qt_169, ql_169, qt_170, ql_170, qt_171, ql_171, qt_172, ql_172, qt_173, ql_173, qt_174, ql_174, qt_175, ql_175, qt_176, ql_176, qt_177, ql_177, qt_178, ql_178, qt_179, ql_179, qt_180, ql_180, qt_181, ql_181, qt_182, ql_182, qt_183, ql_183, qt_184, ql_184, qt_185, ql_185, qt_186, ql_186, qt_187, ql_187, qt_188, ql_188, true_implies, false_implies, not_true_eq_false, not_false_eq_true, true_and, and_true, implies_true, or_true, true_or, or_false, false_or, Int.reduceEq, Int.one_ne_zero, Nat.reduceEqDiff, hw, hv.1, b240, e17]
      exact kq
  · rw [o_in_n hv] at kq
    have hv' : ¬ (0 ≤ b ∧ b < r 9 0) := by rw [h9]; exact hv
    simp only [k120_0, k120_1, k120_2, d114_n hc hv', q_kn_e]
    exact kq
/-- hangs -/
theorem p103 (hI : CI c C r m L pl n f ft inp len) (kk : CPO Q bb (NS c C r) (o_ha L pl k) m L pl n f ft inp len) : qx sc (D + 30) 103 0 [vr 0, vi k] [] (0, 0) bb (NS c C r) Q := by
  have hc := hI.1
  have hc88 := q_C_ge hc
  obtain ⟨h11, h9, ⟨-, hK, -⟩, hpl, hb⟩ := CI_fs hI
  unfold o_ha at kk
  by_cases hv : 0 ≤ k ∧ k < nK L
  · rw [o_in_y hv] at kk
    have hv' : 0 ≤ k ∧ k < C 0 1 := by rw [hK]; exact hv
    simp only [k103_0, k103_1, k103_2, k103_5, k103_6, k103_9, k103_10, d107_y hc h11 hv', q_kn_n]
    refine n35 (D := D + 24) hc hI.2.2.1 hv.1 hv.2 (hI.2.2.2.2.2.1 k hv.1 hv.2) (fun r1 g1 g2 => ?_)
    simp only [q_kn_v, k103_13]
    refine kk c C r1 ?_ (fun a i ha => ?_)
    · obtain ⟨h1, h2, h3, h4, h5, h6, h7, h8, h9⟩ := hI
      have lo : ∀ a i, ¬ (61 ≤ a ∧ a ≤ 65) → ¬ a = 68 → r1 a i = r a i := fun a i n1 n2 => g1 a i n1 (by omega)
      refine ⟨h1, h2, CST_of h3 (fun a i ha => lo a i (by unfold CSX at ha; omega) (by unfold CSX at ha; omega)), ?_, ?_, fun j j0 j1 => ?_, ?_, ?_, fun d d0 d1 => ?_⟩
      · rw [lo 0 11 (by decide) (by decide), lo 0 12 (by decide) (by decide)]; exact h4
      · rw [lo 66 5 (by decide) (by decide)]
        exact ⟨h5.1, fun w w0 w1 => by rw [lo 67 w (by decide) (by decide)]; exact h5.2 w w0 w1⟩
      · by_cases e : j = k
        · subst e; exact Or.inr g2
        · rw [g1 68 j (by decide) (by omega)]; exact h6 j j0 j1
      · rw [lo 0 13 (by decide) (by decide), show r1 1 = r 1 from funext (fun i => lo 1 i (by decide) (by decide))]; exact h7
      · rw [lo 0 14 (by decide) (by decide)]; exact h8
      · rw [lo 2 d (by decide) (by decide), lo 3 d (by decide) (by decide)]; exact h9 d d0 d1
    · unfold NS
      rw [if_neg (by omega), if_neg (by unfold q_C at hc; omega), if_neg (by omega), if_neg (by unfold q_C at hc; omega), g1 a i (by omega) (by omega)]
  · rw [o_in_n hv] at kk
    have kq := CPO_s hI kk
    have hv' : ¬ (0 ≤ k ∧ k < C 0 1) := by rw [hK]; exact hv
    simp only [k103_0, k103_1, k103_2, d107_n hc h11 hv', q_kn_e]
    exact kq
end CPA
