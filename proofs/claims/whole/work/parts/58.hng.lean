/-! what hangs on a check, in the class -/
noncomputable def shP (G : GT) (pl : Int → Int) (V : Nat) (wo : Int) (p k : Int) : Int := if p = 0 then shU G pl V wo k else shD G pl V wo k
theorem shP_01 {G : GT} {pl : Int → Int} {V : Nat} {wo p k : Int} : shP G pl V wo p k = 0 ∨ shP G pl V wo p k = 1 := by
  unfold shP
  by_cases h : p = 0
  · rw [if_pos h]; exact shU_01
  · rw [if_neg h]; exact shD_01
noncomputable def lsP (G : GT) (pl : Int → Int) (V : Nat) (wo : Int) (p k : Int) : Int := if shP G pl V (-1) p k = 1 ∧ shP G pl V wo p k = 0 then 1 else 0
theorem lsP_01 {G : GT} {pl : Int → Int} {V : Nat} {wo p k : Int} : 0 ≤ lsP G pl V wo p k ∧ lsP G pl V wo p k ≤ 1 := by unfold lsP; split <;> decide
/-- the parts that are no longer shown without a check -/
noncomputable def LST (G : GT) (pl : Int → Int) (V K : Nat) (wo : Int) : Int := l_sm (fun j => lsP G pl V wo 0 j + lsP G pl V wo 1 j) K
section HNG
variable {sc : Nat × (Nat → Int32)} {D : Nat} {bb : Bool} {Q : QP} {c a V S K Ln bs : Nat} {C r r0 : St} {G : GT} {pl : Int → Int} {wo k i x p : Int}
theorem LST_b (n : Nat) : 0 ≤ l_sm (fun j => lsP G pl V wo 0 j + lsP G pl V wo 1 j) n ∧ l_sm (fun j => lsP G pl V wo 0 j + lsP G pl V wo 1 j) n ≤ 2 * n := sum_b (m := 2) (fun j => by
  have h1 := lsP_01 (G := G) (pl := pl) (V := V) (wo := wo) (p := 0) (k := j)
  have h2 := lsP_01 (G := G) (pl := pl) (V := V) (wo := wo) (p := 1) (k := j)
  omega) n
theorem n32_q (hc : q_C c) (h : CST c C r G pl V S K Ln) (hs : SETL r 61 G pl V wo) (k0 : 0 ≤ k) (k1 : k < K) (x0 : 0 ≤ x) (x1 : x ≤ 100) (hp01 : p = 0 ∨ p = 1)
    (kk : qx sc (D + 1) 32 17 [vr 66, vi (x + lsP G pl V wo p k), vi k, vi (p + 1)] [] (0, 0) bb (NS c C r) Q) : qx sc (D + 1) 32 17 [vr 66, vi x, vi k, vi p] [] (0, 0) bb (NS c C r) Q := by
  have hsh := h.2.2.2.2.1 k k0 k1
  have hco := h.2.2.2.1
  have k40 : k < 40 := by have := h.1.2.1; omega
  have e : r (69 + 1 + p.toNat) k = shP G pl V (-1) p k := by
    rcases hp01 with rfl | rfl
    · exact hsh.1
    · exact hsh.2
  have p01 : 0 ≤ p ∧ p < 2 := by omega
  have n1p : ¬ 1 < p := by omega
  have R1 : q_R (p + 1) = True := eq_true (by unfold q_R; omega)
  have R2 : q_R (x + 1) = True := eq_true (by unfold q_R; omega)
  have T1 : q_ty (69 + 1 + p.toNat) = 0 ∧ q_ln (69 + 1 + p.toNat) = 40 := by
    rcases hp01 with rfl | rfl
    · exact ⟨qt_70, ql_70⟩
    · exact ⟨qt_71, ql_71⟩
  have e' : NS c C r (69 + 1 + p.toNat) k = shP G pl V (-1) p k := by rw [NS_lo hc (by omega) (by omega)]; exact e
  rw [k32_17]
  simp only [k32_18, k32_19, k32_22, k32_23, k32_26, k32_27, k32_28, k32_29, k32_30, k32_31, n1p, qt_1, ql_1, qt_2, ql_2, qt_3, ql_3, qt_6, ql_6, qt_7, ql_7, qt_8, ql_8, qt_10, ql_10, qt_11, ql_11, qt_12, ql_12, qt_13, ql_13, qt_14, ql_14, qt_15, ql_15, qt_16, ql_16, qt_17, ql_17, qt_18, ql_18, qt_19, ql_19, qt_20, ql_20, qt_21, ql_21, qt_22, ql_22, qt_23, ql_23, qt_24, ql_24, qt_25, ql_25, qt_26, ql_26, qt_28, ql_28, qt_29, ql_29, qt_30, ql_30, qt_31, ql_31, qt_32, ql_32, qt_33, ql_33, qt_34, ql_34, qt_35, ql_35, qt_36, ql_36, qt_37, ql_37, qt_38, ql_38, qt_40, ql_40, qt_41, ql_41, qt_42, ql_42, qt_43, ql_43, qt_44, ql_44, qt_45, ql_45, qt_46, ql_46, qt_47, ql_47, qt_48, ql_48, qt_49, ql_49, qt_50, ql_50, qt_51, ql_51, qt_52, ql_52, qt_53, ql_53, qt_54, ql_54, qt_56, ql_56, qt_57, ql_57, qt_58, ql_58, qt_59, ql_59, qt_60, ql_60, qt_61, ql_61, qt_62, ql_62, qt_63, ql_63, qt_64, ql_64, qt_65, ql_65, qt_67, ql_67, qt_68, ql_68, qt_69, ql_69, qt_70, ql_70, qt_71, ql_71, qt_73, ql_73, qt_74, ql_74, qt_75, ql_75, qt_76, ql_76, qt_78, ql_78, qt_79, ql_79, qt_80, ql_80, qt_81, ql_81, qt_82, ql_82, qt_83, ql_83, qt_84, ql_84, qt_85, ql_85, qt_86, ql_86, qt_87, ql_87, qt_89, ql_89, qt_90, ql_90, qt_91, ql_91, qt_92, ql_92, qt_93, ql_93, qt_94, ql_94, qt_95, ql_95, qt_96, ql_96, qt_97, ql_97, qt_98, ql_98, qt_99, ql_99, qt_100, ql_100, qt_101, ql_101, qt_102, ql_102, qt_103, ql_103, qt_105, ql_105, qt_106, ql_106, qt_107, ql_107, qt_108, ql_108, qt_109, ql_109, qt_110, ql_110, qt_111, ql_111, qt_113, ql_113, qt_114, ql_114, qt_115, ql_115, qt_116, ql_116, qt_117, ql_117, qt_118, ql_118, qt_119, ql_119, qt_120, ql_120, qt_121, ql_121, qt_122, ql_122, qt_123, ql_123, qt_124, ql_124, qt_125, ql_125, qt_126, ql_126, qt_127, ql_127, qt_129, ql_129, qt_130, ql_130, qt_131, ql_131, qt_132, ql_132, qt_133, ql_133, qt_134, ql_134, qt_135, ql_135, qt_137, ql_137, qt_138, ql_138, qt_139, ql_139, qt_140, ql_140, qt_141, ql_141, qt_142, ql_142, qt_143, ql_143, qt_144, ql_144, qt_145, ql_145, qt_146, ql_146, qt_147, ql_147, qt_148, ql_148, qt_149, ql_149, qt_150, ql_150, qt_151, ql_151, qt_152, ql_152, qt_153, ql_153, qt_154, ql_154, qt_155, ql_155, qt_156, ql_156, qt_157, ql_157, qt_158, ql_158, qt_159, ql_159, qt_160, ql_160, qt_161, ql_161, qt_162, ql_162, qt_163, ql_163, qt_164, ql_164, qt_165, ql_165, qt_166, ql_166, qt_167, ql_167, qt_168, ql_168, qt_169, ql_169, qt_170, ql_170, qt_171, ql_171, qt_172, ql_172, qt_173, ql_173, qt_174, ql_174, qt_175, ql_175, qt_176, ql_176, qt_177, ql_177, qt_178, ql_178, qt_179, ql_179, qt_180, ql_180, qt_181, ql_181, qt_182, ql_182, qt_183, ql_183, qt_184, ql_184, qt_185, ql_185, qt_186, ql_186, qt_187, ql_187, qt_188, ql_188, true_implies, false_implies, not_true_eq_false, not_false_eq_true, true_and, and_true, implies_true, or_true, true_or, or_false, false_or, Int.reduceEq, Int.one_ne_zero, Nat.reduceEqDiff, p01.1, p01.2, T1.1, T1.2, k0, k40, e']
  have s01 := shP_01 (G := G) (pl := pl) (V := V) (wo := -1) (p := p) (k := k)
  rcases s01 with s | s
  · have z : lsP G pl V wo p k = 0 := by unfold lsP; rw [if_neg (by omega)]
    rw [z, Int.add_zero] at kk
    simp only [s, Int.reduceEq, true_implies, false_implies, not_true_eq_false, not_false_eq_true, true_and, and_true, implies_true, or_true, true_or, or_false, false_or, Int.reduceEq, Int.one_ne_zero, Nat.reduceEqDiff, k32_53, R1, k32_56]
    exact kk
  · simp only [s, true_implies, false_implies, not_true_eq_false, not_false_eq_true, true_and, and_true, implies_true, or_true, true_or, or_false, false_or, Int.reduceEq, Int.one_ne_zero, Nat.reduceEqDiff, k32_34, k32_35, k32_36, k32_39, k32_42, k32_43, k32_44]
    have fin : qx sc (D + 1) 32 47 [vr 66, vi x, vi k, vi p] [vi (shP G pl V wo p k)] (0, 0) bb (NS c C r) Q := by
      rcases shP_01 (G := G) (pl := pl) (V := V) (wo := wo) (p := p) (k := k) with t | t
      · have z : lsP G pl V wo p k = 1 := by unfold lsP; rw [if_pos ⟨s, t⟩]
        rw [z] at kk
        simp only [t, true_implies, false_implies, not_true_eq_false, not_false_eq_true, true_and, and_true, implies_true, or_true, true_or, or_false, false_or, Int.reduceEq, Int.one_ne_zero, Nat.reduceEqDiff, k32_47, k32_50, k32_53, R1, R2, k32_56]
        exact kk
      · have z : lsP G pl V wo p k = 0 := by unfold lsP; rw [if_neg (by omega)]
        rw [z, Int.add_zero] at kk
        simp only [t, Int.reduceEq, true_implies, false_implies, not_true_eq_false, not_false_eq_true, true_and, and_true, implies_true, or_true, true_or, or_false, false_or, Int.reduceEq, Int.one_ne_zero, Nat.reduceEqDiff, k32_47, k32_50, k32_53, R1, k32_56]
        exact kk
    refine n33 hc (Or.inr rfl) h.2.1 h.1 hs hco k0 k1 (fun e0 => ?_) (fun e1 => ?_) hp01
    · subst e0; rw [q_kn_v]; exact fin
    · subst e1; rw [q_kn_v]; exact fin
theorem n32_l (hc : q_C c) (h : CST c C r G pl V S K Ln) (hs : SETL r 61 G pl V wo) (kk : Q (.inl (some (vi (LST G pl V K wo)))) bb (NS c C r)) : ∀ (d k : Nat) (l3 : V2), k + d = K → qx sc (D + 1) 32 4 [vr 66, vi (l_sm (fun j => lsP G pl V wo 0 j + lsP G pl V wo 1 j) k), vi k, l3] [] (0, 0) bb (NS c C r) Q := by
  have hco := h.2.2.2.1
  have e1 : C 0 1 = K := h.2.1.2.1.2.1
  intro d
  induction d with
  | zero =>
    intro k l3 hk
    have e : k = K := by omega
    subst e
    rw [k32_4]
    simp only [k32_5, k32_6, k32_9 hc, k32_12, k32_65, k32_66, NS_lo hc, NS_g hc, NS_f hc, NS_u hc, NS_uf hc, Nat.reduceLT, Nat.reduceLeDiff, Nat.reduceEqDiff, not_false_eq_true, hco, c_nn, Int.toNat_natCast, true_implies, false_implies, not_true_eq_false, not_false_eq_true, true_and, and_true, implies_true, or_true, true_or, or_false, false_or, Int.reduceEq, Int.one_ne_zero, Nat.reduceEqDiff, e1]
    exact ⟨fun hh => by omega, fun _ => kk⟩
  | succ d ih =>
    intro k l3 hk
    have k1 : (k : Int) < K := by omega
    have k40 : (k : Int) < 40 := by have := h.1.2.1; omega
    have hb := LST_b (G := G) (pl := pl) (V := V) (wo := wo) k
    have h0 := lsP_01 (G := G) (pl := pl) (V := V) (wo := wo) (p := 0) (k := k)
    rw [k32_4]
    simp only [k32_5, k32_6, k32_9 hc, k32_12, k32_15, k32_16, NS_lo hc, NS_g hc, NS_f hc, NS_u hc, NS_uf hc, Nat.reduceLT, Nat.reduceLeDiff, Nat.reduceEqDiff, not_false_eq_true, hco, c_nn, Int.toNat_natCast, true_implies, false_implies, not_true_eq_false, not_false_eq_true, true_and, and_true, implies_true, or_true, true_or, or_false, false_or, Int.reduceEq, Int.one_ne_zero, Nat.reduceEqDiff, e1, k1]
    refine n32_q hc h hs (by omega) k1 (by omega) (by omega) (Or.inl rfl) (n32_q hc h hs (by omega) k1 (by omega) (by omega) (Or.inr rfl) ?_)
    have R1 : q_R ((k : Int) + 1) = True := eq_true (by unfold q_R; omega)
    have t : (1 : Int) < 0 + 1 + 1 := by decide
    rw [k32_17]
    simp only [k32_18, k32_19, k32_59, k32_62, t, R1, true_implies, false_implies, not_true_eq_false, not_false_eq_true, true_and, and_true, implies_true, or_true, true_or, or_false, false_or, Int.reduceEq, Int.one_ne_zero, Nat.reduceEqDiff]
    have nx := ih (k + 1) (vi (0 + 1 + 1)) (by omega)
    rw [l_sm, Int.natCast_add, ← Int.add_assoc] at nx
    exact nx
theorem n32 (hc : q_C c) (h : CST c C r G pl V S K Ln) (hs : SETL r 61 G pl V wo) (kk : Q (.inl (some (vi (LST G pl V K wo)))) bb (NS c C r)) {l1 l2 l3 : V2} : qx sc (D + 1) 32 0 [vr 66, l1, l2, l3] [] (0, 0) bb (NS c C r) Q := by
  simp only [k32_0, k32_1, k32_2, k32_3]
  exact n32_l (D := D) hc h hs kk K 0 l3 (by omega)
/-- lostWithout -/
theorem n35 (hc : q_C c) (h : CST c C r G pl V S K Ln) (k0 : 0 ≤ k) (k1 : k < K) (h68 : r 68 k = -1 ∨ r 68 k = LST G pl V K (gC G k).2.1)
    (kk : ∀ r' : St, (∀ a i, ¬ (61 ≤ a ∧ a ≤ 65) → ¬ (a = 68 ∧ i = k) → r' a i = r a i) → r' 68 k = LST G pl V K (gC G k).2.1 → Q (.inl (some (vi (LST G pl V K (gC G k).2.1)))) bb (NS c C r')) :
    qx sc (D + 5) 35 0 [vr 66, vi k] [] (0, 0) bb (NS c C r) Q := by
  have hco := h.2.2.2.1
  have k40 : k < 40 := by have := h.1.2.1; omega
  have e29 : r 29 k = (gC G k).2.1 := (h.2.1.2.2.2.2.2 k k0 k1).2
  have e55 : r 55 1 = c := h.2.2.2.2.2.2.2.2.2.2
  have hLST := LST_b (G := G) (pl := pl) (V := V) (wo := (gC G k).2.1) K
  have fin : ∀ r' : St, (∀ a i, ¬ (61 ≤ a ∧ a ≤ 65) → ¬ (a = 68 ∧ i = k) → r' a i = r a i) → r' 68 k = LST G pl V K (gC G k).2.1 → qx sc (D + 5) 35 47 [vr 66, vi k] [] (0, 0) bb (NS c C r') Q := by
    intro r' h1 h2
    simp only [k35_47, k35_48, k35_51, k35_52, k35_53, NS_lo hc, NS_g hc, NS_f hc, NS_u hc, NS_uf hc, Nat.reduceLT, Nat.reduceLeDiff, Nat.reduceEqDiff, not_false_eq_true, qt_1, ql_1, qt_2, ql_2, qt_3, ql_3, qt_6, ql_6, qt_7, ql_7, qt_8, ql_8, qt_10, ql_10, qt_11, ql_11, qt_12, ql_12, qt_13, ql_13, qt_14, ql_14, qt_15, ql_15, qt_16, ql_16, qt_17, ql_17, qt_18, ql_18, qt_19, ql_19, qt_20, ql_20, qt_21, ql_21, qt_22, ql_22, qt_23, ql_23, qt_24, ql_24, qt_25, ql_25, qt_26, ql_26, qt_28, ql_28, qt_29, ql_29, qt_30, ql_30, qt_31, ql_31, qt_32, ql_32, qt_33, ql_33, qt_34, ql_34, qt_35, ql_35, qt_36, ql_36, qt_37, ql_37, qt_38, ql_38, qt_40, ql_40, qt_41, ql_41, qt_42, ql_42, qt_43, ql_43, qt_44, ql_44, qt_45, ql_45, qt_46, ql_46, qt_47, ql_47, qt_48, ql_48, qt_49, ql_49, qt_50, ql_50, qt_51, ql_51, qt_52, ql_52, qt_53, ql_53, qt_54, ql_54, qt_56, ql_56, qt_57, ql_57, qt_58, ql_58, qt_59, ql_59, qt_60, ql_60, qt_61, ql_61, qt_62, ql_62, qt_63, ql_63, qt_64, ql_64, qt_65, ql_65, qt_67, ql_67, qt_68, ql_68, qt_69, ql_69, qt_70, ql_70, qt_71, ql_71, qt_73, ql_73, qt_74, ql_74, qt_75, ql_75, qt_76, ql_76, qt_78, ql_78, qt_79, ql_79, qt_80, ql_80, qt_81, ql_81, qt_82, ql_82, qt_83, ql_83, qt_84, ql_84, qt_85, ql_85, qt_86, ql_86, qt_87, ql_87, qt_89, ql_89, qt_90, ql_90, qt_91, ql_91, qt_92, ql_92, qt_93, ql_93, qt_94, ql_94, qt_95, ql_95, qt_96, ql_96, qt_97, ql_97, qt_98, ql_98, qt_99, ql_99, qt_100, ql_100, qt_101, ql_101, qt_102, ql_102, qt_103, ql_103, qt_105, ql_105, qt_106, ql_106, qt_107, ql_107, qt_108, ql_108, qt_109, ql_109, qt_110, ql_110, qt_111, ql_111, qt_113, ql_113, qt_114, ql_114, qt_115, ql_115, qt_116, ql_116, qt_117, ql_117, qt_118, ql_118, qt_119, ql_119, qt_120, ql_120, qt_121, ql_121, qt_122, ql_122, qt_123, ql_123, qt_124, ql_124, qt_125, ql_125, qt_126, ql_126, qt_127, ql_127, qt_129, ql_129, qt_130, ql_130, qt_131, ql_131, qt_132, ql_132, qt_133, ql_133, qt_134, ql_134, qt_135, ql_135, qt_137, ql_137, qt_138, ql_138, qt_139, ql_139, qt_140, ql_140, qt_141, ql_141, qt_142, ql_142, qt_143, ql_143, qt_144, ql_144, qt_145, ql_145, qt_146, ql_146, qt_147, ql_147, qt_148, ql_148, qt_149, ql_149, qt_150, ql_150, qt_151, ql_151, qt_152, ql_152, qt_153, ql_153, qt_154, ql_154, qt_155, ql_155, qt_156, ql_156, qt_157, ql_157, qt_158, ql_158, qt_159, ql_159, qt_160, ql_160, qt_161, ql_161, qt_162, ql_162, qt_163, ql_163, qt_164, ql_164, qt_165, ql_165, qt_166, ql_166, qt_167, ql_167, qt_168, ql_168, qt_169, ql_169, qt_170, ql_170, qt_171, ql_171, qt_172, ql_172, qt_173, ql_173, qt_174, ql_174, qt_175, ql_175, qt_176, ql_176, qt_177, ql_177, qt_178, ql_178, qt_179, ql_179, qt_180, ql_180, qt_181, ql_181, qt_182, ql_182, qt_183, ql_183, qt_184, ql_184, qt_185, ql_185, qt_186, ql_186, qt_187, ql_187, qt_188, ql_188, true_implies, false_implies, not_true_eq_false, not_false_eq_true, true_and, and_true, implies_true, or_true, true_or, or_false, false_or, Int.reduceEq, Int.one_ne_zero, Nat.reduceEqDiff, k0, k40, h2]
    exact kk r' h1 h2
  by_cases hm : r 68 k = -1
  · simp only [k35_0, k35_1, k35_4, k35_5, k35_6, k35_7, k35_10, k35_11, k35_14, k35_15, k35_18, k35_19, k35_22, k35_25, k35_26, k35_29, k35_32, k35_33, k35_34, NS_lo hc, NS_g hc, NS_f hc, NS_u hc, NS_uf hc, Nat.reduceLT, Nat.reduceLeDiff, Nat.reduceEqDiff, not_false_eq_true, qt_1, ql_1, qt_2, ql_2, qt_3, ql_3, qt_6, ql_6, qt_7, ql_7, qt_8, ql_8, qt_10, ql_10, qt_11, ql_11, qt_12, ql_12, qt_13, ql_13, qt_14, ql_14, qt_15, ql_15, qt_16, ql_16, qt_17, ql_17, qt_18, ql_18, qt_19, ql_19, qt_20, ql_20, qt_21, ql_21, qt_22, ql_22, qt_23, ql_23, qt_24, ql_24, qt_25, ql_25, qt_26, ql_26, qt_28, ql_28, qt_29, ql_29, qt_30, ql_30, qt_31, ql_31, qt_32, ql_32, qt_33, ql_33, qt_34, ql_34, qt_35, ql_35, qt_36, ql_36, qt_37, ql_37, qt_38, ql_38, qt_40, ql_40, qt_41, ql_41, qt_42, ql_42, qt_43, ql_43, qt_44, ql_44, qt_45, ql_45, qt_46, ql_46, qt_47, ql_47, qt_48, ql_48, qt_49, ql_49, qt_50, ql_50, qt_51, ql_51, qt_52, ql_52, qt_53, ql_53, qt_54, ql_54, qt_56, ql_56, qt_57, ql_57, qt_58, ql_58, qt_59, ql_59, qt_60, ql_60, qt_61, ql_61, qt_62, ql_62, qt_63, ql_63, qt_64, ql_64, qt_65, ql_65, qt_67, ql_67, qt_68, ql_68, qt_69, ql_69, qt_70, ql_70, qt_71, ql_71, qt_73, ql_73, qt_74, ql_74, qt_75, ql_75, qt_76, ql_76, qt_78, ql_78, qt_79, ql_79, qt_80, ql_80, qt_81, ql_81, qt_82, ql_82, qt_83, ql_83, qt_84, ql_84, qt_85, ql_85, qt_86, ql_86, qt_87, ql_87, qt_89, ql_89, qt_90, ql_90, qt_91, ql_91, qt_92, ql_92, qt_93, ql_93, qt_94, ql_94, qt_95, ql_95, qt_96, ql_96, qt_97, ql_97, qt_98, ql_98, qt_99, ql_99, qt_100, ql_100, qt_101, ql_101, qt_102, ql_102, qt_103, ql_103, qt_105, ql_105, qt_106, ql_106, qt_107, ql_107, qt_108, ql_108, qt_109, ql_109, qt_110, ql_110, qt_111, ql_111, qt_113, ql_113, qt_114, ql_114, qt_115, ql_115, qt_116, ql_116, qt_117, ql_117, qt_118, ql_118, qt_119, ql_119, qt_120, ql_120, qt_121, ql_121, qt_122, ql_122, qt_123, ql_123, qt_124, ql_124, qt_125, ql_125, qt_126, ql_126, qt_127, ql_127, qt_129, ql_129, qt_130, ql_130, qt_131, ql_131, qt_132, ql_132, qt_133, ql_133, qt_134, ql_134, qt_135, ql_135, qt_137, ql_137, qt_138, ql_138, qt_139, ql_139, qt_140, ql_140, qt_141, ql_141, qt_142, ql_142, qt_143, ql_143, qt_144, ql_144, qt_145, ql_145, qt_146, ql_146, qt_147, ql_147, qt_148, ql_148, qt_149, ql_149, qt_150, ql_150, qt_151, ql_151, qt_152, ql_152, qt_153, ql_153, qt_154, ql_154, qt_155, ql_155, qt_156, ql_156, qt_157, ql_157, qt_158, ql_158, qt_159, ql_159, qt_160, ql_160, qt_161, ql_161, qt_162, ql_162, qt_163, ql_163, qt_164, ql_164, qt_165, ql_165, qt_166, ql_166, qt_167, ql_167, qt_168, ql_168, qt_169, ql_169, qt_170, ql_170, qt_171, ql_171, qt_172, ql_172, qt_173, ql_173, qt_174, ql_174, qt_175, ql_175, qt_176, ql_176, qt_177, ql_177, qt_178, ql_178, qt_179, ql_179, qt_180, ql_180, qt_181, ql_181, qt_182, ql_182, qt_183, ql_183, qt_184, ql_184, qt_185, ql_185, qt_186, ql_186, qt_187, ql_187, qt_188, ql_188, true_implies, false_implies, not_true_eq_false, not_false_eq_true, true_and, and_true, implies_true, or_true, true_or, or_false, false_or, Int.reduceEq, Int.one_ne_zero, Nat.reduceEqDiff, k0, k40, hm, hco, c_nn, Int.toNat_natCast, e29]
    refine n7 (D := D) hc (Or.inr rfl) h.1.2.2.2.1 (CK_CV0 h.2.1 h.1) (fun r1 d1 d2 d3 => ?_)
    have f1 : ∀ a i, ¬ (61 ≤ a ∧ a ≤ 65) → r1 a i = r a i := fun a i ha => by
      by_cases g : a = 55 ∧ i = 1
      · rw [g.1, g.2, d3, e55]
      · exact d2 a i (by omega) g
    have hc1 : CST c C r1 G pl V S K Ln := CST_of h (fun a i ha => f1 a i (by unfold CSX at ha; omega))
    simp only [q_kn_n, k35_37, k35_38, k35_41, k35_42, k35_43, true_implies, false_implies, not_true_eq_false, not_false_eq_true, true_and, and_true, implies_true, or_true, true_or, or_false, false_or, Int.reduceEq, Int.one_ne_zero, Nat.reduceEqDiff]
    refine n32 (D := D + 3) hc hc1 d1 ?_
    have u68 : ∀ x, q_up (NS c C r1) 68 k x = NS c C (q_up r1 68 k x) := fun x => NS_u hc (by decide) (by decide)
    simp only [q_kn_v, k35_46, qt_1, ql_1, qt_2, ql_2, qt_3, ql_3, qt_6, ql_6, qt_7, ql_7, qt_8, ql_8, qt_10, ql_10, qt_11, ql_11, qt_12, ql_12, qt_13, ql_13, qt_14, ql_14, qt_15, ql_15, qt_16, ql_16, qt_17, ql_17, qt_18, ql_18, qt_19, ql_19, qt_20, ql_20, qt_21, ql_21, qt_22, ql_22, qt_23, ql_23, qt_24, ql_24, qt_25, ql_25, qt_26, ql_26, qt_28, ql_28, qt_29, ql_29, qt_30, ql_30, qt_31, ql_31, qt_32, ql_32, qt_33, ql_33, qt_34, ql_34, qt_35, ql_35, qt_36, ql_36, qt_37, ql_37, qt_38, ql_38, qt_40, ql_40, qt_41, ql_41, qt_42, ql_42, qt_43, ql_43, qt_44, ql_44, qt_45, ql_45, qt_46, ql_46, qt_47, ql_47, qt_48, ql_48, qt_49, ql_49, qt_50, ql_50, qt_51, ql_51, qt_52, ql_52, qt_53, ql_53, qt_54, ql_54, qt_56, ql_56, qt_57, ql_57, qt_58, ql_58, qt_59, ql_59, qt_60, ql_60, qt_61, ql_61, qt_62, ql_62, qt_63, ql_63, qt_64, ql_64, qt_65, ql_65, qt_67, ql_67, qt_68, ql_68, qt_69, ql_69, qt_70, ql_70, qt_71, ql_71, qt_73, ql_73, qt_74, ql_74, qt_75, ql_75, qt_76, ql_76, qt_78, ql_78, qt_79, ql_79, qt_80, ql_80, qt_81, ql_81, qt_82, ql_82, qt_83, ql_83, qt_84, ql_84, qt_85, ql_85, qt_86, ql_86, qt_87, ql_87, qt_89, ql_89, qt_90, ql_90, qt_91, ql_91, qt_92, ql_92, qt_93, ql_93, qt_94, ql_94, qt_95, ql_95, qt_96, ql_96, qt_97, ql_97, qt_98, ql_98, qt_99, ql_99, qt_100, ql_100, qt_101, ql_101, qt_102, ql_102, qt_103, ql_103, qt_105, ql_105, qt_106, ql_106, qt_107, ql_107, qt_108, ql_108, qt_109, ql_109, qt_110, ql_110, qt_111, ql_111, qt_113, ql_113, qt_114, ql_114, qt_115, ql_115, qt_116, ql_116, qt_117, ql_117, qt_118, ql_118, qt_119, ql_119, qt_120, ql_120, qt_121, ql_121, qt_122, ql_122, qt_123, ql_123, qt_124, ql_124, qt_125, ql_125, qt_126, ql_126, qt_127, ql_127, qt_129, ql_129, qt_130, ql_130, qt_131, ql_131, qt_132, ql_132, qt_133, ql_133, qt_134, ql_134, qt_135, ql_135, qt_137, ql_137, qt_138, ql_138, qt_139, ql_139, qt_140, ql_140, qt_141, ql_141, qt_142, ql_142, qt_143, ql_143, qt_144, ql_144, qt_145, ql_145, qt_146, ql_146, qt_147, ql_147, qt_148, ql_148, qt_149, ql_149, qt_150, ql_150, qt_151, ql_151, qt_152, ql_152, qt_153, ql_153, qt_154, ql_154, qt_155, ql_155, qt_156, ql_156, qt_157, ql_157, qt_158, ql_158, qt_159, ql_159, qt_160, ql_160, qt_161, ql_161, qt_162, ql_162, qt_163, ql_163, qt_164, ql_164, qt_165, ql_165, qt_166, ql_166, qt_167, ql_167, qt_168, ql_168, qt_169, ql_169, qt_170, ql_170, qt_171, ql_171, qt_172, ql_172, qt_173, ql_173, qt_174, ql_174, qt_175, ql_175, qt_176, ql_176, qt_177, ql_177, qt_178, ql_178, qt_179, ql_179, qt_180, ql_180, qt_181, ql_181, qt_182, ql_182, qt_183, ql_183, qt_184, ql_184, qt_185, ql_185, qt_186, ql_186, qt_187, ql_187, qt_188, ql_188, true_implies, false_implies, not_true_eq_false, not_false_eq_true, true_and, and_true, implies_true, or_true, true_or, or_false, false_or, Int.reduceEq, Int.one_ne_zero, Nat.reduceEqDiff, k0, k40, u68]
    refine fin _ (fun a i n1 n2 => ?_) (q_up_eq _ _ _ _)
    rw [q_up_app, if_neg n2]; exact f1 a i n1
  · have h2 : r 68 k = LST G pl V K (gC G k).2.1 := by omega
    simp only [k35_0, k35_1, k35_4, k35_5, k35_6, k35_7, NS_lo hc, NS_g hc, NS_f hc, NS_u hc, NS_uf hc, Nat.reduceLT, Nat.reduceLeDiff, Nat.reduceEqDiff, not_false_eq_true, qt_1, ql_1, qt_2, ql_2, qt_3, ql_3, qt_6, ql_6, qt_7, ql_7, qt_8, ql_8, qt_10, ql_10, qt_11, ql_11, qt_12, ql_12, qt_13, ql_13, qt_14, ql_14, qt_15, ql_15, qt_16, ql_16, qt_17, ql_17, qt_18, ql_18, qt_19, ql_19, qt_20, ql_20, qt_21, ql_21, qt_22, ql_22, qt_23, ql_23, qt_24, ql_24, qt_25, ql_25, qt_26, ql_26, qt_28, ql_28, qt_29, ql_29, qt_30, ql_30, qt_31, ql_31, qt_32, ql_32, qt_33, ql_33, qt_34, ql_34, qt_35, ql_35, qt_36, ql_36, qt_37, ql_37, qt_38, ql_38, qt_40, ql_40, qt_41, ql_41, qt_42, ql_42, qt_43, ql_43, qt_44, ql_44, qt_45, ql_45, qt_46, ql_46, qt_47, ql_47, qt_48, ql_48, qt_49, ql_49, qt_50, ql_50, qt_51, ql_51, qt_52, ql_52, qt_53, ql_53, qt_54, ql_54, qt_56, ql_56, qt_57, ql_57, qt_58, ql_58, qt_59, ql_59, qt_60, ql_60, qt_61, ql_61, qt_62, ql_62, qt_63, ql_63, qt_64, ql_64, qt_65, ql_65, qt_67, ql_67, qt_68, ql_68, qt_69, ql_69, qt_70, ql_70, qt_71, ql_71, qt_73, ql_73, qt_74, ql_74, qt_75, ql_75, qt_76, ql_76, qt_78, ql_78, qt_79, ql_79, qt_80, ql_80, qt_81, ql_81, qt_82, ql_82, qt_83, ql_83, qt_84, ql_84, qt_85, ql_85, qt_86, ql_86, qt_87, ql_87, qt_89, ql_89, qt_90, ql_90, qt_91, ql_91, qt_92, ql_92, qt_93, ql_93, qt_94, ql_94, qt_95, ql_95, qt_96, ql_96, qt_97, ql_97, qt_98, ql_98, qt_99, ql_99, qt_100, ql_100, qt_101, ql_101, qt_102, ql_102, qt_103, ql_103, qt_105, ql_105, qt_106, ql_106, qt_107, ql_107, qt_108, ql_108, qt_109, ql_109, qt_110, ql_110, qt_111, ql_111, qt_113, ql_113, qt_114, ql_114, qt_115, ql_115, qt_116, ql_116, qt_117, ql_117, qt_118, ql_118, qt_119, ql_119, qt_120, ql_120, qt_121, ql_121, qt_122, ql_122, qt_123, ql_123, qt_124, ql_124, qt_125, ql_125, qt_126, ql_126, qt_127, ql_127, qt_129, ql_129, qt_130, ql_130, qt_131, ql_131, qt_132, ql_132, qt_133, ql_133, qt_134, ql_134, qt_135, ql_135, qt_137, ql_137, qt_138, ql_138, qt_139, ql_139, qt_140, ql_140, qt_141, ql_141, qt_142, ql_142, qt_143, ql_143, qt_144, ql_144, qt_145, ql_145, qt_146, ql_146, qt_147, ql_147, qt_148, ql_148, qt_149, ql_149, qt_150, ql_150, qt_151, ql_151, qt_152, ql_152, qt_153, ql_153, qt_154, ql_154, qt_155, ql_155, qt_156, ql_156, qt_157, ql_157, qt_158, ql_158, qt_159, ql_159, qt_160, ql_160, qt_161, ql_161, qt_162, ql_162, qt_163, ql_163, qt_164, ql_164, qt_165, ql_165, qt_166, ql_166, qt_167, ql_167, qt_168, ql_168, qt_169, ql_169, qt_170, ql_170, qt_171, ql_171, qt_172, ql_172, qt_173, ql_173, qt_174, ql_174, qt_175, ql_175, qt_176, ql_176, qt_177, ql_177, qt_178, ql_178, qt_179, ql_179, qt_180, ql_180, qt_181, ql_181, qt_182, ql_182, qt_183, ql_183, qt_184, ql_184, qt_185, ql_185, qt_186, ql_186, qt_187, ql_187, qt_188, ql_188, true_implies, false_implies, not_true_eq_false, not_false_eq_true, true_and, and_true, implies_true, or_true, true_or, or_false, false_or, Int.reduceEq, Int.one_ne_zero, Nat.reduceEqDiff, k0, k40, hm]
    exact fin r (fun _ _ _ _ => rfl) h2
end HNG
