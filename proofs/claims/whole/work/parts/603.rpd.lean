/-! the reference is told, fed, and reads -/
section RPD
variable {sc : Nat × (Nat → Int32)} {D : Nat} {bb : Bool} {Q : QP} {σ σ0 σ' : St} {m : Int} {L : List (ST 5)} {pl f inp len g : Int → Int} {n ft a b x y k w v l s ab lo hi e : Int} {O : OC}
theorem RI_gen {n' ft' : Int} {f' inp' len' : Int → Int} (h : RI σ L pl n f ft inp len) (he : ∀ a i, (a = 136 ∧ ((13 ≤ i ∧ i ≤ 18) ∨ i = 54 ∨ i = 7)) ∨ a = 140 ∨ (141 ≤ a ∧ a ≤ 170) ∨ (173 ≤ a ∧ a ≤ 179) → σ' a i = σ a i) (h3 : σ' 136 2 = n' ∧ 0 ≤ n' ∧ n' ≤ 400 ∧ AGR (σ' 137) f' n' ∧ t_by f' n') (h5 : σ' 136 52 = ft') (h6 : ∀ d, 0 ≤ d → d ≤ 2 → (σ' 182 d = inp' d ∧ σ' 181 d = len' d) ∧ (-99 ≤ inp' d ∧ inp' d ≤ 99) ∧ (0 ≤ len' d ∧ len' d ≤ 40)) : RI σ' L pl n' f' ft' inp' len' := by
  obtain ⟨h1, ⟨k1, k2, k3, k4, k5⟩, -, h4, -, -⟩ := h
  have e140 : σ' 140 = σ 140 := funext (fun i => he 140 i (by omega))
  refine ⟨h1, ⟨RK_of k1 (fun a i ha => he a i (by omega)), BALL_of k2 (fun i => he 173 i (by omega)), fun w hw => ?_, fun j j0 j1 => ?_, ?_⟩, h3, ?_, h5, h6⟩
  · rw [he 174 w (by omega), he 175 w (by omega)]; exact k3 w hw
  · rw [he 178 j (by omega), he 179 j (by omega), he 176 j (by omega), he 177 j (by omega)]; exact k4 j j0 j1
  · rw [he 136 54 (by omega)]; exact k5
  · rw [he 136 7 (by omega), e140]; exact h4
/-- end -/
theorem s145 (hI : RI σ L pl n f ft inp len) (kk : RPO Q bb σ (o_end n x) L pl (endU n x) f ft inp len) : qx sc (D + 40) 145 0 [vr 136, vi x] [] (0, 0) bb σ Q := by
  obtain ⟨h2, n0, n4, hA, hB⟩ := hI.2.2.1
  have g2 : q_up σ 136 0 0 136 2 = n := by rw [u0_ne _ _ (by decide)]; exact h2
  unfold o_end endU at kk
  by_cases h : 0 ≤ x ∧ x ≤ n
  · rw [if_pos h, if_pos h] at kk
    have n1 : ¬ x < 0 := by omega
    have n2 : ¬ n < x := by omega
    simp only [k145_0, k145_1, k145_2, k145_5, k145_6, k145_9, k145_10, k145_11, k145_14, k145_17, k145_18, k145_19, k145_20, k145_21, k145_24, k145_25, true_implies, false_implies, not_true_eq_false, not_false_eq_true, true_and, and_true, implies_true, or_true, true_or, or_false, false_or, Int.reduceEq, Int.one_ne_zero, Nat.reduceEqDiff, g2, n1, n2]
    have lo : ∀ a i, ¬ (a = 136 ∧ (i = 0 ∨ i = 2)) → q_up (q_up σ 136 0 0) 136 2 x a i = σ a i := fun a i h => by rw [q_up_app, if_neg (by omega), q_up_app, if_neg (by omega)]
    refine kk _ (RI_gen hI (fun a i ha => lo a i (by omega)) ⟨q_up_eq _ _ _ _, h.1, by omega, ?_, fun i i0 i1 => hB i i0 (by omega)⟩ ?_ (fun d d0 d1 => ?_)) ?_ (fun a i ha => lo a i (by omega))
    · rw [show q_up (q_up σ 136 0 0) 136 2 x 137 = σ 137 from funext (fun i => lo 137 i (by omega))]
      exact fun i i0 i1 => hA i i0 (by omega)
    · rw [lo 136 52 (by decide)]; exact hI.2.2.2.2.1
    · rw [lo 182 d (by omega), lo 181 d (by omega)]; exact hI.2.2.2.2.2 d d0 d1
    · rw [q_up_ne2 _ _ _ (by decide), q_up_eq]; rfl
  · rw [if_neg h, if_neg h] at kk
    have kq := RPO_q hI kk (u0_ne (x := 0)) (q_up_eq _ _ _ _)
    by_cases n1 : x < 0
    · simp only [k145_0, k145_1, k145_2, k145_5, k145_6, k145_9, k145_10, k145_11, k145_14, k145_17, k145_18, n1, true_implies, false_implies, not_true_eq_false, not_false_eq_true, true_and, and_true, implies_true, or_true, true_or, or_false, false_or, Int.reduceEq, Int.one_ne_zero, Nat.reduceEqDiff]
      exact kq
    · have n2 : n < x := by omega
      simp only [k145_0, k145_1, k145_2, k145_5, k145_6, k145_9, k145_10, k145_11, k145_14, k145_17, k145_18, g2, n1, n2, true_implies, false_implies, not_true_eq_false, not_false_eq_true, true_and, and_true, implies_true, or_true, true_or, or_false, false_or, Int.reduceEq, Int.one_ne_zero, Nat.reduceEqDiff]
      exact kq
/-- input -/
theorem s158 (hI : RI σ L pl n f ft inp len) (kk : RPO Q bb σ (o_inp inp a x) L pl n f ft (inpU inp a x) len) : qx sc (D + 40) 158 0 [vr 136, vi a, vi x, vn] [] (0, 0) bb σ Q := by
  have h6 := hI.2.2.2.2.2
  unfold o_inp inpU at kk
  simp only [k158_0, k158_1, k158_2, k158_5, k158_6, k158_7, k158_8, k158_9]
  by_cases ha : 0 ≤ a ∧ a < 3
  · have ha' : 0 ≤ a ∧ a ≤ 2 := by omega
    simp only [e157_y ha', q_kn_v, k158_12, k158_15, k158_16, k158_18, k158_20, true_implies, false_implies, not_true_eq_false, not_false_eq_true, true_and, and_true, implies_true, or_true, true_or, or_false, false_or, Int.reduceEq, Int.one_ne_zero, Nat.reduceEqDiff]
    by_cases hx : -99 ≤ x ∧ x ≤ 99
    · rw [if_pos ⟨ha, hx⟩, if_pos ⟨ha, hx⟩] at kk
      have e2 : q_up σ 136 0 0 182 a = inp a := by rw [u0_ne _ _ (by omega)]; exact (h6 a ha.1 ha'.2).1.1
      simp only [e157_y hx, q_kn_v, k158_23, k158_26, k158_27, k158_30, k158_31, k158_32, true_implies, false_implies, not_true_eq_false, not_false_eq_true, true_and, and_true, implies_true, or_true, true_or, or_false, false_or, Int.reduceEq, Int.one_ne_zero, Nat.reduceEqDiff, e224_0, k158_35, k158_38, k158_39, k158_40, k158_41, k158_44, k158_45, k158_46, k158_47, k158_48, k158_51, k158_52, k158_53, k158_54, k158_55, qt_1, ql_1, qt_2, ql_2, qt_3, ql_3, qt_6, ql_6, qt_7, ql_7, qt_8, ql_8, qt_10, ql_10, qt_11, ql_11, qt_12, ql_12, qt_13, ql_13, qt_14, ql_14, qt_15, ql_15, qt_16, ql_16, qt_17, ql_17, qt_18, ql_18, qt_19, ql_19, qt_20, ql_20, qt_21, ql_21, qt_22, ql_22, qt_23, ql_23, qt_24, ql_24, qt_25, ql_25, qt_26, ql_26, qt_28, ql_28, qt_29, ql_29, qt_30, ql_30, qt_31, ql_31, qt_32, ql_32, qt_33, ql_33, qt_34, ql_34, qt_35, ql_35, qt_36, ql_36, qt_37, ql_37, qt_38, ql_38, qt_40, ql_40, qt_41, ql_41, qt_42, ql_42, qt_43, ql_43, qt_44, ql_44, qt_45, ql_45, qt_46, ql_46, qt_47, ql_47, qt_48, ql_48, qt_49, ql_49, qt_50, ql_50, qt_51, ql_51, qt_52, ql_52, qt_53, ql_53, qt_54, ql_54, qt_56, ql_56, qt_57, ql_57, qt_58, ql_58, qt_59, ql_59, qt_60, ql_60, qt_61, ql_61, qt_62, ql_62, qt_63, ql_63, qt_64, ql_64, qt_65, ql_65, qt_67, ql_67, qt_68, ql_68, qt_69, ql_69, qt_70, ql_70, qt_71, ql_71, qt_73, ql_73, qt_74, ql_74, qt_75, ql_75, qt_76, ql_76, qt_78, ql_78, qt_79, ql_79, qt_80, ql_80, qt_81, ql_81, qt_82, ql_82, qt_83, ql_83, qt_84, ql_84, qt_85, ql_85, qt_86, ql_86, qt_87, ql_87, qt_89, ql_89, qt_90, ql_90, qt_91, ql_91, qt_92, ql_92, qt_93, ql_93, qt_94, ql_94, qt_95, ql_95, qt_96, ql_96, qt_97, ql_97, qt_98, ql_98, qt_99, ql_99, qt_100, ql_100, qt_101, ql_101, qt_102, ql_102, qt_103, ql_103, qt_105, ql_105, qt_106, ql_106, qt_107, ql_107, qt_108, ql_108, qt_109, ql_109, qt_110, ql_110, qt_111, ql_111, qt_113, ql_113, qt_114, ql_114, qt_115, ql_115, qt_116, ql_116, qt_117, ql_117, qt_118, ql_118, qt_119, ql_119, qt_120, ql_120, qt_121, ql_121, qt_122, ql_122, qt_123, ql_123, qt_124, ql_124, qt_125, ql_125, qt_126, ql_126, qt_127, ql_127, qt_129, ql_129, qt_130, ql_130, qt_131, ql_131, qt_132, ql_132, qt_133, ql_133, qt_134, ql_134, qt_135, ql_135, qt_137, ql_137, qt_138, ql_138, qt_139, ql_139, qt_140, ql_140, qt_141, ql_141, qt_142, ql_142, qt_143, ql_143, qt_144, ql_144, qt_145, ql_145, qt_146, ql_146, qt_147, ql_147, qt_148, ql_148, qt_149, ql_149, qt_150, ql_150, qt_151, ql_151, qt_152, ql_152, qt_153, ql_153, qt_154, ql_154, qt_155, ql_155, qt_156, ql_156, qt_157, ql_157, qt_158, ql_158, qt_159, ql_159, qt_160, ql_160, qt_161, ql_161, qt_162, ql_162, qt_163, ql_163, qt_164, ql_164, qt_165, ql_165, qt_166, ql_166, qt_167, ql_167, qt_168, ql_168, qt_169, ql_169, qt_170, ql_170, qt_171, ql_171, qt_172, ql_172, qt_173, ql_173, qt_174, ql_174, qt_175, ql_175, qt_176, ql_176, qt_177, ql_177, qt_178, ql_178, qt_179, ql_179, qt_180, ql_180, qt_181, ql_181, qt_182, ql_182, qt_183, ql_183, qt_184, ql_184, qt_185, ql_185, qt_186, ql_186, qt_187, ql_187, qt_188, ql_188, ha.1, ha.2, e2]
      have lo : ∀ a' i, ¬ (a' = 136 ∧ i = 0) → ¬ a' = 182 → q_up (q_up σ 136 0 0) 182 a x a' i = σ a' i := fun a' i h h' => by rw [q_up_ne _ _ _ _ h', u0_ne a' i h]
      refine kk _ (RI_gen hI (fun a' i ha' => lo a' i (by omega) (by omega)) ?_ ?_ (fun d d0 d1 => ?_)) ?_ (fun a' i ha' => lo a' i (by omega) (by omega))
      · rw [lo 136 2 (by decide) (by decide), show q_up (q_up σ 136 0 0) 182 a x 137 = σ 137 from funext (fun i => lo 137 i (by omega) (by decide))]
        exact hI.2.2.1
      · rw [lo 136 52 (by decide) (by decide)]; exact hI.2.2.2.2.1
      · have g := h6 d d0 d1
        rw [lo 181 d (by omega) (by decide), q_up_app]
        unfold iup
        by_cases e : d = a
        · rw [if_pos ⟨rfl, e⟩, if_pos e]; exact ⟨⟨rfl, g.1.2⟩, hx, g.2.2⟩
        · rw [if_neg (by omega), if_neg e, u0_ne _ _ (by omega)]; exact g
      · rw [q_up_ne _ _ _ _ (by decide), q_up_eq]; rfl
    · rw [if_neg (by omega), if_neg (by omega)] at kk
      simp only [e157_n hx, q_kn_v, k158_23, k158_26, k158_27, k158_30, k158_31, k158_32, true_implies, false_implies, not_true_eq_false, not_false_eq_true, true_and, and_true, implies_true, or_true, true_or, or_false, false_or, Int.reduceEq, Int.one_ne_zero, Nat.reduceEqDiff, e224_1, k158_35, k158_38, k158_39]
      exact RPO_q hI kk u00_ne (q_up_eq _ _ _ _)
  · rw [if_neg (by omega), if_neg (by omega)] at kk
    have ha' : ¬ (0 ≤ a ∧ a ≤ 2) := by omega
    simp only [e157_n ha', q_kn_v, k158_12, k158_26, k158_27, k158_30, k158_31, k158_32, true_implies, false_implies, not_true_eq_false, not_false_eq_true, true_and, and_true, implies_true, or_true, true_or, or_false, false_or, Int.reduceEq, Int.one_ne_zero, Nat.reduceEqDiff, e224_1, k158_35, k158_38, k158_39]
    exact RPO_q hI kk u00_ne (q_up_eq _ _ _ _)
/-- length -/
theorem s175 (hI : RI σ L pl n f ft inp len) (kk : RPO Q bb σ (o_len len a x) L pl n f ft inp (lenU len a x)) : qx sc (D + 40) 175 0 [vr 136, vi a, vi x, vn] [] (0, 0) bb σ Q := by
  have h6 := hI.2.2.2.2.2
  unfold o_len lenU at kk
  simp only [k175_0, k175_1, k175_2, k175_5, k175_6, k175_7]
  by_cases ha : 0 ≤ a ∧ a < 3
  · rw [o_in_y ha] at kk
    simp only [e186_y ha, q_kn_v, k175_10, k175_13, k175_14, k175_15, k175_16, k175_18, true_implies, false_implies, not_true_eq_false, not_false_eq_true, true_and, and_true, implies_true, or_true, true_or, or_false, false_or, Int.reduceEq, Int.one_ne_zero, Nat.reduceEqDiff]
    by_cases hx : 0 ≤ x ∧ x ≤ 40
    · rw [if_pos hx, if_pos ⟨ha, hx⟩] at kk
      have e2 : q_up σ 136 0 0 181 a = len a := by rw [u0_ne _ _ (by omega)]; exact (h6 a ha.1 (by omega)).1.2
      simp only [e157_y hx, q_kn_v, k175_21, k175_24, k175_25, k175_28, k175_29, k175_30, true_implies, false_implies, not_true_eq_false, not_false_eq_true, true_and, and_true, implies_true, or_true, true_or, or_false, false_or, Int.reduceEq, Int.one_ne_zero, Nat.reduceEqDiff, e224_0, k175_33, k175_38, k175_39, k175_42, k175_43, k175_44, k175_45, k175_46, k175_49, k175_50, k175_51, k175_52, k175_53, qt_1, ql_1, qt_2, ql_2, qt_3, ql_3, qt_6, ql_6, qt_7, ql_7, qt_8, ql_8, qt_10, ql_10, qt_11, ql_11, qt_12, ql_12, qt_13, ql_13, qt_14, ql_14, qt_15, ql_15, qt_16, ql_16, qt_17, ql_17, qt_18, ql_18, qt_19, ql_19, qt_20, ql_20, qt_21, ql_21, qt_22, ql_22, qt_23, ql_23, qt_24, ql_24, qt_25, ql_25, qt_26, ql_26, qt_28, ql_28, qt_29, ql_29, qt_30, ql_30, qt_31, ql_31, qt_32, ql_32, qt_33, ql_33, qt_34, ql_34, qt_35, ql_35, qt_36, ql_36, qt_37, ql_37, qt_38, ql_38, qt_40, ql_40, qt_41, ql_41, qt_42, ql_42, qt_43, ql_43, qt_44, ql_44, qt_45, ql_45, qt_46, ql_46, qt_47, ql_47, qt_48, ql_48, qt_49, ql_49, qt_50, ql_50, qt_51, ql_51, qt_52, ql_52, qt_53, ql_53, qt_54, ql_54, qt_56, ql_56, qt_57, ql_57, qt_58, ql_58, qt_59, ql_59, qt_60, ql_60, qt_61, ql_61, qt_62, ql_62, qt_63, ql_63, qt_64, ql_64, qt_65, ql_65, qt_67, ql_67, qt_68, ql_68, qt_69, ql_69, qt_70, ql_70, qt_71, ql_71, qt_73, ql_73, qt_74, ql_74, qt_75, ql_75, qt_76, ql_76, qt_78, ql_78, qt_79, ql_79, qt_80, ql_80, qt_81, ql_81, qt_82, ql_82, qt_83, ql_83, qt_84, ql_84, qt_85, ql_85, qt_86, ql_86, qt_87, ql_87, qt_89, ql_89, qt_90, ql_90, qt_91, ql_91, qt_92, ql_92, qt_93, ql_93, qt_94, ql_94, qt_95, ql_95, qt_96, ql_96, qt_97, ql_97, qt_98, ql_98, qt_99, ql_99, qt_100, ql_100, qt_101, ql_101, qt_102, ql_102, qt_103, ql_103, qt_105, ql_105, qt_106, ql_106, qt_107, ql_107, qt_108, ql_108, qt_109, ql_109, qt_110, ql_110, qt_111, ql_111, qt_113, ql_113, qt_114, ql_114, qt_115, ql_115, qt_116, ql_116, qt_117, ql_117, qt_118, ql_118, qt_119, ql_119, qt_120, ql_120, qt_121, ql_121, qt_122, ql_122, qt_123, ql_123, qt_124, ql_124, qt_125, ql_125, qt_126, ql_126, qt_127, ql_127, qt_129, ql_129, qt_130, ql_130, qt_131, ql_131, qt_132, ql_132, qt_133, ql_133, qt_134, ql_134, qt_135, ql_135, qt_137, ql_137, qt_138, ql_138, qt_139, ql_139, qt_140, ql_140, qt_141, ql_141, qt_142, ql_142, qt_143, ql_143, qt_144, ql_144, qt_145, ql_145, qt_146, ql_146, qt_147, ql_147, qt_148, ql_148, qt_149, ql_149, qt_150, ql_150, qt_151, ql_151, qt_152, ql_152, qt_153, ql_153, qt_154, ql_154, qt_155, ql_155, qt_156, ql_156, qt_157, ql_157, qt_158, ql_158, qt_159, ql_159, qt_160, ql_160, qt_161, ql_161, qt_162, ql_162, qt_163, ql_163, qt_164, ql_164, qt_165, ql_165, qt_166, ql_166, qt_167, ql_167, qt_168, ql_168, qt_169, ql_169, qt_170, ql_170, qt_171, ql_171, qt_172, ql_172, qt_173, ql_173, qt_174, ql_174, qt_175, ql_175, qt_176, ql_176, qt_177, ql_177, qt_178, ql_178, qt_179, ql_179, qt_180, ql_180, qt_181, ql_181, qt_182, ql_182, qt_183, ql_183, qt_184, ql_184, qt_185, ql_185, qt_186, ql_186, qt_187, ql_187, qt_188, ql_188, ha.1, ha.2, e2]
      have lo : ∀ a' i, ¬ (a' = 136 ∧ i = 0) → ¬ a' = 181 → q_up (q_up σ 136 0 0) 181 a x a' i = σ a' i := fun a' i h h' => by rw [q_up_ne _ _ _ _ h', u0_ne a' i h]
      refine kk _ (RI_gen hI (fun a' i ha' => lo a' i (by omega) (by omega)) ?_ ?_ (fun d d0 d1 => ?_)) ?_ (fun a' i ha' => lo a' i (by omega) (by omega))
      · rw [lo 136 2 (by decide) (by decide), show q_up (q_up σ 136 0 0) 181 a x 137 = σ 137 from funext (fun i => lo 137 i (by omega) (by decide))]
        exact hI.2.2.1
      · rw [lo 136 52 (by decide) (by decide)]; exact hI.2.2.2.2.1
      · have g := h6 d d0 d1
        rw [lo 182 d (by omega) (by decide), q_up_app]
        unfold iup
        by_cases e : d = a
        · rw [if_pos ⟨rfl, e⟩, if_pos e]; exact ⟨⟨g.1.1, rfl⟩, g.2.1, hx⟩
        · rw [if_neg (by omega), if_neg e, u0_ne _ _ (by omega)]; exact g
      · rw [q_up_ne _ _ _ _ (by decide), q_up_eq]; rfl
    · rw [if_neg hx, if_neg (by omega)] at kk
      simp only [e157_n hx, q_kn_v, k175_21, k175_24, k175_25, k175_28, k175_29, k175_30, true_implies, false_implies, not_true_eq_false, not_false_eq_true, true_and, and_true, implies_true, or_true, true_or, or_false, false_or, Int.reduceEq, Int.one_ne_zero, Nat.reduceEqDiff, e224_1, k175_33, k175_36, k175_37]
      exact RPO_q hI kk u00_ne (q_up_eq _ _ _ _)
  · rw [o_in_n ha, if_neg (by omega)] at kk
    simp only [e186_n ha, q_kn_v, k175_10, k175_36, k175_37, true_implies, false_implies, not_true_eq_false, not_false_eq_true, true_and, and_true, implies_true, or_true, true_or, or_false, false_or, Int.reduceEq, Int.one_ne_zero, Nat.reduceEqDiff]
    exact RPO_q hI kk u00_ne (q_up_eq _ _ _ _)
/-- feed -/
theorem s150_l (hn : 0 ≤ n ∧ n + 20 ≤ 400) (h2 : σ0 136 2 = n) (h138 : ∀ j, 0 ≤ j → j < 5 → σ0 138 j = g j) {l1 l2 l3 l4 l5 : V2} (kk : ∀ σ, (∀ i, 0 ≤ i → i < 20 → σ 137 (n + i) = fedF f n g (n + i)) → (∀ a i, ¬ (a = 137 ∧ n ≤ i) → σ a i = σ0 a i) → qx sc D 150 106 [vr 136, l1, l2, l3, l4, l5, vi 20] [] (0, 0) bb σ Q) :
    ∀ (d : Nat) (j : Int) (σ : St), j + d = 20 → 0 ≤ j → (∀ i, 0 ≤ i → i < j → σ 137 (n + i) = fedF f n g (n + i)) → (∀ a i, ¬ (a = 137 ∧ n ≤ i) → σ a i = σ0 a i) → qx sc D 150 60 [vr 136, l1, l2, l3, l4, l5, vi j] [] (0, 0) bb σ Q := by
  intro d
  induction d with
  | zero =>
    intro j σ hj j0 h1 hF
    have e : j = 20 := by omega
    subst e
    rw [k150_60]
    simp only [k150_62, k150_64, Int.lt_irrefl, true_implies, false_implies, not_true_eq_false, not_false_eq_true, true_and, and_true, implies_true, or_true, true_or, or_false, false_or, Int.reduceEq, Int.one_ne_zero, Nat.reduceEqDiff]
    exact kk σ h1 hF
  | succ d ih =>
    intro j σ hj j0 h1 hF
    have j20 : j < 20 := by omega
    have g2 : σ 136 2 = n := by rw [hF 136 2 (by omega)]; exact h2
    have d5 : 0 ≤ j / 4 ∧ j / 4 < 5 := by omega
    have m4 : 0 ≤ j % 4 ∧ j % 4 < 4 := by omega
    have g138 : σ 138 (j / 4) = g (j / 4) := by rw [hF 138 _ (by omega)]; exact h138 _ d5.1 d5.2
    have R1 : q_R (n + j) = True := eq_true (by unfold q_R; omega)
    have R2 : q_R (j / 4) = True := eq_true (by unfold q_R; omega)
    have R3 : q_R (j % 4) = True := eq_true (by unfold q_R; omega)
    have R4 : q_R (8 * (j % 4)) = True := eq_true (by unfold q_R; omega)
    have R5 : q_R (24 - 8 * (j % 4)) = True := eq_true (by unfold q_R; omega)
    have R6 : q_R (j + 1) = True := eq_true (by unfold q_R; omega)
    have n0 : 0 ≤ n + j := by omega
    have n4 : n + j < 400 := by omega
    have eB : (q_I (q_I (g (j / 4)) >>> (q_I (24 - 8 * (j % 4)) &&& 31)).toInt).toInt8.toInt32.toInt = bR (g (j / 4)) (24 - 8 * (j % 4)) := rfl
    obtain ⟨-, b1, b2⟩ := b_CR (x := g (j / 4)) (s := 24 - 8 * (j % 4)) (by omega)
    have eF : fedF f n g (n + j) = bR (g (j / 4)) (24 - 8 * (j % 4)) := by
      have := fedF_at (f := f) (n := n) (g := g) d5.1 m4.1 m4.2
      rw [show n + 4 * (j / 4) + j % 4 = n + j by omega] at this
      exact this
    rw [k150_60]
    simp only [k150_62, k150_64, k150_67, k150_68, k150_71, k150_72, k150_75, k150_77, k150_78, k150_79, k150_82, k150_84, k150_85, k150_86, k150_87, k150_89, k150_91, k150_93, k150_94, k150_95, k150_96, k150_97, k150_98, k150_99, k150_100, k150_103, j20, qt_1, ql_1, qt_2, ql_2, qt_3, ql_3, qt_6, ql_6, qt_7, ql_7, qt_8, ql_8, qt_10, ql_10, qt_11, ql_11, qt_12, ql_12, qt_13, ql_13, qt_14, ql_14, qt_15, ql_15, qt_16, ql_16, qt_17, ql_17, qt_18, ql_18, qt_19, ql_19, qt_20, ql_20, qt_21, ql_21, qt_22, ql_22, qt_23, ql_23, qt_24, ql_24, qt_25, ql_25, qt_26, ql_26, qt_28, ql_28, qt_29, ql_29, qt_30, ql_30, qt_31, ql_31, qt_32, ql_32, qt_33, ql_33, qt_34, ql_34, qt_35, ql_35, qt_36, ql_36, qt_37, ql_37, qt_38, ql_38, qt_40, ql_40, qt_41, ql_41, qt_42, ql_42, qt_43, ql_43, qt_44, ql_44, qt_45, ql_45, qt_46, ql_46, qt_47, ql_47, qt_48, ql_48, qt_49, ql_49, qt_50, ql_50, qt_51, ql_51, qt_52, ql_52, qt_53, ql_53, qt_54, ql_54, qt_56, ql_56, qt_57, ql_57, qt_58, ql_58, qt_59, ql_59, qt_60, ql_60, qt_61, ql_61, qt_62, ql_62, qt_63, ql_63, qt_64, ql_64, qt_65, ql_65, qt_67, ql_67, qt_68, ql_68, qt_69, ql_69, qt_70, ql_70, qt_71, ql_71, qt_73, ql_73, qt_74, ql_74, qt_75, ql_75, qt_76, ql_76, qt_78, ql_78, qt_79, ql_79, qt_80, ql_80, qt_81, ql_81, qt_82, ql_82, qt_83, ql_83, qt_84, ql_84, qt_85, ql_85, qt_86, ql_86, qt_87, ql_87, qt_89, ql_89, qt_90, ql_90, qt_91, ql_91, qt_92, ql_92, qt_93, ql_93, qt_94, ql_94, qt_95, ql_95, qt_96, ql_96, qt_97, ql_97, qt_98, ql_98, qt_99, ql_99, qt_100, ql_100, qt_101, ql_101, qt_102, ql_102, qt_103, ql_103, qt_105, ql_105, qt_106, ql_106, qt_107, ql_107, qt_108, ql_108, qt_109, ql_109, qt_110, ql_110, qt_111, ql_111, qt_113, ql_113, qt_114, ql_114, qt_115, ql_115, qt_116, ql_116, qt_117, ql_117, qt_118, ql_118, qt_119, ql_119, qt_120, ql_120, qt_121, ql_121, qt_122, ql_122, qt_123, ql_123, qt_124, ql_124, qt_125, ql_125, qt_126, ql_126, qt_127, ql_127, qt_129, ql_129, qt_130, ql_130, qt_131, ql_131, qt_132, ql_132, qt_133, ql_133, qt_134, ql_134, qt_135, ql_135, qt_137, ql_137, qt_138, ql_138, qt_139, ql_139, qt_140, ql_140, qt_141, ql_141, qt_142, ql_142, qt_143, ql_143, qt_144, ql_144, qt_145, ql_145, qt_146, ql_146, qt_147, ql_147, qt_148, ql_148, qt_149, ql_149, qt_150, ql_150, qt_151, ql_151, qt_152, ql_152, qt_153, ql_153, qt_154, ql_154, qt_155, ql_155, qt_156, ql_156, qt_157, ql_157, qt_158, ql_158, qt_159, ql_159, qt_160, ql_160, qt_161, ql_161, qt_162, ql_162, qt_163, ql_163, qt_164, ql_164, qt_165, ql_165, qt_166, ql_166, qt_167, ql_167, qt_168, ql_168, qt_169, ql_169, qt_170, ql_170, qt_171, ql_171, qt_172, ql_172, qt_173, ql_173, qt_174, ql_174, qt_175, ql_175, qt_176, ql_176, qt_177, ql_177, qt_178, ql_178, qt_179, ql_179, qt_180, ql_180, qt_181, ql_181, qt_182, ql_182, qt_183, ql_183, qt_184, ql_184, qt_185, ql_185, qt_186, ql_186, qt_187, ql_187, qt_188, ql_188, true_implies, false_implies, not_true_eq_false, not_false_eq_true, true_and, and_true, implies_true, or_true, true_or, or_false, false_or, Int.reduceEq, Int.one_ne_zero, Nat.reduceEqDiff, g2, R1, R2, R3, R4, R5, R6, j0, d5.1, d5.2, g138, eB, b1, b2, n0, n4, Int.reduceLT]
    refine ih (j + 1) _ (by omega) (by omega) (fun i i0 i1 => ?_) (fun a i h => ?_)
    · rw [q_up_app]
      by_cases e : i = j
      · rw [if_pos ⟨rfl, by omega⟩, e, eF]
      · rw [if_neg (by omega)]; exact h1 i i0 (by omega)
    · rw [q_up_app, if_neg (by omega)]; exact hF a i h
theorem s150 {x0 x1 x2 x3 x4 : Int} (hI : RI σ L pl n f ft inp len) (kk : RPO Q bb σ (o_fed n) L pl (fedN n) (fedU f n (five x0 x1 x2 x3 x4)) ft inp len) : qx sc (D + 40) 150 0 [vr 136, vi x0, vi x1, vi x2, vi x3, vi x4, vn] [] (0, 0) bb σ Q := by
  obtain ⟨h2, n0, n4, hA, hB⟩ := hI.2.2.1
  have g2 : q_up σ 136 0 0 136 2 = n := by rw [u0_ne _ _ (by decide)]; exact h2
  have R : q_R (n + 20) = True := eq_true (by unfold q_R; omega)
  unfold o_fed fedN fedU at kk
  by_cases h : n + 20 ≤ 400
  · rw [if_pos h, if_pos h, if_pos h] at kk
    have h' : ¬ 400 < n + 20 := by omega
    simp only [k150_0, k150_1, k150_2, k150_5, k150_6, k150_9, k150_11, k150_12, k150_15, k150_20, k150_21, k150_24, k150_25, k150_26, k150_27, k150_28, k150_31, k150_32, k150_33, k150_34, k150_35, k150_38, k150_39, k150_40, k150_41, k150_42, k150_45, k150_46, k150_48, k150_49, k150_50, k150_53, k150_54, k150_56, k150_57, k150_58, true_implies, false_implies, not_true_eq_false, not_false_eq_true, true_and, and_true, implies_true, or_true, true_or, or_false, false_or, Int.reduceEq, Int.one_ne_zero, Nat.reduceEqDiff, qt_1, ql_1, qt_2, ql_2, qt_3, ql_3, qt_6, ql_6, qt_7, ql_7, qt_8, ql_8, qt_10, ql_10, qt_11, ql_11, qt_12, ql_12, qt_13, ql_13, qt_14, ql_14, qt_15, ql_15, qt_16, ql_16, qt_17, ql_17, qt_18, ql_18, qt_19, ql_19, qt_20, ql_20, qt_21, ql_21, qt_22, ql_22, qt_23, ql_23, qt_24, ql_24, qt_25, ql_25, qt_26, ql_26, qt_28, ql_28, qt_29, ql_29, qt_30, ql_30, qt_31, ql_31, qt_32, ql_32, qt_33, ql_33, qt_34, ql_34, qt_35, ql_35, qt_36, ql_36, qt_37, ql_37, qt_38, ql_38, qt_40, ql_40, qt_41, ql_41, qt_42, ql_42, qt_43, ql_43, qt_44, ql_44, qt_45, ql_45, qt_46, ql_46, qt_47, ql_47, qt_48, ql_48, qt_49, ql_49, qt_50, ql_50, qt_51, ql_51, qt_52, ql_52, qt_53, ql_53, qt_54, ql_54, qt_56, ql_56, qt_57, ql_57, qt_58, ql_58, qt_59, ql_59, qt_60, ql_60, qt_61, ql_61, qt_62, ql_62, qt_63, ql_63, qt_64, ql_64, qt_65, ql_65, qt_67, ql_67, qt_68, ql_68, qt_69, ql_69, qt_70, ql_70, qt_71, ql_71, qt_73, ql_73, qt_74, ql_74, qt_75, ql_75, qt_76, ql_76, qt_78, ql_78, qt_79, ql_79, qt_80, ql_80, qt_81, ql_81, qt_82, ql_82, qt_83, ql_83, qt_84, ql_84, qt_85, ql_85, qt_86, ql_86, qt_87, ql_87, qt_89, ql_89, qt_90, ql_90, qt_91, ql_91, qt_92, ql_92, qt_93, ql_93, qt_94, ql_94, qt_95, ql_95, qt_96, ql_96, qt_97, ql_97, qt_98, ql_98, qt_99, ql_99, qt_100, ql_100, qt_101, ql_101, qt_102, ql_102, qt_103, ql_103, qt_105, ql_105, qt_106, ql_106, qt_107, ql_107, qt_108, ql_108, qt_109, ql_109, qt_110, ql_110, qt_111, ql_111, qt_113, ql_113, qt_114, ql_114, qt_115, ql_115, qt_116, ql_116, qt_117, ql_117, qt_118, ql_118, qt_119, ql_119, qt_120, ql_120, qt_121, ql_121, qt_122, ql_122, qt_123, ql_123, qt_124, ql_124, qt_125, ql_125, qt_126, ql_126, qt_127, ql_127, qt_129, ql_129, qt_130, ql_130, qt_131, ql_131, qt_132, ql_132, qt_133, ql_133, qt_134, ql_134, qt_135, ql_135, qt_137, ql_137, qt_138, ql_138, qt_139, ql_139, qt_140, ql_140, qt_141, ql_141, qt_142, ql_142, qt_143, ql_143, qt_144, ql_144, qt_145, ql_145, qt_146, ql_146, qt_147, ql_147, qt_148, ql_148, qt_149, ql_149, qt_150, ql_150, qt_151, ql_151, qt_152, ql_152, qt_153, ql_153, qt_154, ql_154, qt_155, ql_155, qt_156, ql_156, qt_157, ql_157, qt_158, ql_158, qt_159, ql_159, qt_160, ql_160, qt_161, ql_161, qt_162, ql_162, qt_163, ql_163, qt_164, ql_164, qt_165, ql_165, qt_166, ql_166, qt_167, ql_167, qt_168, ql_168, qt_169, ql_169, qt_170, ql_170, qt_171, ql_171, qt_172, ql_172, qt_173, ql_173, qt_174, ql_174, qt_175, ql_175, qt_176, ql_176, qt_177, ql_177, qt_178, ql_178, qt_179, ql_179, qt_180, ql_180, qt_181, ql_181, qt_182, ql_182, qt_183, ql_183, qt_184, ql_184, qt_185, ql_185, qt_186, ql_186, qt_187, ql_187, qt_188, ql_188, g2, R, h', Int.reduceLE, Int.reduceLT]
    obtain ⟨σ1, hs1⟩ : ∃ σ1, σ1 = q_up (q_up (q_up (q_up (q_up (q_up σ 136 0 0) 138 0 x0) 138 1 x1) 138 2 x2) 138 3 x3) 138 4 x4 := ⟨_, rfl⟩
    rw [← hs1]
    have lo : ∀ a i, ¬ a = 138 → ¬ (a = 136 ∧ i = 0) → σ1 a i = σ a i := fun a i h1 h2 => by rw [hs1, q_up_ne _ _ _ _ h1, q_up_ne _ _ _ _ h1, q_up_ne _ _ _ _ h1, q_up_ne _ _ _ _ h1, q_up_ne _ _ _ _ h1, u0_ne a i h2]
    have h00 : σ1 136 0 = 0 := by rw [hs1, q_up_ne _ _ _ _ (by decide), q_up_ne _ _ _ _ (by decide), q_up_ne _ _ _ _ (by decide), q_up_ne _ _ _ _ (by decide), q_up_ne _ _ _ _ (by decide), q_up_eq]
    have h138 : ∀ j, 0 ≤ j → j < 5 → σ1 138 j = five x0 x1 x2 x3 x4 j := by
      intro j j0 j5
      rw [hs1]
      unfold five
      rcases (show j = 0 ∨ j = 1 ∨ j = 2 ∨ j = 3 ∨ j = 4 by omega) with rfl | rfl | rfl | rfl | rfl <;> simp [q_up_app]
    refine s150_l (f := f) (σ0 := σ1) ⟨n0, h⟩ (by rw [lo 136 2 (by decide) (by decide)]; exact h2) h138 (fun σ2 v1 v2 => ?_) 20 0 σ1 (by decide) (by decide) (fun i i0 i1 => absurd i1 (by omega)) (fun _ _ _ => rfl)
    have w2 : σ2 136 2 = n := by rw [v2 136 2 (by omega), lo 136 2 (by decide) (by decide)]; exact h2
    simp only [k150_106, k150_107, k150_108, k150_111, k150_113, k150_114, k150_117, k150_118, k150_121, w2, R, q_up_eq, q_up_ne, q_up_ne2, q_upf_ne, q_upf_eq, not_false_eq_true, true_implies, false_implies, not_true_eq_false, not_false_eq_true, true_and, and_true, implies_true, or_true, true_or, or_false, false_or, Int.reduceEq, Int.one_ne_zero, Nat.reduceEqDiff]
    have lo2 : ∀ a i, ¬ a = 138 → ¬ a = 137 → ¬ (a = 136 ∧ (i = 0 ∨ i = 2)) → q_up σ2 136 2 (n + 20) a i = σ a i := fun a i h1 h2 h3 => by rw [q_up_app, if_neg (by omega), v2 a i (by omega), lo a i h1 (by omega)]
    refine kk _ (RI_gen hI (fun a i ha => lo2 a i (by omega) (by omega) (by omega)) ⟨q_up_eq _ _ _ _, by omega, h, ?_, ?_⟩ ?_ (fun d d0 d1 => ?_)) ?_ (fun a i ha => lo2 a i (by omega) (by omega) (by omega))
    · intro i i0 i1
      rw [q_up_ne _ _ _ _ (by decide)]
      by_cases hi : i < n
      · rw [v2 137 i (by omega), lo 137 i (by decide) (by omega)]
        unfold fedF
        rw [if_pos hi]
        exact hA i i0 hi
      · have := v1 (i - n) (by omega) (by omega)
        rw [show n + (i - n) = i by omega] at this
        exact this
    · intro i i0 i1
      unfold fedF
      by_cases hi : i < n
      · rw [if_pos hi]; exact hB i i0 hi
      · rw [if_neg hi]
        exact (b_CR (by omega)).2
    · rw [lo2 136 52 (by decide) (by decide) (by decide)]; exact hI.2.2.2.2.1
    · rw [lo2 182 d (by decide) (by decide) (by omega), lo2 181 d (by decide) (by decide) (by omega)]; exact hI.2.2.2.2.2 d d0 d1
    · rw [q_up_ne2 _ _ _ (by decide), v2 136 0 (by omega)]; exact h00
  · rw [if_neg h, if_neg h, if_neg h] at kk
    have h' : 400 < n + 20 := by omega
    simp only [k150_0, k150_1, k150_2, k150_5, k150_6, k150_9, k150_11, k150_12, k150_15, k150_18, k150_19, true_implies, false_implies, not_true_eq_false, not_false_eq_true, true_and, and_true, implies_true, or_true, true_or, or_false, false_or, Int.reduceEq, Int.one_ne_zero, Nat.reduceEqDiff, g2, R, h']
    exact RPO_q hI kk u0_ne (q_up_eq _ _ _ _)
end RPD
