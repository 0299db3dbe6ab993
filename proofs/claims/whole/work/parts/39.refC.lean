/-! statements without a block, in the reference -/
section RC0
variable {S : St} {op a b x how s fr too i t : Int} {c : Nat}
theorem F_lay_ne (h1 : ¬ c = 136) (h2 : ¬ c = 168) (h3 : ¬ c = 169) (h4 : ¬ c = 170) : F_lay S op a b c i = S c i := by
  simp only [F_lay, q_up_ne _ _ _ _ h1, q_up_ne _ _ _ _ h2, q_up_ne _ _ _ _ h3, q_up_ne _ _ _ _ h4]
theorem F_lay_f (h : ¬ i = 18) : F_lay S op a b 136 i = S 136 i := by
  simp only [F_lay, q_up_ne2 _ _ _ h, q_up_ne, not_false_eq_true, Nat.reduceEqDiff]
theorem F_lay_18 : F_lay S op a b 136 18 = S 136 18 + 1 := by simp only [F_lay, q_up_eq]
theorem F_mk_ne (h1 : ¬ c = 136) (h2 : ¬ c = 147) (h3 : ¬ c = 148) (h4 : ¬ c = 149) (h5 : ¬ c = 150) (h6 : ¬ c = 151) (h7 : ¬ c = 152) (h8 : ¬ c = 153) (h9 : ¬ c = 154) (h10 : ¬ c = 171) : F_mk S x how s fr too c i = S c i := by
  simp only [F_mk, q_up_app]
  grind
theorem F_mk_f (h : ¬ i = 15) : F_mk S x how s fr too 136 i = S 136 i := by
  simp only [F_mk, q_up_app]
  grind
theorem F_mk_15 : F_mk S x how s fr too 136 15 = S 136 15 + 1 := by
  simp only [F_mk, q_up_app]
  grind
theorem F_mk_171 : F_mk S x how s fr too 171 i = if i = x then S 136 15 else S 171 i := by
  simp only [F_mk, q_up_app]
  grind
end RC0
section RC
variable {sc : Nat × (Nat → Int32)} {D : Nat} {bb : Bool} {S r : St} {Q : QP} {p b ft dp s : Int} {α : Type} {x : PX α} {pl : Int → Int}
theorem m_200 (hr : RH r) (hpl : PL r pl) (hx : RA r x p ft) (hs : 0 ≤ s ∧ s < 40) (hk : 0 ≤ S 136 16 ∧ S 136 16 < 40) (hv : 0 ≤ S 136 15 ∧ S 136 15 < 700) (hc : 0 ≤ S 136 18 ∧ S 136 18 + 2 ≤ 3000)
    (kk : ∀ S' v p' b' ft', RA r (p_b x (fun _ q => p_el (r 139) (r 136 6) pl q)) p' ft' → (∀ e q, p_b x (fun _ q => p_el (r 139) (r 136 6) pl q) = .inr (e, q) → S' = F_chk S s e.1 e.2 ∧ v = S 136 16 ∧ 0 ≤ e.2 ∧ e.2 ≤ 7) → (∀ q, p_b x (fun _ q => p_el (r 139) (r 136 6) pl q) = .inl q → S' = S ∧ v = 0) → Q (.inl (some (vi v))) bb (RP S' r p' b' ft' dp)) : qx sc (D + 5) 200 0 [vr 136, vi s, vn, vn, vn, vn, vn] [] (0, 0) bb (RP S r p b ft dp) Q := by
  simp only [k200_0, k200_1]
  refine m_206 hr hpl hx (fun v1 p1 b1 ft1 h1 e1 u1 u2 => ?_)
  simp only [q_kn_v, k200_4, k200_5, k200_6, k200_8]
  refine m_127 hr h1 (by decide) (by decide) (by decide) (by decide) (fun p2 b2 ft2 h2 => ?_)
  simp only [q_kn_n, k200_11, k200_12]
  refine m_228 hr h2 (fun v3 p3 b3 ft3 h3 e3 u3 u4 => ?_)
  simp only [q_kn_v, k200_15, k200_16, k200_17, k200_19]
  refine m_127 hr h3 (by decide) (by decide) (by decide) (by decide) (fun p4 b4 ft4 h4 => ?_)
  simp only [q_kn_n, k200_22, k200_23, RP_16, k200_26, k200_28, k200_29]
  -- what was read
  have hel : (∃ q, p_b x (fun _ q => p_el (r 139) (r 136 6) pl q) = .inl q ∧ ft4 = q ∧ 0 ≤ q ∧ 0 ≤ p4) ∨ (∃ q, p_b x (fun _ q => p_el (r 139) (r 136 6) pl q) = .inr ((v1, v3), q) ∧ ft4 = -1 ∧ sk (r 139) (r 136 6) p4 = q ∧ 0 ≤ p4) := by
    rcases x with q | ⟨a, q⟩
    · left; exact ⟨q, rfl, h4.2.1, h4.2.2, h4.1⟩
    · simp only [p_b_inr] at e1 e3 h4 ⊢
      unfold p_el
      cases g1 : p_ro (r 139) (r 136 6) pl q with
      | inl q1 => rw [g1] at h4; left; exact ⟨q1, rfl, h4.2.1, h4.2.2, h4.1⟩
      | inr w1 =>
        obtain ⟨w1, q1⟩ := w1
        have := e1 w1 q1 g1
        subst this
        rw [g1] at h4 e3
        simp only [p_b_inr] at h4 e3 ⊢
        cases g2 : p_sg (r 139) (r 136 6) 91 q1 with
        | inl q2 => rw [g2] at h4; left; exact ⟨q2, rfl, h4.2.1, h4.2.2, h4.1⟩
        | inr w2 =>
          obtain ⟨w2, q2⟩ := w2
          rw [g2] at h4 e3
          simp only [p_b_inr] at h4 e3 ⊢
          cases g3 : p_va (r 139) (r 136 6) q2 with
          | inl q3 => rw [g3] at h4; left; exact ⟨q3, rfl, h4.2.1, h4.2.2, h4.1⟩
          | inr w3 =>
            obtain ⟨w3, q3⟩ := w3
            have := e3 w3 q3 g3
            subst this
            rw [g3] at h4
            simp only [p_b_inr] at h4 ⊢
            cases g4 : p_sg (r 139) (r 136 6) 93 q3 with
            | inl q4 => rw [g4] at h4; left; exact ⟨q4, rfl, h4.2.1, h4.2.2, h4.1⟩
            | inr w4 =>
              obtain ⟨w4, q4⟩ := w4
              rw [g4] at h4
              right
              exact ⟨q4, rfl, h4.2.1, h4.2.2, h4.1⟩
  refine m_154 h4 (fun q eq1 eq2 => ?_) (fun a q eq1 eq2 => ?_)
  · simp only [q_kn_v, k200_32, k200_35, k200_36, true_implies, false_implies, not_true_eq_false, not_false_eq_true, true_and, and_true, implies_true, or_true, true_or, or_false, false_or, Int.reduceEq, Int.one_ne_zero, Nat.reduceEqDiff]
    rcases hel with ⟨q1, g1, g2, g3, g4⟩ | ⟨q1, g1, g2, g3⟩
    · exact kk S 0 _ _ _ (by rw [g1]; exact ⟨g4, g2, g3⟩) (fun e q he => by rw [g1] at he; cases he) (fun q he => ⟨rfl, rfl⟩)
    · have := h4.2; rw [eq1] at this; simp only at this; omega
  · rcases hel with ⟨q1, g1, g2, g3, g4⟩ | ⟨q1, g1, g2, g3, g4⟩
    · omega
    · simp only [q_kn_v, k200_1, k200_4, k200_5, k200_6, k200_8, k200_11, k200_12, k200_15, k200_16, k200_17, k200_19, k200_22, k200_23, k200_26, k200_28, k200_29, k200_32, k200_35, k200_36, k200_37, k200_38, k200_41, k200_43, k200_44, k200_45, k200_46, k200_49, k200_51, k200_52, k200_53, k200_54, k200_57, k200_59, k200_60, k200_63, k200_64, k200_65, k200_66, k200_67, k200_70, k200_72, k200_73, k200_76, k200_77, k200_78, k200_81, k200_83, k200_84, k200_85, k200_86, k200_87, k200_88, k200_91, k200_92, k200_93, k200_94, k200_97, k200_98, k200_99, k200_102, k200_103, k200_105, k200_106, k200_107, k200_108, k200_111, k200_112, k200_113, k200_116, k200_117, k200_118, k200_120, k200_121, k200_124, k200_126, k200_127, k200_129, k200_130, k200_133, k200_135, k200_136, k200_137, k200_140, k200_142, k200_144, RP_p, RP_b, RP_ft, RP_dp, RP_n, RP_told, RP_src, RP_least, RP_14, RP_15, RP_16, RP_17, RP_18, RP_49, RP_51, RP_c142, RP_u142, RP_c143, RP_u143, RP_c144, RP_u144, RP_c145, RP_u145, RP_c146, RP_u146, RP_c147, RP_u147, RP_c148, RP_u148, RP_c149, RP_u149, RP_c150, RP_u150, RP_c151, RP_u151, RP_c152, RP_u152, RP_c153, RP_u153, RP_c154, RP_u154, RP_c155, RP_u155, RP_c156, RP_u156, RP_c157, RP_u157, RP_c158, RP_u158, RP_c159, RP_u159, RP_c160, RP_u160, RP_c161, RP_u161, RP_c162, RP_u162, RP_c163, RP_u163, RP_c164, RP_u164, RP_c165, RP_u165, RP_c166, RP_u166, RP_c167, RP_u167, RP_c168, RP_u168, RP_c169, RP_u169, RP_c170, RP_u170, RP_c171, RP_u171, RP_c172, RP_u172, RP_upp, RP_upb, RP_upft, RP_updp, RP_uptold, RP_upleast, RP_up14, RP_up15, RP_up16, RP_up17, RP_up18, RP_up49, RP_up51, q_up_eq, q_up_ne, q_up_ne2, q_upf_ne, q_upf_eq, not_false_eq_true, qt_155, ql_155, qt_156, ql_156, qt_157, ql_157, qt_158, ql_158, qt_159, ql_159, qt_144, ql_144, qt_171, ql_171, true_implies, false_implies, not_true_eq_false, not_false_eq_true, true_and, and_true, implies_true, or_true, true_or, or_false, false_or, Int.reduceEq, Int.one_ne_zero, Nat.reduceEqDiff]
      repeat refine And.intro (by omega) ?_
      rw [c180 (by simp only [q_up_eq, q_up_ne, q_up_ne2, q_upf_ne, q_upf_eq, not_false_eq_true, Nat.reduceEqDiff]; exact hv.1) (by simp only [q_up_eq, q_up_ne, q_up_ne2, q_upf_ne, q_upf_eq, not_false_eq_true, Nat.reduceEqDiff]; exact hv.2) u3 (by omega)]
      simp only [q_kn_v, k200_1, k200_4, k200_5, k200_6, k200_8, k200_11, k200_12, k200_15, k200_16, k200_17, k200_19, k200_22, k200_23, k200_26, k200_28, k200_29, k200_32, k200_35, k200_36, k200_37, k200_38, k200_41, k200_43, k200_44, k200_45, k200_46, k200_49, k200_51, k200_52, k200_53, k200_54, k200_57, k200_59, k200_60, k200_63, k200_64, k200_65, k200_66, k200_67, k200_70, k200_72, k200_73, k200_76, k200_77, k200_78, k200_81, k200_83, k200_84, k200_85, k200_86, k200_87, k200_88, k200_91, k200_92, k200_93, k200_94, k200_97, k200_98, k200_99, k200_102, k200_103, k200_105, k200_106, k200_107, k200_108, k200_111, k200_112, k200_113, k200_116, k200_117, k200_118, k200_120, k200_121, k200_124, k200_126, k200_127, k200_129, k200_130, k200_133, k200_135, k200_136, k200_137, k200_140, k200_142, k200_144, RP_p, RP_b, RP_ft, RP_dp, RP_n, RP_told, RP_src, RP_least, RP_14, RP_15, RP_16, RP_17, RP_18, RP_49, RP_51, RP_c142, RP_u142, RP_c143, RP_u143, RP_c144, RP_u144, RP_c145, RP_u145, RP_c146, RP_u146, RP_c147, RP_u147, RP_c148, RP_u148, RP_c149, RP_u149, RP_c150, RP_u150, RP_c151, RP_u151, RP_c152, RP_u152, RP_c153, RP_u153, RP_c154, RP_u154, RP_c155, RP_u155, RP_c156, RP_u156, RP_c157, RP_u157, RP_c158, RP_u158, RP_c159, RP_u159, RP_c160, RP_u160, RP_c161, RP_u161, RP_c162, RP_u162, RP_c163, RP_u163, RP_c164, RP_u164, RP_c165, RP_u165, RP_c166, RP_u166, RP_c167, RP_u167, RP_c168, RP_u168, RP_c169, RP_u169, RP_c170, RP_u170, RP_c171, RP_u171, RP_c172, RP_u172, RP_upp, RP_upb, RP_upft, RP_updp, RP_uptold, RP_upleast, RP_up14, RP_up15, RP_up16, RP_up17, RP_up18, RP_up49, RP_up51, F_lay_ne, F_lay_f, F_lay_18, F_mk_ne, F_mk_f, F_mk_15, q_up_eq, q_up_ne, q_up_ne2, q_upf_ne, q_upf_eq, not_false_eq_true, Nat.reduceEqDiff, Int.reduceEq, qt_155, ql_155, qt_156, ql_156, qt_157, ql_157, qt_158, ql_158, qt_159, ql_159, qt_144, ql_144, qt_171, ql_171, true_implies, false_implies, not_true_eq_false, not_false_eq_true, true_and, and_true, implies_true, or_true, true_or, or_false, false_or, Int.reduceEq, Int.one_ne_zero, Nat.reduceEqDiff]
      repeat refine And.intro (by omega) ?_
      rw [c172 (by simp only [F_lay_ne, F_lay_f, F_lay_18, F_mk_ne, F_mk_f, F_mk_15, q_up_eq, q_up_ne, q_up_ne2, q_upf_ne, q_upf_eq, not_false_eq_true, Nat.reduceEqDiff, Int.reduceEq]; omega) (by simp only [F_lay_ne, F_lay_f, F_lay_18, F_mk_ne, F_mk_f, F_mk_15, q_up_eq, q_up_ne, q_up_ne2, q_upf_ne, q_upf_eq, not_false_eq_true, Nat.reduceEqDiff, Int.reduceEq]; omega)]
      simp only [q_kn_v, k200_1, k200_4, k200_5, k200_6, k200_8, k200_11, k200_12, k200_15, k200_16, k200_17, k200_19, k200_22, k200_23, k200_26, k200_28, k200_29, k200_32, k200_35, k200_36, k200_37, k200_38, k200_41, k200_43, k200_44, k200_45, k200_46, k200_49, k200_51, k200_52, k200_53, k200_54, k200_57, k200_59, k200_60, k200_63, k200_64, k200_65, k200_66, k200_67, k200_70, k200_72, k200_73, k200_76, k200_77, k200_78, k200_81, k200_83, k200_84, k200_85, k200_86, k200_87, k200_88, k200_91, k200_92, k200_93, k200_94, k200_97, k200_98, k200_99, k200_102, k200_103, k200_105, k200_106, k200_107, k200_108, k200_111, k200_112, k200_113, k200_116, k200_117, k200_118, k200_120, k200_121, k200_124, k200_126, k200_127, k200_129, k200_130, k200_133, k200_135, k200_136, k200_137, k200_140, k200_142, k200_144, RP_p, RP_b, RP_ft, RP_dp, RP_n, RP_told, RP_src, RP_least, RP_14, RP_15, RP_16, RP_17, RP_18, RP_49, RP_51, RP_c142, RP_u142, RP_c143, RP_u143, RP_c144, RP_u144, RP_c145, RP_u145, RP_c146, RP_u146, RP_c147, RP_u147, RP_c148, RP_u148, RP_c149, RP_u149, RP_c150, RP_u150, RP_c151, RP_u151, RP_c152, RP_u152, RP_c153, RP_u153, RP_c154, RP_u154, RP_c155, RP_u155, RP_c156, RP_u156, RP_c157, RP_u157, RP_c158, RP_u158, RP_c159, RP_u159, RP_c160, RP_u160, RP_c161, RP_u161, RP_c162, RP_u162, RP_c163, RP_u163, RP_c164, RP_u164, RP_c165, RP_u165, RP_c166, RP_u166, RP_c167, RP_u167, RP_c168, RP_u168, RP_c169, RP_u169, RP_c170, RP_u170, RP_c171, RP_u171, RP_c172, RP_u172, RP_upp, RP_upb, RP_upft, RP_updp, RP_uptold, RP_upleast, RP_up14, RP_up15, RP_up16, RP_up17, RP_up18, RP_up49, RP_up51, F_lay_ne, F_lay_f, F_lay_18, F_mk_ne, F_mk_f, F_mk_15, q_up_eq, q_up_ne, q_up_ne2, q_upf_ne, q_upf_eq, not_false_eq_true, Nat.reduceEqDiff, Int.reduceEq, qt_158, ql_158, true_implies, false_implies, not_true_eq_false, not_false_eq_true, true_and, and_true, implies_true, or_true, true_or, or_false, false_or, Int.reduceEq, Int.one_ne_zero, Nat.reduceEqDiff]
      repeat refine And.intro (by omega) ?_
      rw [c172 (by simp only [F_lay_ne, F_lay_f, F_lay_18, F_mk_ne, F_mk_f, F_mk_15, q_up_eq, q_up_ne, q_up_ne2, q_upf_ne, q_upf_eq, not_false_eq_true, Nat.reduceEqDiff, Int.reduceEq]; omega) (by simp only [F_lay_ne, F_lay_f, F_lay_18, F_mk_ne, F_mk_f, F_mk_15, q_up_eq, q_up_ne, q_up_ne2, q_upf_ne, q_upf_eq, not_false_eq_true, Nat.reduceEqDiff, Int.reduceEq]; omega)]
      simp only [q_kn_v, k200_1, k200_4, k200_5, k200_6, k200_8, k200_11, k200_12, k200_15, k200_16, k200_17, k200_19, k200_22, k200_23, k200_26, k200_28, k200_29, k200_32, k200_35, k200_36, k200_37, k200_38, k200_41, k200_43, k200_44, k200_45, k200_46, k200_49, k200_51, k200_52, k200_53, k200_54, k200_57, k200_59, k200_60, k200_63, k200_64, k200_65, k200_66, k200_67, k200_70, k200_72, k200_73, k200_76, k200_77, k200_78, k200_81, k200_83, k200_84, k200_85, k200_86, k200_87, k200_88, k200_91, k200_92, k200_93, k200_94, k200_97, k200_98, k200_99, k200_102, k200_103, k200_105, k200_106, k200_107, k200_108, k200_111, k200_112, k200_113, k200_116, k200_117, k200_118, k200_120, k200_121, k200_124, k200_126, k200_127, k200_129, k200_130, k200_133, k200_135, k200_136, k200_137, k200_140, k200_142, k200_144, true_implies, false_implies, not_true_eq_false, not_false_eq_true, true_and, and_true, implies_true, or_true, true_or, or_false, false_or, Int.reduceEq, Int.one_ne_zero, Nat.reduceEqDiff]
      refine kk _ _ _ _ _ (by rw [g1]; exact ⟨g4, g2, g3⟩) (fun e q he => ?_) (fun q he => by rw [g1] at he; cases he)
      rw [g1] at he
      cases he
      refine ⟨?_, rfl, u3, u4⟩
      simp only [F_chk, F_lay_ne, F_lay_f, F_lay_18, F_mk_ne, F_mk_f, F_mk_15, q_up_eq, q_up_ne, q_up_ne2, q_upf_ne, q_upf_eq, not_false_eq_true, Nat.reduceEqDiff, Int.reduceEq]
end RC
