/-! the reference runs -/
section RPF2
variable {sc : Nat × (Nat → Int32)} {D : Nat} {bb : Bool} {Q : QP} {σ σ0 σ' ρ : St} {m : Int} {L : List (ST 5)} {pl f inp len g F : Int → Int} {n ft a b x y k w v l s ab lo hi e how i : Int} {O : OC}
theorem RI_IOK (hI : RI σ L pl n f ft inp len) : IOK inp len := fun d d0 d1 => (hI.2.2.2.2.2 d d0 d1).2
/-- runs -/
theorem s209 (hI : RI σ L pl n f ft inp len) (hh : 0 ≤ how ∧ how < 3) (hR : RNS L pl inp len how ρ) (kk : ∀ σ', RLT σ' ρ pl (nV L) how → RI σ' L pl n f ft inp len → (∀ a i, a < 136 ∨ a = 188 → σ' a i = σ a i) → σ' 136 0 = σ 136 0 → σ' 136 70 = ρ 87 0 → Q (.inl none) bb σ') : qx sc (D + 5) 209 0 [vr 136, vi how, vn] [] (0, 0) bb σ Q := by
  obtain ⟨r, r0, c, hN, h23, rfl⟩ := hR
  have h6 := hI.2.2.2.2.2
  refine m209 (r := r) (c := c) hI.1 ⟨hI.2.1.1, hI.2.1.2.2.1, hI.2.1.2.2.2.1⟩ (by omega) (fun d d0 d1 => by rw [(h23 d d0 d1).2]; exact (h6 d d0 d1).2.2) (fun d d0 d1 => by rw [(h23 d d0 d1).1]; exact (h6 d d0 d1).2.1) hN (fun d d0 d1 => by rw [(h23 d d0 d1).2]; exact (h6 d d0 d1).1.2) (fun d d0 d1 => by rw [(h23 d d0 d1).1]; exact (h6 d d0 d1).1.1) (fun ρ' u1 u2 u3 => ?_)
  exact kk ρ' u1 (RI_of hI (fun a i ha => u2 a i (by unfold RIX at ha; omega) (by unfold RIX at ha; omega))) (fun a i ha => u2 a i (by omega) (by omega)) (u2 136 0 (by decide) (by decide)) u3
/-- run -/
theorem s208 (hI : RI σ L pl n f ft inp len) (hR : (0 ≤ how ∧ how < 3) ∧ 0 ≤ w ∧ w < 7 → RNS L pl inp len how ρ) (kk : RPO Q bb σ (o_run how w ρ) L pl n f ft inp len) : qx sc (D + 40) 208 0 [vr 136, vi how, vi w] [] (0, 0) bb σ Q := by
  have hI0 := RI_of (σ' := q_up σ 136 0 0) hI (fun a i ha => u0_ne a i (by unfold RIX at ha; omega))
  unfold o_run at kk
  simp only [k208_0, k208_1, k208_2, k208_5, k208_6, k208_7]
  by_cases hh : 0 ≤ how ∧ how < 3
  · rw [if_pos hh] at kk
    simp only [e185_y hh, q_kn_v, k208_10, k208_13, k208_14, k208_15, k208_16, k208_18, true_implies, false_implies, not_true_eq_false, not_false_eq_true, true_and, and_true, implies_true, or_true, true_or, or_false, false_or, Int.reduceEq, Int.one_ne_zero, Nat.reduceEqDiff]
    by_cases hw : 0 ≤ w ∧ w < 7
    · rw [if_pos hw] at kk
      have hw' : 0 ≤ w ∧ w ≤ 6 := by omega
      simp only [e157_y hw', q_kn_v, k208_21, k208_24, k208_25, k208_28, k208_29, k208_30, true_implies, false_implies, not_true_eq_false, not_false_eq_true, true_and, and_true, implies_true, or_true, true_or, or_false, false_or, Int.reduceEq, Int.one_ne_zero, Nat.reduceEqDiff, e224_0, k208_33, k208_38, k208_39, k208_40]
      refine s209 (D := D + 34) hI0 hh (hR ⟨hh, hw⟩) (fun σ1 u1 u2 u3 u4 u5 => ?_)
      have kq := kk σ1 u2 (by rw [u4, q_up_eq]; rfl) (fun a i ha => by rw [u3 a i ha, u0_ne a i (by omega)])
      obtain ⟨-, -, -, -, -, ⟨e71, e72, e73, e74, e75, e76⟩, -⟩ := u1
      simp only [q_kn_n, k208_43, k208_44]
      rcases (show w = 0 ∨ w = 1 ∨ w = 2 ∨ w = 3 ∨ w = 4 ∨ w = 5 ∨ w = 6 by omega) with rfl | rfl | rfl | rfl | rfl | rfl | rfl
      · simp only [Int.reduceLT, or_self, or_true, true_or, ↓reduceIte, Int.reduceSub, Int.reduceToNat, List.getD_cons_zero, List.getD_cons_succ, k208_84, k208_85, k208_88, u5]
        exact kq
      · simp only [Int.reduceLT, or_self, or_true, true_or, ↓reduceIte, Int.reduceSub, Int.reduceToNat, List.getD_cons_zero, List.getD_cons_succ, k208_89, k208_90, k208_93, e71]
        exact kq
      · simp only [Int.reduceLT, or_self, or_true, true_or, ↓reduceIte, Int.reduceSub, Int.reduceToNat, List.getD_cons_zero, List.getD_cons_succ, k208_94, k208_95, k208_98, e72]
        exact kq
      · simp only [Int.reduceLT, or_self, or_true, true_or, ↓reduceIte, Int.reduceSub, Int.reduceToNat, List.getD_cons_zero, List.getD_cons_succ, k208_99, k208_100, k208_103, e73]
        exact kq
      · simp only [Int.reduceLT, or_self, or_true, true_or, ↓reduceIte, Int.reduceSub, Int.reduceToNat, List.getD_cons_zero, List.getD_cons_succ, k208_104, k208_105, k208_108, e74]
        exact kq
      · simp only [Int.reduceLT, or_self, or_true, true_or, ↓reduceIte, Int.reduceSub, Int.reduceToNat, List.getD_cons_zero, List.getD_cons_succ, k208_109, k208_110, k208_113, e75]
        exact kq
      · simp only [Int.reduceLT, or_self, or_true, true_or, ↓reduceIte, Int.reduceSub, Int.reduceToNat, List.getD_cons_zero, List.getD_cons_succ, k208_114, k208_115, k208_118, e76]
        exact kq
    · rw [if_neg hw] at kk
      have hw' : ¬ (0 ≤ w ∧ w ≤ 6) := by omega
      simp only [e157_n hw', q_kn_v, k208_21, k208_24, k208_25, k208_28, k208_29, k208_30, true_implies, false_implies, not_true_eq_false, not_false_eq_true, true_and, and_true, implies_true, or_true, true_or, or_false, false_or, Int.reduceEq, Int.one_ne_zero, Nat.reduceEqDiff, e224_1, k208_33, k208_36, k208_37]
      exact RPO_q hI kk u00_ne (q_up_eq _ _ _ _)
  · rw [if_neg hh] at kk
    simp only [e185_n hh, q_kn_v, k208_10, k208_36, k208_37, true_implies, false_implies, not_true_eq_false, not_false_eq_true, true_and, and_true, implies_true, or_true, true_or, or_false, false_or, Int.reduceEq, Int.one_ne_zero, Nat.reduceEqDiff]
    exact RPO_q hI kk u00_ne (q_up_eq _ _ _ _)
/-- out -/
theorem s197 (hI : RI σ L pl n f ft inp len) (hR : 0 ≤ how ∧ how < 3 → RNS L pl inp len how ρ) (kk : RPO Q bb σ (o_out how i ρ) L pl n f ft inp len) : qx sc (D + 40) 197 0 [vr 136, vi how, vi i] [] (0, 0) bb σ Q := by
  have hI0 := RI_of (σ' := q_up σ 136 0 0) hI (fun a i ha => u0_ne a i (by unfold RIX at ha; omega))
  unfold o_out at kk
  simp only [k197_0, k197_1, k197_2, k197_5, k197_6, k197_7]
  by_cases hh : 0 ≤ how ∧ how < 3
  · rw [if_pos hh] at kk
    simp only [e185_y hh, q_kn_v, k197_10, k197_15, k197_16, k197_17, true_implies, false_implies, not_true_eq_false, not_false_eq_true, true_and, and_true, implies_true, or_true, true_or, or_false, false_or, Int.reduceEq, Int.one_ne_zero, Nat.reduceEqDiff]
    refine s209 (D := D + 34) hI0 hh (hR hh) (fun σ1 u1 u2 u3 u4 u5 => ?_)
    have hb := (RNS_b hI.1.1 hI.1.2.1 (RI_IOK hI) (hR hh)).1
    obtain ⟨-, -, -, e186, -, ⟨e71, e72, e73, e74, e75, e76⟩, -⟩ := u1
    have R : q_R (ρ 87 3 - 1) = True := eq_true (by unfold q_R; omega)
    simp only [q_kn_n, k197_20, k197_21, k197_22, k197_23, k197_24, k197_27, k197_28, k197_29, true_implies, false_implies, not_true_eq_false, not_false_eq_true, true_and, and_true, implies_true, or_true, true_or, or_false, false_or, Int.reduceEq, Int.one_ne_zero, Nat.reduceEqDiff, e73, R]
    by_cases hi : 0 ≤ i ∧ i < ρ 87 3
    · rw [if_pos hi] at kk
      have hi' : 0 ≤ i ∧ i ≤ ρ 87 3 - 1 := by omega
      have i3 : i < 301 := by omega
      have e := e186 i hi.1 hi.2
      simp only [e157_y hi', q_kn_v, k197_32, k197_35, k197_36, k197_39, k197_40, k197_41, true_implies, false_implies, not_true_eq_false, not_false_eq_true, true_and, and_true, implies_true, or_true, true_or, or_false, false_or, Int.reduceEq, Int.one_ne_zero, Nat.reduceEqDiff, e224_0, k197_44, k197_47, k197_48, k197_51, k197_52, k197_55, k197_56, k197_57, qt_1, ql_1, qt_2, ql_2, qt_3, ql_3, qt_6, ql_6, qt_7, ql_7, qt_8, ql_8, qt_10, ql_10, qt_11, ql_11, qt_12, ql_12, qt_13, ql_13, qt_14, ql_14, qt_15, ql_15, qt_16, ql_16, qt_17, ql_17, qt_18, ql_18, qt_19, ql_19, qt_20, ql_20, qt_21, ql_21, qt_22, ql_22, qt_23, ql_23, qt_24, ql_24, qt_25, ql_25, qt_26, ql_26, qt_28, ql_28, qt_29, ql_29, qt_30, ql_30, qt_31, ql_31, qt_32, ql_32, qt_33, ql_33, qt_34, ql_34, qt_35, ql_35, qt_36, ql_36, qt_37, ql_37, qt_38, ql_38, qt_40, ql_40, qt_41, ql_41, qt_42, ql_42, qt_43, ql_43, qt_44, ql_44, qt_45, ql_45, qt_46, ql_46, qt_47, ql_47, qt_48, ql_48, qt_49, ql_49, qt_50, ql_50, qt_51, ql_51, qt_52, ql_52, qt_53, ql_53, qt_54, ql_54, qt_56, ql_56, qt_57, ql_57, qt_58, ql_58, qt_59, ql_59, qt_60, ql_60, qt_61, ql_61, qt_62, ql_62, qt_63, ql_63, qt_64, ql_64, qt_65, ql_65, qt_67, ql_67, qt_68, ql_68, qt_69, ql_69, qt_70, ql_70, qt_71, ql_71, qt_73, ql_73, qt_74, ql_74, qt_75, ql_75, qt_76, ql_76, qt_78, ql_78, qt_79, ql_79, qt_80, ql_80, qt_81, ql_81, qt_82, ql_82, qt_83, ql_83, qt_84, ql_84, qt_85, ql_85, qt_86, ql_86, qt_87, ql_87, qt_89, ql_89, qt_90, ql_90, qt_91, ql_91, qt_92, ql_92, qt_93, ql_93, qt_94, ql_94, qt_95, ql_95, qt_96, ql_96, qt_97, ql_97, qt_98, ql_98, qt_99, ql_99, qt_100, ql_100, qt_101, ql_101, qt_102, ql_102, qt_103, ql_103, qt_105, ql_105, qt_106, ql_106, qt_107, ql_107, qt_108, ql_108, qt_109, ql_109, qt_110, ql_110, qt_111, ql_111, qt_113, ql_113, qt_114, ql_114, qt_115, ql_115, qt_116, ql_116, qt_117, ql_117, qt_118, ql_118, qt_119, ql_119, qt_120, ql_120, qt_121, ql_121, qt_122, ql_122, qt_123, ql_123, qt_124, ql_124, qt_125, ql_125, qt_126, ql_126, qt_127, ql_127, qt_129, ql_129, qt_130, ql_130, qt_131, ql_131, qt_132, ql_132, qt_133, ql_133, qt_134, ql_134, qt_135, ql_135, qt_137, ql_137, qt_138, ql_138, qt_139, ql_139, qt_140, ql_140, qt_141, ql_141, qt_142, ql_142, qt_143, ql_143, qt_144, ql_144, qt_145, ql_145, qt_146, ql_146, qt_147, ql_147, qt_148, ql_148, qt_149, ql_149, qt_150, ql_150, qt_151, ql_151, qt_152, ql_152, qt_153, ql_153, qt_154, ql_154, qt_155, ql_155, qt_156, ql_156, qt_157, ql_157, qt_158, ql_158, qt_159, ql_159, qt_160, ql_160, qt_161, ql_161, qt_162, ql_162, qt_163, ql_163, qt_164, ql_164, qt_165, ql_165, qt_166, ql_166, qt_167, ql_167, qt_168, ql_168, qt_169, ql_169, qt_170, ql_170, qt_171, ql_171, qt_172, ql_172, qt_173, ql_173, qt_174, ql_174, qt_175, ql_175, qt_176, ql_176, qt_177, ql_177, qt_178, ql_178, qt_179, ql_179, qt_180, ql_180, qt_181, ql_181, qt_182, ql_182, qt_183, ql_183, qt_184, ql_184, qt_185, ql_185, qt_186, ql_186, qt_187, ql_187, qt_188, ql_188, hi.1, i3, e]
      exact kk σ1 u2 (by rw [u4, q_up_eq]; rfl) (fun a i ha => by rw [u3 a i ha, u0_ne a i (by omega)])
    · rw [if_neg hi] at kk
      have hi' : ¬ (0 ≤ i ∧ i ≤ ρ 87 3 - 1) := by omega
      simp only [e157_n hi', q_kn_v, k197_32, k197_35, k197_36, k197_39, k197_40, k197_41, true_implies, false_implies, not_true_eq_false, not_false_eq_true, true_and, and_true, implies_true, or_true, true_or, or_false, false_or, Int.reduceEq, Int.one_ne_zero, Nat.reduceEqDiff, e224_1, k197_44, k197_47, k197_48, k197_51, k197_52, k197_55, k197_56, k197_57]
      exact kk _ (RI_of u2 (fun a i ha => u0_ne a i (by unfold RIX at ha; omega))) (q_up_eq _ _ _ _) (fun a i ha => by rw [u0_ne a i (by omega), u3 a i ha, u0_ne a i (by omega)])
  · rw [if_neg hh] at kk
    simp only [e185_n hh, q_kn_v, k197_10, k197_13, k197_14, true_implies, false_implies, not_true_eq_false, not_false_eq_true, true_and, and_true, implies_true, or_true, true_or, or_false, false_or, Int.reduceEq, Int.one_ne_zero, Nat.reduceEqDiff]
    exact RPO_q hI kk u00_ne (q_up_eq _ _ _ _)
/-- place -/
theorem s201 (hI : RI σ L pl n f ft inp len) (hR : (0 ≤ b ∧ b < 3) ∧ 0 ≤ how ∧ how < 3 → RNS L pl inp len how ρ) (kk : RPO Q bb σ (o_pla pl how b i ρ) L pl n f ft inp len) : qx sc (D + 40) 201 0 [vr 136, vi how, vi b, vi i] [] (0, 0) bb σ Q := by
  have hI0 := RI_of (σ' := q_up σ 136 0 0) hI (fun a i ha => u0_ne a i (by unfold RIX at ha; omega))
  unfold o_pla at kk
  simp only [k201_0, k201_1, k201_2, k201_5, k201_6, k201_7]
  by_cases hbb : 0 ≤ b ∧ b < 3
  · rw [o_in_y hbb] at kk
    simp only [e186_y hbb, q_kn_v, k201_10, k201_13, k201_14, k201_15, k201_16, k201_17, true_implies, false_implies, not_true_eq_false, not_false_eq_true, true_and, and_true, implies_true, or_true, true_or, or_false, false_or, Int.reduceEq, Int.one_ne_zero, Nat.reduceEqDiff]
    by_cases hh : 0 ≤ how ∧ how < 3
    · rw [if_pos hh] at kk
      have hh' : 0 ≤ how ∧ how ≤ 2 := by omega
      simp only [e157_y hh', q_kn_v, k201_20, k201_23, k201_24, k201_27, k201_28, k201_29, true_implies, false_implies, not_true_eq_false, not_false_eq_true, true_and, and_true, implies_true, or_true, true_or, or_false, false_or, Int.reduceEq, Int.one_ne_zero, Nat.reduceEqDiff, e224_0, k201_32, k201_37, k201_38, k201_39]
      refine s209 (D := D + 34) hI0 hh (hR ⟨hbb, hh⟩) (fun σ1 u1 u2 u3 u4 u5 => ?_)
      obtain ⟨-, -, hb⟩ := RNS_b hI.1.1 hI.1.2.1 (RI_IOK hI) (hR ⟨hbb, hh⟩)
      have hb2 := hb b hbb.1 (by omega)
      have hX : RRX σ1 (GG L) pl (nV L) (nS L) (nK L) (nL L) (nD L) := ⟨u2.2.1.1, u2.2.1.2.2.1, u2.2.1.2.2.2.1⟩
      simp only [q_kn_n, k201_42, k201_43, k201_44, k201_45, k201_46, k201_47]
      refine m176 hX hbb.1 (by omega) ?_
      have bad : ∀ M : Int, (M = 0 ∨ (0 ≤ M ∧ M ≤ 40)) → ¬ (0 ≤ i ∧ i < M) → (¬ (¬ pl b = -1 ∧ 0 ≤ i ∧ i < ρ 85 b)) → qx sc (D + 40) 201 50 [vr 136, vi how, vi b, vi i] [vi M, vi 0, vi i, vr 136] (0, 0) bb σ1 Q := by
        intro M hM h1 h2
        rw [if_neg h2] at kk
        have h1' : ¬ (0 ≤ i ∧ i ≤ M - 1) := by omega
        have R : q_R (M - 1) = True := eq_true (by unfold q_R; omega)
        simp only [k201_50, k201_51, k201_52, R, true_implies, false_implies, not_true_eq_false, not_false_eq_true, true_and, and_true, implies_true, or_true, true_or, or_false, false_or, Int.reduceEq, Int.one_ne_zero, Nat.reduceEqDiff, e157_n h1', q_kn_v, k201_55, k201_58, k201_59, k201_62, k201_63, k201_64, e224_1, k201_67, k201_70, k201_71, k201_74, k201_75, k201_78, k201_80, k201_81, k201_82, k201_83, k201_84, k201_85]
        exact kk _ (RI_of u2 (fun a i ha => u0_ne a i (by unfold RIX at ha; omega))) (q_up_eq _ _ _ _) (fun a i ha => by rw [u0_ne a i (by omega), u3 a i ha, u0_ne a i (by omega)])
      rw [q_kn_v]
      by_cases h4 : pl b = -1
      · rw [if_pos h4]
        exact bad 0 (Or.inl rfl) (by omega) (by omega)
      · rw [if_neg h4, u1.2.2.2.2.2.2.2.1 b hbb.1 (by omega) h4]
        by_cases hi : 0 ≤ i ∧ i < ρ 85 b
        · rw [if_pos ⟨h4, hi.1, hi.2⟩] at kk
          have kq := kk σ1 u2 (by rw [u4, q_up_eq]; rfl) (fun a i ha => by rw [u3 a i ha, u0_ne a i (by omega)])
          have hi' : 0 ≤ i ∧ i ≤ ρ 85 b - 1 := by omega
          have R : q_R (ρ 85 b - 1) = True := eq_true (by unfold q_R; omega)
          have R2 : q_R (41 * b) = True := eq_true (by unfold q_R; omega)
          have R3 : q_R (41 * b + i) = True := eq_true (by unfold q_R; omega)
          have z0 : 0 ≤ 41 * b + i := by omega
          have z1 : 41 * b + i < 123 := by omega
          have e : σ1 184 (41 * b + i) = ρ (82 + b.toNat) i := by
            obtain ⟨p1, p2, p3⟩ := u1.2.1 i hi.1 (by omega)
            rcases (show b = 0 ∨ b = 1 ∨ b = 2 by omega) with rfl | rfl | rfl
            · rw [show (41 * 0 + i : Int) = i by omega]; exact p1
            · rw [show (41 * 1 + i : Int) = 41 + i by omega]; exact p2
            · rw [show (41 * 2 + i : Int) = 82 + i by omega]; exact p3
          simp only [k201_50, k201_51, k201_52, R, true_implies, false_implies, not_true_eq_false, not_false_eq_true, true_and, and_true, implies_true, or_true, true_or, or_false, false_or, Int.reduceEq, Int.one_ne_zero, Nat.reduceEqDiff, e157_y hi', q_kn_v, k201_55, k201_58, k201_59, k201_62, k201_63, k201_64, e224_0, k201_67, k201_70, k201_71, k201_74, k201_75, k201_78, k201_80, k201_81, k201_82, k201_83, k201_84, k201_85, qt_1, ql_1, qt_2, ql_2, qt_3, ql_3, qt_6, ql_6, qt_7, ql_7, qt_8, ql_8, qt_10, ql_10, qt_11, ql_11, qt_12, ql_12, qt_13, ql_13, qt_14, ql_14, qt_15, ql_15, qt_16, ql_16, qt_17, ql_17, qt_18, ql_18, qt_19, ql_19, qt_20, ql_20, qt_21, ql_21, qt_22, ql_22, qt_23, ql_23, qt_24, ql_24, qt_25, ql_25, qt_26, ql_26, qt_28, ql_28, qt_29, ql_29, qt_30, ql_30, qt_31, ql_31, qt_32, ql_32, qt_33, ql_33, qt_34, ql_34, qt_35, ql_35, qt_36, ql_36, qt_37, ql_37, qt_38, ql_38, qt_40, ql_40, qt_41, ql_41, qt_42, ql_42, qt_43, ql_43, qt_44, ql_44, qt_45, ql_45, qt_46, ql_46, qt_47, ql_47, qt_48, ql_48, qt_49, ql_49, qt_50, ql_50, qt_51, ql_51, qt_52, ql_52, qt_53, ql_53, qt_54, ql_54, qt_56, ql_56, qt_57, ql_57, qt_58, ql_58, qt_59, ql_59, qt_60, ql_60, qt_61, ql_61, qt_62, ql_62, qt_63, ql_63, qt_64, ql_64, qt_65, ql_65, qt_67, ql_67, qt_68, ql_68, qt_69, ql_69, qt_70, ql_70, qt_71, ql_71, qt_73, ql_73, qt_74, ql_74, qt_75, ql_75, qt_76, ql_76, qt_78, ql_78, qt_79, ql_79, qt_80, ql_80, qt_81, ql_81, qt_82, ql_82, qt_83, ql_83, qt_84, ql_84, qt_85, ql_85, qt_86, ql_86, qt_87, ql_87, qt_89, ql_89, qt_90, ql_90, qt_91, ql_91, qt_92, ql_92, qt_93, ql_93, qt_94, ql_94, qt_95, ql_95, qt_96, ql_96, qt_97, ql_97, qt_98, ql_98, qt_99, ql_99, qt_100, ql_100, qt_101, ql_101, qt_102, ql_102, qt_103, ql_103, qt_105, ql_105, qt_106, ql_106, qt_107, ql_107, qt_108, ql_108, qt_109, ql_109, qt_110, ql_110, qt_111, ql_111, qt_113, ql_113, qt_114, ql_114, qt_115, ql_115, qt_116, ql_116, qt_117, ql_117, qt_118, ql_118, qt_119, ql_119, qt_120, ql_120, qt_121, ql_121, qt_122, ql_122, qt_123, ql_123, qt_124, ql_124, qt_125, ql_125, qt_126, ql_126, qt_127, ql_127, qt_129, ql_129, qt_130, ql_130, qt_131, ql_131, qt_132, ql_132, qt_133, ql_133, qt_134, ql_134, qt_135, ql_135, qt_137, ql_137, qt_138, ql_138, qt_139, ql_139, qt_140, ql_140, qt_141, ql_141, qt_142, ql_142, qt_143, ql_143, qt_144, ql_144, qt_145, ql_145, qt_146, ql_146, qt_147, ql_147, qt_148, ql_148, qt_149, ql_149, qt_150, ql_150, qt_151, ql_151, qt_152, ql_152, qt_153, ql_153, qt_154, ql_154, qt_155, ql_155, qt_156, ql_156, qt_157, ql_157, qt_158, ql_158, qt_159, ql_159, qt_160, ql_160, qt_161, ql_161, qt_162, ql_162, qt_163, ql_163, qt_164, ql_164, qt_165, ql_165, qt_166, ql_166, qt_167, ql_167, qt_168, ql_168, qt_169, ql_169, qt_170, ql_170, qt_171, ql_171, qt_172, ql_172, qt_173, ql_173, qt_174, ql_174, qt_175, ql_175, qt_176, ql_176, qt_177, ql_177, qt_178, ql_178, qt_179, ql_179, qt_180, ql_180, qt_181, ql_181, qt_182, ql_182, qt_183, ql_183, qt_184, ql_184, qt_185, ql_185, qt_186, ql_186, qt_187, ql_187, qt_188, ql_188, R2, R3, z0, z1, e]
          exact kq
        · exact bad _ (Or.inr hb2.2) hi (by omega)
    · rw [if_neg hh] at kk
      have hh' : ¬ (0 ≤ how ∧ how ≤ 2) := by omega
      simp only [e157_n hh', q_kn_v, k201_20, k201_23, k201_24, k201_27, k201_28, k201_29, true_implies, false_implies, not_true_eq_false, not_false_eq_true, true_and, and_true, implies_true, or_true, true_or, or_false, false_or, Int.reduceEq, Int.one_ne_zero, Nat.reduceEqDiff, e224_1, k201_32, k201_35, k201_36]
      exact RPO_q hI kk u00_ne (q_up_eq _ _ _ _)
  · rw [o_in_n hbb] at kk
    simp only [e186_n hbb, q_kn_v, k201_10, k201_35, k201_36, true_implies, false_implies, not_true_eq_false, not_false_eq_true, true_and, and_true, implies_true, or_true, true_or, or_false, false_or, Int.reduceEq, Int.one_ne_zero, Nat.reduceEqDiff]
    exact RPO_q hI kk u00_ne (q_up_eq _ _ _ _)
/-- was -/
theorem s230 (hI : RI σ L pl n f ft inp len) (hR : (0 ≤ v ∧ v < nV L) ∧ 0 ≤ how ∧ how < 3 → RNS L pl inp len how ρ) (kk : RPO Q bb σ (o_was L how v ρ) L pl n f ft inp len) : qx sc (D + 40) 230 0 [vr 136, vi how, vi v] [] (0, 0) bb σ Q := by
  obtain ⟨⟨h13, h14, h15, h16, h17⟩, hp, hb, hk⟩ := RI_fs hI
  have hI0 := RI_of (σ' := q_up σ 136 0 0) hI (fun a i ha => u0_ne a i (by unfold RIX at ha; omega))
  have g15 : q_up σ 136 0 0 136 15 = nV L := by rw [u0_ne _ _ (by decide)]; exact h15
  unfold o_was at kk
  simp only [k230_0, k230_1, k230_2, k230_5, k230_6, k230_7]
  by_cases hv : 0 ≤ v ∧ v < nV L
  · rw [o_in_y hv] at kk
    have v700 : v < 700 := by omega
    simp only [e187_y g15 (by omega) hv, q_kn_v, k230_10, k230_13, k230_14, k230_15, k230_16, k230_17, true_implies, false_implies, not_true_eq_false, not_false_eq_true, true_and, and_true, implies_true, or_true, true_or, or_false, false_or, Int.reduceEq, Int.one_ne_zero, Nat.reduceEqDiff]
    by_cases hh : 0 ≤ how ∧ how < 3
    · rw [if_pos hh] at kk
      have hh' : 0 ≤ how ∧ how ≤ 2 := by omega
      simp only [e157_y hh', q_kn_v, k230_20, k230_23, k230_24, k230_27, k230_28, k230_29, true_implies, false_implies, not_true_eq_false, not_false_eq_true, true_and, and_true, implies_true, or_true, true_or, or_false, false_or, Int.reduceEq, Int.one_ne_zero, Nat.reduceEqDiff, e224_0, k230_32, k230_37, k230_38, k230_39]
      refine s209 (D := D + 34) hI0 hh (hR ⟨hv, hh⟩) (fun σ1 u1 u2 u3 u4 u5 => ?_)
      have e := u1.2.2.1 v hv.1 hv.2
      simp only [q_kn_n, k230_42, k230_43, k230_46, k230_47, k230_48, qt_1, ql_1, qt_2, ql_2, qt_3, ql_3, qt_6, ql_6, qt_7, ql_7, qt_8, ql_8, qt_10, ql_10, qt_11, ql_11, qt_12, ql_12, qt_13, ql_13, qt_14, ql_14, qt_15, ql_15, qt_16, ql_16, qt_17, ql_17, qt_18, ql_18, qt_19, ql_19, qt_20, ql_20, qt_21, ql_21, qt_22, ql_22, qt_23, ql_23, qt_24, ql_24, qt_25, ql_25, qt_26, ql_26, qt_28, ql_28, qt_29, ql_29, qt_30, ql_30, qt_31, ql_31, qt_32, ql_32, qt_33, ql_33, qt_34, ql_34, qt_35, ql_35, qt_36, ql_36, qt_37, ql_37, qt_38, ql_38, qt_40, ql_40, qt_41, ql_41, qt_42, ql_42, qt_43, ql_43, qt_44, ql_44, qt_45, ql_45, qt_46, ql_46, qt_47, ql_47, qt_48, ql_48, qt_49, ql_49, qt_50, ql_50, qt_51, ql_51, qt_52, ql_52, qt_53, ql_53, qt_54, ql_54, qt_56, ql_56, qt_57, ql_57, qt_58, ql_58, qt_59, ql_59, qt_60, ql_60, qt_61, ql_61, qt_62, ql_62, qt_63, ql_63, qt_64, ql_64, qt_65, ql_65, qt_67, ql_67, qt_68, ql_68, qt_69, ql_69, qt_70, ql_70, qt_71, ql_71, qt_73, ql_73, qt_74, ql_74, qt_75, ql_75, qt_76, ql_76, qt_78, ql_78, qt_79, ql_79, qt_80, ql_80, qt_81, ql_81, qt_82, ql_82, qt_83, ql_83, qt_84, ql_84, qt_85, ql_85, qt_86, ql_86, qt_87, ql_87, qt_89, ql_89, qt_90, ql_90, qt_91, ql_91, qt_92, ql_92, qt_93, ql_93, qt_94, ql_94, qt_95, ql_95, qt_96, ql_96, qt_97, ql_97, qt_98, ql_98, qt_99, ql_99, qt_100, ql_100, qt_101, ql_101, qt_102, ql_102, qt_103, ql_103, qt_105, ql_105, qt_106, ql_106, qt_107, ql_107, qt_108, ql_108, qt_109, ql_109, qt_110, ql_110, qt_111, ql_111, qt_113, ql_113, qt_114, ql_114, qt_115, ql_115, qt_116, ql_116, qt_117, ql_117, qt_118, ql_118, qt_119, ql_119, qt_120, ql_120, qt_121, ql_121, qt_122, ql_122, qt_123, ql_123, qt_124, ql_124, qt_125, ql_125, qt_126, ql_126, qt_127, ql_127, qt_129, ql_129, qt_130, ql_130, qt_131, ql_131, qt_132, ql_132, qt_133, ql_133, qt_134, ql_134, qt_135, ql_135, qt_137, ql_137, qt_138, ql_138, qt_139, ql_139, qt_140, ql_140, qt_141, ql_141, qt_142, ql_142, qt_143, ql_143, qt_144, ql_144, qt_145, ql_145, qt_146, ql_146, qt_147, ql_147, qt_148, ql_148, qt_149, ql_149, qt_150, ql_150, qt_151, ql_151, qt_152, ql_152, qt_153, ql_153, qt_154, ql_154, qt_155, ql_155, qt_156, ql_156, qt_157, ql_157, qt_158, ql_158, qt_159, ql_159, qt_160, ql_160, qt_161, ql_161, qt_162, ql_162, qt_163, ql_163, qt_164, ql_164, qt_165, ql_165, qt_166, ql_166, qt_167, ql_167, qt_168, ql_168, qt_169, ql_169, qt_170, ql_170, qt_171, ql_171, qt_172, ql_172, qt_173, ql_173, qt_174, ql_174, qt_175, ql_175, qt_176, ql_176, qt_177, ql_177, qt_178, ql_178, qt_179, ql_179, qt_180, ql_180, qt_181, ql_181, qt_182, ql_182, qt_183, ql_183, qt_184, ql_184, qt_185, ql_185, qt_186, ql_186, qt_187, ql_187, qt_188, ql_188, true_implies, false_implies, not_true_eq_false, not_false_eq_true, true_and, and_true, implies_true, or_true, true_or, or_false, false_or, Int.reduceEq, Int.one_ne_zero, Nat.reduceEqDiff, hv.1, v700, e]
      exact kk σ1 u2 (by rw [u4, q_up_eq]; rfl) (fun a i ha => by rw [u3 a i ha, u0_ne a i (by omega)])
    · rw [if_neg hh] at kk
      have hh' : ¬ (0 ≤ how ∧ how ≤ 2) := by omega
      simp only [e157_n hh', q_kn_v, k230_20, k230_23, k230_24, k230_27, k230_28, k230_29, true_implies, false_implies, not_true_eq_false, not_false_eq_true, true_and, and_true, implies_true, or_true, true_or, or_false, false_or, Int.reduceEq, Int.one_ne_zero, Nat.reduceEqDiff, e224_1, k230_32, k230_35, k230_36]
      exact RPO_q hI kk u00_ne (q_up_eq _ _ _ _)
  · rw [o_in_n hv] at kk
    simp only [e187_n g15 (by omega) hv, q_kn_v, k230_10, k230_35, k230_36, true_implies, false_implies, not_true_eq_false, not_false_eq_true, true_and, and_true, implies_true, or_true, true_or, or_false, false_or, Int.reduceEq, Int.one_ne_zero, Nat.reduceEqDiff]
    exact RPO_q hI kk u00_ne (q_up_eq _ _ _ _)
theorem RI_182 (hI : RI σ L pl n f ft inp len) (hx : -99 ≤ x ∧ x ≤ 99) : RI (q_up σ 182 a x) L pl n f ft (iup inp a x) len := by
  have h6 := hI.2.2.2.2.2
  have lo : ∀ a' i, ¬ a' = 182 → q_up σ 182 a x a' i = σ a' i := fun a' i h' => q_up_ne _ _ _ _ h'
  refine RI_gen hI (fun a' i ha' => lo a' i (by omega)) ?_ ?_ (fun d d0 d1 => ?_)
  · rw [lo 136 2 (by decide), show q_up σ 182 a x 137 = σ 137 from funext (fun i => lo 137 i (by decide))]
    exact hI.2.2.1
  · rw [lo 136 52 (by decide)]; exact hI.2.2.2.2.1
  · have g := h6 d d0 d1
    rw [lo 181 d (by decide), q_up_app]
    unfold iup
    by_cases e : d = a
    · rw [if_pos ⟨rfl, e⟩, if_pos e]; exact ⟨⟨rfl, g.1.2⟩, hx, g.2.2⟩
    · rw [if_neg (by omega), if_neg e]; exact g
theorem s210_l (ha : 0 ≤ a ∧ a < 3) (hlo : -99 ≤ lo ∧ lo ≤ 99) (hhi : -99 ≤ hi ∧ hi ≤ 99) (hF : SVF L pl inp len a F lo (hi - lo + 1).toNat)
    (kk : RPO Q bb σ0 (.inl (if ab = 0 then (bst F lo (hi - lo + 1).toNat).2 else (bst F lo (hi - lo + 1).toNat).1)) L pl n f ft inp len) (hInp : -99 ≤ inp a ∧ inp a ≤ 99) :
    ∀ (d k : Nat) (σ : St) (inp' : Int → Int) (l9 : V2), lo + k + d = hi + 1 → RI σ L pl n f ft inp' len → iup inp' a (inp a) = inp → (∀ a i, a < 136 ∨ a = 188 → σ a i = σ0 a i) → σ 136 0 = 0 → (-40000 ≤ (bst F lo k).1 ∧ (bst F lo k).1 ≤ 40000) → qx sc (D + 40) 210 75 [vr 136, vi a, vi lo, vi hi, vi ab, vi (inp a), vi (bst F lo k).1, vi (bst F lo k).2, vi (lo + k), l9] [] (0, 0) bb σ Q := by
  intro d
  induction d with
  | zero =>
    intro k σ inp' l9 hk hI hin hh h0 hb
    have e : k = (hi - lo + 1).toNat := by omega
    have h1 : hi < lo + k := by omega
    have hI2 := RI_182 (a := a) hI hInp
    rw [hin] at hI2
    have kq := kk _ hI2 (by rw [q_up_ne _ _ _ _ (by decide)]; exact h0) (fun a' i ha' => by rw [q_up_ne _ _ _ _ (by omega)]; exact hh a' i ha')
    rw [← e] at kq
    unfold ocx at kq
    dsimp only at kq
    rw [k210_75]
    simp only [k210_77, k210_78, k210_145, k210_146, k210_149, k210_150, k210_152, k210_153, k210_155, h1, qt_1, ql_1, qt_2, ql_2, qt_3, ql_3, qt_6, ql_6, qt_7, ql_7, qt_8, ql_8, qt_10, ql_10, qt_11, ql_11, qt_12, ql_12, qt_13, ql_13, qt_14, ql_14, qt_15, ql_15, qt_16, ql_16, qt_17, ql_17, qt_18, ql_18, qt_19, ql_19, qt_20, ql_20, qt_21, ql_21, qt_22, ql_22, qt_23, ql_23, qt_24, ql_24, qt_25, ql_25, qt_26, ql_26, qt_28, ql_28, qt_29, ql_29, qt_30, ql_30, qt_31, ql_31, qt_32, ql_32, qt_33, ql_33, qt_34, ql_34, qt_35, ql_35, qt_36, ql_36, qt_37, ql_37, qt_38, ql_38, qt_40, ql_40, qt_41, ql_41, qt_42, ql_42, qt_43, ql_43, qt_44, ql_44, qt_45, ql_45, qt_46, ql_46, qt_47, ql_47, qt_48, ql_48, qt_49, ql_49, qt_50, ql_50, qt_51, ql_51, qt_52, ql_52, qt_53, ql_53, qt_54, ql_54, qt_56, ql_56, qt_57, ql_57, qt_58, ql_58, qt_59, ql_59, qt_60, ql_60, qt_61, ql_61, qt_62, ql_62, qt_63, ql_63, qt_64, ql_64, qt_65, ql_65, qt_67, ql_67, qt_68, ql_68, qt_69, ql_69, qt_70, ql_70, qt_71, ql_71, qt_73, ql_73, qt_74, ql_74, qt_75, ql_75, qt_76, ql_76, qt_78, ql_78, qt_79, ql_79, qt_80, ql_80, qt_81, ql_81, qt_82, ql_82, qt_83, ql_83, qt_84, ql_84, qt_85, ql_85, qt_86, ql_86, qt_87, ql_87, qt_89, ql_89, qt_90, ql_90, qt_91, ql_91, qt_92, ql_92, qt_93, ql_93, qt_94, ql_94, qt_95, ql_95, qt_96, ql_96, qt_97, ql_97, qt_98, ql_98, qt_99, ql_99, qt_100, ql_100, qt_101, ql_101, qt_102, ql_102, qt_103, ql_103, qt_105, ql_105, qt_106, ql_106, qt_107, ql_107, qt_108, ql_108, qt_109, ql_109, qt_110, ql_110, qt_111, ql_111, qt_113, ql_113, qt_114, ql_114, qt_115, ql_115, qt_116, ql_116, qt_117, ql_117, qt_118, ql_118, qt_119, ql_119, qt_120, ql_120, qt_121, ql_121, qt_122, ql_122, qt_123, ql_123, qt_124, ql_124, qt_125, ql_125, qt_126, ql_126, qt_127, ql_127, qt_129, ql_129, qt_130, ql_130, qt_131, ql_131, qt_132, ql_132, qt_133, ql_133, qt_134, ql_134, qt_135, ql_135, qt_137, ql_137, qt_138, ql_138, qt_139, ql_139, qt_140, ql_140, qt_141, ql_141, qt_142, ql_142, qt_143, ql_143, qt_144, ql_144, qt_145, ql_145, qt_146, ql_146, qt_147, ql_147, qt_148, ql_148, qt_149, ql_149, qt_150, ql_150, qt_151, ql_151, qt_152, ql_152, qt_153, ql_153, qt_154, ql_154, qt_155, ql_155, qt_156, ql_156, qt_157, ql_157, qt_158, ql_158, qt_159, ql_159, qt_160, ql_160, qt_161, ql_161, qt_162, ql_162, qt_163, ql_163, qt_164, ql_164, qt_165, ql_165, qt_166, ql_166, qt_167, ql_167, qt_168, ql_168, qt_169, ql_169, qt_170, ql_170, qt_171, ql_171, qt_172, ql_172, qt_173, ql_173, qt_174, ql_174, qt_175, ql_175, qt_176, ql_176, qt_177, ql_177, qt_178, ql_178, qt_179, ql_179, qt_180, ql_180, qt_181, ql_181, qt_182, ql_182, qt_183, ql_183, qt_184, ql_184, qt_185, ql_185, qt_186, ql_186, qt_187, ql_187, qt_188, ql_188, true_implies, false_implies, not_true_eq_false, not_false_eq_true, true_and, and_true, implies_true, or_true, true_or, or_false, false_or, Int.reduceEq, Int.one_ne_zero, Nat.reduceEqDiff, ha.1, ha.2]
    by_cases hab : ab = 0
    · rw [if_pos hab] at kq
      simp only [hab, true_implies, false_implies, not_true_eq_false, not_false_eq_true, true_and, and_true, implies_true, or_true, true_or, or_false, false_or, Int.reduceEq, Int.one_ne_zero, Nat.reduceEqDiff, k210_158, k210_160, k210_163, k210_165]
      exact kq
    · rw [if_neg hab] at kq
      simp only [hab, true_implies, false_implies, not_true_eq_false, not_false_eq_true, true_and, and_true, implies_true, or_true, true_or, or_false, false_or, Int.reduceEq, Int.one_ne_zero, Nat.reduceEqDiff, k210_158, k210_160, k210_163, k210_165]
      exact kq
  | succ d ih =>
    intro k σ inp' l9 hk hI hin hh h0 hb
    have h1 : ¬ hi < lo + k := by omega
    have hx : -99 ≤ lo + k ∧ lo + k ≤ 99 := by omega
    have hI1 := RI_182 (a := a) hI hx
    have e1 : iup inp' a (lo + k) = iup inp a (lo + k) := by rw [← hin, iup_iup]
    rw [e1] at hI1
    obtain ⟨ρ, ρ', q1, q2, q3⟩ := hF (lo + k) (by omega) (by omega)
    have b1 := (RNS_b hI.1.1 hI.1.2.1 (RI_IOK hI1) q1).2.1
    have b2 := (RNS_b hI.1.1 hI.1.2.1 (RI_IOK hI1) q2).2.1
    rw [k210_75]
    simp only [k210_77, k210_78, k210_81, k210_82, k210_85, k210_86, k210_88, k210_89, k210_90, k210_91, h1, qt_1, ql_1, qt_2, ql_2, qt_3, ql_3, qt_6, ql_6, qt_7, ql_7, qt_8, ql_8, qt_10, ql_10, qt_11, ql_11, qt_12, ql_12, qt_13, ql_13, qt_14, ql_14, qt_15, ql_15, qt_16, ql_16, qt_17, ql_17, qt_18, ql_18, qt_19, ql_19, qt_20, ql_20, qt_21, ql_21, qt_22, ql_22, qt_23, ql_23, qt_24, ql_24, qt_25, ql_25, qt_26, ql_26, qt_28, ql_28, qt_29, ql_29, qt_30, ql_30, qt_31, ql_31, qt_32, ql_32, qt_33, ql_33, qt_34, ql_34, qt_35, ql_35, qt_36, ql_36, qt_37, ql_37, qt_38, ql_38, qt_40, ql_40, qt_41, ql_41, qt_42, ql_42, qt_43, ql_43, qt_44, ql_44, qt_45, ql_45, qt_46, ql_46, qt_47, ql_47, qt_48, ql_48, qt_49, ql_49, qt_50, ql_50, qt_51, ql_51, qt_52, ql_52, qt_53, ql_53, qt_54, ql_54, qt_56, ql_56, qt_57, ql_57, qt_58, ql_58, qt_59, ql_59, qt_60, ql_60, qt_61, ql_61, qt_62, ql_62, qt_63, ql_63, qt_64, ql_64, qt_65, ql_65, qt_67, ql_67, qt_68, ql_68, qt_69, ql_69, qt_70, ql_70, qt_71, ql_71, qt_73, ql_73, qt_74, ql_74, qt_75, ql_75, qt_76, ql_76, qt_78, ql_78, qt_79, ql_79, qt_80, ql_80, qt_81, ql_81, qt_82, ql_82, qt_83, ql_83, qt_84, ql_84, qt_85, ql_85, qt_86, ql_86, qt_87, ql_87, qt_89, ql_89, qt_90, ql_90, qt_91, ql_91, qt_92, ql_92, qt_93, ql_93, qt_94, ql_94, qt_95, ql_95, qt_96, ql_96, qt_97, ql_97, qt_98, ql_98, qt_99, ql_99, qt_100, ql_100, qt_101, ql_101, qt_102, ql_102, qt_103, ql_103, qt_105, ql_105, qt_106, ql_106, qt_107, ql_107, qt_108, ql_108, qt_109, ql_109, qt_110, ql_110, qt_111, ql_111, qt_113, ql_113, qt_114, ql_114, qt_115, ql_115, qt_116, ql_116, qt_117, ql_117, qt_118, ql_118, qt_119, ql_119, qt_120, ql_120, qt_121, ql_121, qt_122, ql_122, qt_123, ql_123, qt_124, ql_124, qt_125, ql_125, qt_126, ql_126, qt_127, ql_127, qt_129, ql_129, qt_130, ql_130, qt_131, ql_131, qt_132, ql_132, qt_133, ql_133, qt_134, ql_134, qt_135, ql_135, qt_137, ql_137, qt_138, ql_138, qt_139, ql_139, qt_140, ql_140, qt_141, ql_141, qt_142, ql_142, qt_143, ql_143, qt_144, ql_144, qt_145, ql_145, qt_146, ql_146, qt_147, ql_147, qt_148, ql_148, qt_149, ql_149, qt_150, ql_150, qt_151, ql_151, qt_152, ql_152, qt_153, ql_153, qt_154, ql_154, qt_155, ql_155, qt_156, ql_156, qt_157, ql_157, qt_158, ql_158, qt_159, ql_159, qt_160, ql_160, qt_161, ql_161, qt_162, ql_162, qt_163, ql_163, qt_164, ql_164, qt_165, ql_165, qt_166, ql_166, qt_167, ql_167, qt_168, ql_168, qt_169, ql_169, qt_170, ql_170, qt_171, ql_171, qt_172, ql_172, qt_173, ql_173, qt_174, ql_174, qt_175, ql_175, qt_176, ql_176, qt_177, ql_177, qt_178, ql_178, qt_179, ql_179, qt_180, ql_180, qt_181, ql_181, qt_182, ql_182, qt_183, ql_183, qt_184, ql_184, qt_185, ql_185, qt_186, ql_186, qt_187, ql_187, qt_188, ql_188, true_implies, false_implies, not_true_eq_false, not_false_eq_true, true_and, and_true, implies_true, or_true, true_or, or_false, false_or, Int.reduceEq, Int.one_ne_zero, Nat.reduceEqDiff, ha.1, ha.2]
    refine s209 (D := D + 34) hI1 (by decide) q1 (fun σ1 u1 u2 u3 u4 u5 => ?_)
    have e74 := u1.2.2.2.2.2.1.2.2.2.1
    simp only [q_kn_n, k210_94, k210_95, k210_98, k210_100, k210_101, k210_102, e74]
    refine s209 (D := D + 34) u2 (by decide) q2 (fun σ2 v1 v2 v3 v4 v5 => ?_)
    have f74 := v1.2.2.2.2.2.1.2.2.2.1
    have R1 : q_R (F (lo + k)) = True := eq_true (by unfold q_R; omega)
    have R2 : q_R (lo + k + 1) = True := eq_true (by unfold q_R; omega)
    have hin' : iup (iup inp a (lo + k)) a (inp a) = inp := by rw [iup_iup, iup_id]
    have nx := fun hb' => ih (k + 1) σ2 (iup inp a (lo + k)) (vi (ρ 87 4)) (by omega) v2 hin' (fun a' i ha' => by rw [v3 a' i ha', u3 a' i ha', q_up_ne _ _ _ _ (by omega)]; exact hh a' i ha') (by rw [v4, u4, q_up_ne _ _ _ _ (by decide)]; exact h0) hb'
    have eb1 : bst F lo (k + 1) = if k = 0 ∨ (bst F lo k).1 < F (lo + k) then (F (lo + k), lo + k) else bst F lo k := rfl
    rw [eb1, Int.natCast_add, ← Int.add_assoc] at nx
    have yes : (k = 0 ∨ (bst F lo k).1 < F (lo + k)) → qx sc (D + 40) 210 126 [vr 136, vi a, vi lo, vi hi, vi ab, vi (inp a), vi (bst F lo k).1, vi (bst F lo k).2, vi (lo + k), vi (ρ 87 4)] [] (0, 0) bb σ2 Q := by
      intro h
      rw [if_pos h] at nx
      simp only [k210_126, k210_128, k210_129, k210_132, k210_133, k210_135, k210_137, k210_139, k210_142, R1, R2, f74, true_implies, false_implies, not_true_eq_false, not_false_eq_true, true_and, and_true, implies_true, or_true, true_or, or_false, false_or, Int.reduceEq, Int.one_ne_zero, Nat.reduceEqDiff, ← q3]
      exact nx (by dsimp only; omega)
    simp only [q_kn_n, k210_105, k210_107, k210_108]
    refine ⟨fun g => ?_, fun g => ?_⟩
    · simp only [k210_111, k210_113, k210_114, k210_117, k210_118, k210_120, k210_123, R1, f74, true_implies, false_implies, not_true_eq_false, not_false_eq_true, true_and, and_true, implies_true, or_true, true_or, or_false, false_or, Int.reduceEq, Int.one_ne_zero, Nat.reduceEqDiff, ← q3]
      refine ⟨fun g2 => yes (Or.inr g2), fun g2 => ?_⟩
      rw [if_neg (by omega)] at nx
      simp only [k210_139, k210_142, R2, true_implies, false_implies, not_true_eq_false, not_false_eq_true, true_and, and_true, implies_true, or_true, true_or, or_false, false_or, Int.reduceEq, Int.one_ne_zero, Nat.reduceEqDiff]
      exact nx hb
    · exact yes (Or.inl (by omega))
/-- saves -/
theorem s210 (hI : RI σ L pl n f ft inp len) (hR : svok a lo hi → SVF L pl inp len a F lo (hi - lo + 1).toNat) (kk : RPO Q bb σ (o_sav a lo hi ab F) L pl n f ft inp len) : qx sc (D + 40) 210 0 [vr 136, vi a, vi lo, vi hi, vi ab, vn, vn, vn, vn, vn] [] (0, 0) bb σ Q := by
  have hI0 := RI_of (σ' := q_up σ 136 0 0) hI (fun a i ha => u0_ne a i (by unfold RIX at ha; omega))
  have h6 := hI.2.2.2.2.2
  unfold o_sav at kk
  simp only [k210_0, k210_1, k210_2, k210_5, k210_6, k210_7, k210_8, k210_9]
  by_cases h : svok a lo hi
  · rw [if_pos h] at kk
    obtain ⟨h1, h2, h3, h4, h5⟩ := id h
    have h1' : 0 ≤ a ∧ a ≤ 2 := by omega
    have h3' : lo ≤ hi ∧ hi ≤ 99 := by omega
    have n2 : ¬ 20 < hi - lo := by omega
    have R : q_R (hi - lo) = True := eq_true (by unfold q_R; omega)
    have e2 : q_up σ 136 0 0 182 a = inp a := by rw [u0_ne _ _ (by omega)]; exact (h6 a h1.1 h1'.2).1.1
    have hInp := (h6 a h1.1 h1'.2).2.1
    simp only [e157_y h1', e157_y h2, e157_y h3', q_kn_v, k210_12, k210_15, k210_16, k210_18, k210_20, k210_23, k210_26, k210_27, k210_28, k210_30, k210_33, k210_36, k210_37, k210_38, k210_39, k210_41, k210_48, k210_49, k210_50, e224_0, k210_53, k210_58, k210_59, k210_62, k210_63, k210_64, k210_66, k210_67, k210_69, k210_70, k210_72, k210_73, n2, R, qt_1, ql_1, qt_2, ql_2, qt_3, ql_3, qt_6, ql_6, qt_7, ql_7, qt_8, ql_8, qt_10, ql_10, qt_11, ql_11, qt_12, ql_12, qt_13, ql_13, qt_14, ql_14, qt_15, ql_15, qt_16, ql_16, qt_17, ql_17, qt_18, ql_18, qt_19, ql_19, qt_20, ql_20, qt_21, ql_21, qt_22, ql_22, qt_23, ql_23, qt_24, ql_24, qt_25, ql_25, qt_26, ql_26, qt_28, ql_28, qt_29, ql_29, qt_30, ql_30, qt_31, ql_31, qt_32, ql_32, qt_33, ql_33, qt_34, ql_34, qt_35, ql_35, qt_36, ql_36, qt_37, ql_37, qt_38, ql_38, qt_40, ql_40, qt_41, ql_41, qt_42, ql_42, qt_43, ql_43, qt_44, ql_44, qt_45, ql_45, qt_46, ql_46, qt_47, ql_47, qt_48, ql_48, qt_49, ql_49, qt_50, ql_50, qt_51, ql_51, qt_52, ql_52, qt_53, ql_53, qt_54, ql_54, qt_56, ql_56, qt_57, ql_57, qt_58, ql_58, qt_59, ql_59, qt_60, ql_60, qt_61, ql_61, qt_62, ql_62, qt_63, ql_63, qt_64, ql_64, qt_65, ql_65, qt_67, ql_67, qt_68, ql_68, qt_69, ql_69, qt_70, ql_70, qt_71, ql_71, qt_73, ql_73, qt_74, ql_74, qt_75, ql_75, qt_76, ql_76, qt_78, ql_78, qt_79, ql_79, qt_80, ql_80, qt_81, ql_81, qt_82, ql_82, qt_83, ql_83, qt_84, ql_84, qt_85, ql_85, qt_86, ql_86, qt_87, ql_87, qt_89, ql_89, qt_90, ql_90, qt_91, ql_91, qt_92, ql_92, qt_93, ql_93, qt_94, ql_94, qt_95, ql_95, qt_96, ql_96, qt_97, ql_97, qt_98, ql_98, qt_99, ql_99, qt_100, ql_100, qt_101, ql_101, qt_102, ql_102, qt_103, ql_103, qt_105, ql_105, qt_106, ql_106, qt_107, ql_107, qt_108, ql_108, qt_109, ql_109, qt_110, ql_110, qt_111, ql_111, qt_113, ql_113, qt_114, ql_114, qt_115, ql_115, qt_116, ql_116, qt_117, ql_117, qt_118, ql_118, qt_119, ql_119, qt_120, ql_120, qt_121, ql_121, qt_122, ql_122, qt_123, ql_123, qt_124, ql_124, qt_125, ql_125, qt_126, ql_126, qt_127, ql_127, qt_129, ql_129, qt_130, ql_130, qt_131, ql_131, qt_132, ql_132, qt_133, ql_133, qt_134, ql_134, qt_135, ql_135, qt_137, ql_137, qt_138, ql_138, qt_139, ql_139, qt_140, ql_140, qt_141, ql_141, qt_142, ql_142, qt_143, ql_143, qt_144, ql_144, qt_145, ql_145, qt_146, ql_146, qt_147, ql_147, qt_148, ql_148, qt_149, ql_149, qt_150, ql_150, qt_151, ql_151, qt_152, ql_152, qt_153, ql_153, qt_154, ql_154, qt_155, ql_155, qt_156, ql_156, qt_157, ql_157, qt_158, ql_158, qt_159, ql_159, qt_160, ql_160, qt_161, ql_161, qt_162, ql_162, qt_163, ql_163, qt_164, ql_164, qt_165, ql_165, qt_166, ql_166, qt_167, ql_167, qt_168, ql_168, qt_169, ql_169, qt_170, ql_170, qt_171, ql_171, qt_172, ql_172, qt_173, ql_173, qt_174, ql_174, qt_175, ql_175, qt_176, ql_176, qt_177, ql_177, qt_178, ql_178, qt_179, ql_179, qt_180, ql_180, qt_181, ql_181, qt_182, ql_182, qt_183, ql_183, qt_184, ql_184, qt_185, ql_185, qt_186, ql_186, qt_187, ql_187, qt_188, ql_188, true_implies, false_implies, not_true_eq_false, not_false_eq_true, true_and, and_true, implies_true, or_true, true_or, or_false, false_or, Int.reduceEq, Int.one_ne_zero, Nat.reduceEqDiff, h1.1, h1.2, e2]
    have key := s210_l (sc := sc) (D := D) (bb := bb) (Q := Q) (σ0 := σ) (L := L) (pl := pl) (n := n) (f := f) (ft := ft) (inp := inp) (len := len) (ab := ab) (F := F) h1 h2 h3 (hR h) kk hInp (hi + 1 - lo).toNat 0 (q_up σ 136 0 0) inp vn (by omega) hI0 iup_id (fun a' i ha' => u0_ne a' i (by omega)) (q_up_eq _ _ _ _) (by unfold bst; dsimp only; decide)
    have e0 : lo + ((0 : Nat) : Int) = lo := Int.add_zero lo
    rw [e0] at key
    exact key
  · rw [if_neg h] at kk
    have bad : qx sc (D + 40) 210 44 [vr 136, vi a, vi lo, vi hi, vi ab, vn, vn, vn, vn, vn] [vr 136] (0, 0) bb (q_up σ 136 0 0) Q := by
      simp only [k210_44, k210_45, k210_48, k210_49, k210_50, e224_1, q_kn_v, k210_53, k210_56, k210_57, true_implies, false_implies, not_true_eq_false, not_false_eq_true, true_and, and_true, implies_true, or_true, true_or, or_false, false_or, Int.reduceEq, Int.one_ne_zero, Nat.reduceEqDiff]
      exact RPO_q hI kk u00_ne (q_up_eq _ _ _ _)
    by_cases h1 : 0 ≤ a ∧ a ≤ 2
    · simp only [e157_y h1, q_kn_v, k210_12, k210_15, k210_16, k210_18, k210_20, true_implies, false_implies, not_true_eq_false, not_false_eq_true, true_and, and_true, implies_true, or_true, true_or, or_false, false_or, Int.reduceEq, Int.one_ne_zero, Nat.reduceEqDiff]
      by_cases h2 : -99 ≤ lo ∧ lo ≤ 99
      · simp only [e157_y h2, q_kn_v, k210_23, k210_26, k210_27, k210_28, k210_30, true_implies, false_implies, not_true_eq_false, not_false_eq_true, true_and, and_true, implies_true, or_true, true_or, or_false, false_or, Int.reduceEq, Int.one_ne_zero, Nat.reduceEqDiff]
        by_cases h3 : lo ≤ hi ∧ hi ≤ 99
        · have n2 : 20 < hi - lo := by omega
          have R : q_R (hi - lo) = True := eq_true (by unfold q_R; omega)
          simp only [e157_y h3, q_kn_v, k210_33, k210_36, k210_37, k210_38, k210_39, k210_41, true_implies, false_implies, not_true_eq_false, not_false_eq_true, true_and, and_true, implies_true, or_true, true_or, or_false, false_or, Int.reduceEq, Int.one_ne_zero, Nat.reduceEqDiff, R, n2]
          exact bad
        · simp only [e157_n h3, q_kn_v, k210_33, true_implies, false_implies, not_true_eq_false, not_false_eq_true, true_and, and_true, implies_true, or_true, true_or, or_false, false_or, Int.reduceEq, Int.one_ne_zero, Nat.reduceEqDiff]
          exact bad
      · simp only [e157_n h2, q_kn_v, k210_23, true_implies, false_implies, not_true_eq_false, not_false_eq_true, true_and, and_true, implies_true, or_true, true_or, or_false, false_or, Int.reduceEq, Int.one_ne_zero, Nat.reduceEqDiff]
        exact bad
    · simp only [e157_n h1, q_kn_v, k210_12, true_implies, false_implies, not_true_eq_false, not_false_eq_true, true_and, and_true, implies_true, or_true, true_or, or_false, false_or, Int.reduceEq, Int.one_ne_zero, Nat.reduceEqDiff]
      exact bad
end RPF2
