/-! Guards.perform, and analyse -/
section GRP
variable {sc : Nat × (Nat → Int32)} {D : Nat} {bb : Bool} {Q : QP} {c a V S K Ln : Nat} {C r r0 σ : St} {G : GT} {pl : Int → Int} {wo k i l root : Int} {p : Int × Int}
theorem n18_l (hc : q_C c) (hk : CK C r0 G pl V S K Ln) (hp : PRO G pl V S K Ln) (hsh : ∀ j : Int, 0 ≤ j → j < K → r0 70 j = shU G pl V (-1) j ∧ r0 71 j = shD G pl V (-1) j) {l1 : V2} (kk : ∀ r, GRI r0 r c G pl V K → Q (.inl none) bb (NS c C r)) : ∀ (d k : Nat) (r : St) (l3 : V2), k + d = K → GRI r0 r c G pl V k → qx sc (D + 2) 18 28 [vr 72, l1, vi k, l3] [] (0, 0) bb (NS c C r) Q := by
  intro d
  induction d with
  | zero =>
    intro k r l3 hk' hI
    have e : k = K := by omega
    subst e
    have e1 : C 0 1 = k := hk.2.1.2.1
    rw [k18_28]
    simp only [k18_29, k18_30, k18_33 hc, k18_36, k18_144, NS_lo hc, NS_g hc, NS_f hc, NS_u hc, NS_uf hc, Nat.reduceLT, Nat.reduceLeDiff, Nat.reduceEqDiff, not_false_eq_true, hI.2.1, c_nn, Int.toNat_natCast, true_implies, false_implies, not_true_eq_false, not_false_eq_true, true_and, and_true, implies_true, or_true, true_or, or_false, false_or, Int.reduceEq, Int.one_ne_zero, Nat.reduceEqDiff, e1]
    exact ⟨fun hh => by omega, fun _ => kk r hI⟩
  | succ d ih =>
    intro k r l3 hk' hI
    obtain ⟨f1, f2, f3, f4, f5, f6⟩ := hI
    have e1 : C 0 1 = K := hk.2.1.2.1
    have k0 : (0 : Int) ≤ (k : Int) := by omega
    have k1 : (k : Int) < K := by omega
    have hb := hp.2.1
    have k40 : (k : Int) < 40 := by omega
    have u01 := shU_01 (G := G) (pl := pl) (V := V) (wo := -1) (k := k)
    have d01 := shD_01 (G := G) (pl := pl) (V := V) (wo := -1) (k := k)
    have z0 : (0 : Int).toNat = 0 := rfl
    have z1 : (1 : Int).toNat = 1 := rfl
    obtain ⟨s70, s71⟩ := hsh k k0 k1
    have rg := gdr_rng hp k0 k1
    -- behind the search: guard and manner are there
    have fin : ∀ r1 : St, (∀ a i, ¬ (a = 73 ∨ a = 74) → r1 a i = r a i) → (∀ j, ¬ j = (k : Int) → r1 73 j = r 73 j ∧ r1 74 j = r 74 j) → r1 73 k = (gdr G pl V k).1 → r1 74 k = (gdr G pl V k).2 → qx sc (D + 2) 18 88 [vr 72, l1, vi k, vi (2 - shU G pl V (-1) k - shD G pl V (-1) k)] [] (0, 0) bb (NS c C r1) Q := by
      intro r1 g1 g2 g3 g4
      -- the next turn
      have nxt : ∀ r2 : St, (∀ a i, ¬ (a = 75 ∨ a = 76) → ¬ (a = 72 ∧ i = 8) → r2 a i = r1 a i) → r2 72 8 = r 72 8 + (if (gdr G pl V k).1 = -1 then 0 else 1) → (∀ l : Int, 0 ≤ l → l < 40 → r2 75 l = r 75 l + (if (gdr G pl V k).1 = l then 1 else 0) ∧ r2 76 l = r 76 l + (if (gdr G pl V k).1 = l then 2 - shU G pl V (-1) k - shD G pl V (-1) k else 0)) → qx sc (D + 2) 18 138 [vr 72, l1, vi k, vi (2 - shU G pl V (-1) k - shD G pl V (-1) k)] [] (0, 0) bb (NS c C r2) Q := by
        intro r2 q1 q2 q3
        simp only [k18_138, k18_141]
        refine ⟨by omega, ?_⟩
        have nx := ih (k + 1) r2 (vi (2 - shU G pl V (-1) k - shD G pl V (-1) k)) (by omega) ⟨fun a i hn => ?_, ?_, fun i hn => ?_, fun j j0 j1 => ?_, ?_, fun l l0 l1' => ?_⟩
        · rw [Int.natCast_add] at nx
          exact nx
        · rw [q1 a i (by omega) (by omega), g1 a i (by omega)]; exact f1 a i hn
        · rw [q1 72 2 (by omega) (by omega), g1 72 2 (by omega)]; exact f2
        · rw [q1 72 i (by omega) (by omega), g1 72 i (by omega)]; exact f3 i hn
        · rw [q1 73 j (by omega) (by omega), q1 74 j (by omega) (by omega)]
          by_cases e : j = k
          · subst e; exact ⟨g3, g4⟩
          · rw [(g2 j e).1, (g2 j e).2]; exact f4 j j0 (by omega)
        · rw [q2, f5]; rfl
        · obtain ⟨a1, a2⟩ := q3 l l0 l1'
          obtain ⟨b1, b2⟩ := f6 l l0 l1'
          rw [a1, a2, b1, b2]
          exact ⟨rfl, rfl⟩
      simp only [k18_88, k18_89, k18_92, k18_93, k18_94, k18_95, NS_lo hc, NS_g hc, NS_f hc, NS_u hc, NS_uf hc, Nat.reduceLT, Nat.reduceLeDiff, Nat.reduceEqDiff, not_false_eq_true, qt_1, ql_1, qt_2, ql_2, qt_3, ql_3, qt_6, ql_6, qt_7, ql_7, qt_8, ql_8, qt_10, ql_10, qt_11, ql_11, qt_12, ql_12, qt_13, ql_13, qt_14, ql_14, qt_15, ql_15, qt_16, ql_16, qt_17, ql_17, qt_18, ql_18, qt_19, ql_19, qt_20, ql_20, qt_21, ql_21, qt_22, ql_22, qt_23, ql_23, qt_24, ql_24, qt_25, ql_25, qt_26, ql_26, qt_28, ql_28, qt_29, ql_29, qt_30, ql_30, qt_31, ql_31, qt_32, ql_32, qt_33, ql_33, qt_34, ql_34, qt_35, ql_35, qt_36, ql_36, qt_37, ql_37, qt_38, ql_38, qt_40, ql_40, qt_41, ql_41, qt_42, ql_42, qt_43, ql_43, qt_44, ql_44, qt_45, ql_45, qt_46, ql_46, qt_47, ql_47, qt_48, ql_48, qt_49, ql_49, qt_50, ql_50, qt_51, ql_51, qt_52, ql_52, qt_53, ql_53, qt_54, ql_54, qt_56, ql_56, qt_57, ql_57, qt_58, ql_58, qt_59, ql_59, qt_60, ql_60, qt_61, ql_61, qt_62, ql_62, qt_63, ql_63, qt_64, ql_64, qt_65, ql_65, qt_67, ql_67, qt_68, ql_68, qt_69, ql_69, qt_70, ql_70, qt_71, ql_71, qt_73, ql_73, qt_74, ql_74, qt_75, ql_75, qt_76, ql_76, qt_78, ql_78, qt_79, ql_79, qt_80, ql_80, qt_81, ql_81, qt_82, ql_82, qt_83, ql_83, qt_84, ql_84, qt_85, ql_85, qt_86, ql_86, qt_87, ql_87, qt_89, ql_89, qt_90, ql_90, qt_91, ql_91, qt_92, ql_92, qt_93, ql_93, qt_94, ql_94, qt_95, ql_95, qt_96, ql_96, qt_97, ql_97, qt_98, ql_98, qt_99, ql_99, qt_100, ql_100, qt_101, ql_101, qt_102, ql_102, qt_103, ql_103, qt_105, ql_105, qt_106, ql_106, qt_107, ql_107, qt_108, ql_108, qt_109, ql_109, qt_110, ql_110, qt_111, ql_111, qt_113, ql_113, qt_114, ql_114, qt_115, ql_115, qt_116, ql_116, qt_117, ql_117, qt_118, ql_118, qt_119, ql_119, qt_120, ql_120, qt_121, ql_121, qt_122, ql_122, qt_123, ql_123, qt_124, ql_124, qt_125, ql_125, qt_126, ql_126, qt_127, ql_127, qt_129, ql_129, qt_130, ql_130, qt_131, ql_131, qt_132, ql_132, qt_133, ql_133, qt_134, ql_134, qt_135, ql_135, qt_137, ql_137, qt_138, ql_138, qt_139, ql_139, qt_140, ql_140, qt_141, ql_141, qt_142, ql_142, qt_143, ql_143, qt_144, ql_144, qt_145, ql_145, qt_146, ql_146, qt_147, ql_147, qt_148, ql_148, qt_149, ql_149, qt_150, ql_150, qt_151, ql_151, qt_152, ql_152, qt_153, ql_153, qt_154, ql_154, qt_155, ql_155, qt_156, ql_156, qt_157, ql_157, qt_158, ql_158, qt_159, ql_159, qt_160, ql_160, qt_161, ql_161, qt_162, ql_162, qt_163, ql_163, qt_164, ql_164, qt_165, ql_165, qt_166, ql_166, qt_167, ql_167, qt_168, ql_168, qt_169, ql_169, qt_170, ql_170, qt_171, ql_171, qt_172, ql_172, qt_173, ql_173, qt_174, ql_174, qt_175, ql_175, qt_176, ql_176, qt_177, ql_177, qt_178, ql_178, qt_179, ql_179, qt_180, ql_180, qt_181, ql_181, qt_182, ql_182, qt_183, ql_183, qt_184, ql_184, qt_185, ql_185, qt_186, ql_186, qt_187, ql_187, qt_188, ql_188, true_implies, false_implies, not_true_eq_false, not_false_eq_true, true_and, and_true, implies_true, or_true, true_or, or_false, false_or, Int.reduceEq, Int.one_ne_zero, Nat.reduceEqDiff, k0, k40, g3]
      refine ⟨fun e => ?_, fun e => ?_⟩
      · refine nxt r1 (fun a i _ _ => rfl) (by rw [if_pos e, g1 72 8 (by decide)]; omega) (fun l l0 l1' => ?_)
        rw [if_neg (by omega), if_neg (by omega), g1 75 l (by decide), g1 76 l (by decide)]
        omega
      · have hg : 0 ≤ (gdr G pl V k).1 ∧ (gdr G pl V k).1 < Ln := by
          rcases rg with h | h
          · rw [h] at e; exact absurd rfl e
          · omega
        have hg0 : 0 ≤ (gdr G pl V k).1 := hg.1
        have hg1 : (gdr G pl V k).1 < 40 := by omega
        have e8 : r1 72 8 = r 72 8 := g1 72 8 (by decide)
        have e75 : r1 75 (gdr G pl V k).1 = r 75 (gdr G pl V k).1 := g1 75 _ (by decide)
        have e76 : r1 76 (gdr G pl V k).1 = r 76 (gdr G pl V k).1 := g1 76 _ (by decide)
        have b5 := sum_b (f := fun j => if (gdr G pl V j).1 = -1 then (0 : Int) else 1) (m := 1) (fun j => by split <;> decide) k
        rw [← f5] at b5
        have b6 := sum_b (f := fun j => if (gdr G pl V j).1 = (gdr G pl V k).1 then (1 : Int) else 0) (m := 1) (fun j => by split <;> decide) k
        rw [← (f6 _ hg0 hg1).1] at b6
        have b7 := sum_b (f := fun j => if (gdr G pl V j).1 = (gdr G pl V k).1 then 2 - shU G pl V (-1) j - shD G pl V (-1) j else 0) (m := 2) (fun j => by
          have := shU_01 (G := G) (pl := pl) (V := V) (wo := -1) (k := j)
          have := shD_01 (G := G) (pl := pl) (V := V) (wo := -1) (k := j)
          split <;> omega) k
        rw [← (f6 _ hg0 hg1).2] at b7
        simp only [k18_98, k18_99, k18_100, k18_103, k18_104, k18_105, k18_108, k18_109, k18_112, k18_113, k18_116, k18_117, k18_118, k18_119, k18_120, k18_121, k18_122, k18_123, k18_124, k18_127, k18_128, k18_131, k18_132, k18_133, k18_134, k18_135, k18_136, k18_137, NS_lo hc, NS_g hc, NS_f hc, NS_u hc, NS_uf hc, Nat.reduceLT, Nat.reduceLeDiff, Nat.reduceEqDiff, not_false_eq_true, qt_1, ql_1, qt_2, ql_2, qt_3, ql_3, qt_6, ql_6, qt_7, ql_7, qt_8, ql_8, qt_10, ql_10, qt_11, ql_11, qt_12, ql_12, qt_13, ql_13, qt_14, ql_14, qt_15, ql_15, qt_16, ql_16, qt_17, ql_17, qt_18, ql_18, qt_19, ql_19, qt_20, ql_20, qt_21, ql_21, qt_22, ql_22, qt_23, ql_23, qt_24, ql_24, qt_25, ql_25, qt_26, ql_26, qt_28, ql_28, qt_29, ql_29, qt_30, ql_30, qt_31, ql_31, qt_32, ql_32, qt_33, ql_33, qt_34, ql_34, qt_35, ql_35, qt_36, ql_36, qt_37, ql_37, qt_38, ql_38, qt_40, ql_40, qt_41, ql_41, qt_42, ql_42, qt_43, ql_43, qt_44, ql_44, qt_45, ql_45, qt_46, ql_46, qt_47, ql_47, qt_48, ql_48, qt_49, ql_49, qt_50, ql_50, qt_51, ql_51, qt_52, ql_52, qt_53, ql_53, qt_54, ql_54, qt_56, ql_56, qt_57, ql_57, qt_58, ql_58, qt_59, ql_59, qt_60, ql_60, qt_61, ql_61, qt_62, ql_62, qt_63, ql_63, qt_64, ql_64, qt_65, ql_65, qt_67, ql_67, qt_68, ql_68, qt_69, ql_69, qt_70, ql_70, qt_71, ql_71, qt_73, ql_73, qt_74, ql_74, qt_75, ql_75, qt_76, ql_76, qt_78, ql_78, qt_79, ql_79, qt_80, ql_80, qt_81, ql_81, qt_82, ql_82, qt_83, ql_83, qt_84, ql_84, qt_85, ql_85, qt_86, ql_86, qt_87, ql_87, qt_89, ql_89, qt_90, ql_90, qt_91, ql_91, qt_92, ql_92, qt_93, ql_93, qt_94, ql_94, qt_95, ql_95, qt_96, ql_96, qt_97, ql_97, qt_98, ql_98, qt_99, ql_99, qt_100, ql_100, qt_101, ql_101, qt_102, ql_102, qt_103, ql_103, qt_105, ql_105, qt_106, ql_106, qt_107, ql_107, qt_108, ql_108, qt_109, ql_109, qt_110, ql_110, qt_111, ql_111, qt_113, ql_113, qt_114, ql_114, qt_115, ql_115, qt_116, ql_116, qt_117, ql_117, qt_118, ql_118, qt_119, ql_119, qt_120, ql_120, qt_121, ql_121, qt_122, ql_122, qt_123, ql_123, qt_124, ql_124, qt_125, ql_125, qt_126, ql_126, qt_127, ql_127, qt_129, ql_129, qt_130, ql_130, qt_131, ql_131, qt_132, ql_132, qt_133, ql_133, qt_134, ql_134, qt_135, ql_135, qt_137, ql_137, qt_138, ql_138, qt_139, ql_139, qt_140, ql_140, qt_141, ql_141, qt_142, ql_142, qt_143, ql_143, qt_144, ql_144, qt_145, ql_145, qt_146, ql_146, qt_147, ql_147, qt_148, ql_148, qt_149, ql_149, qt_150, ql_150, qt_151, ql_151, qt_152, ql_152, qt_153, ql_153, qt_154, ql_154, qt_155, ql_155, qt_156, ql_156, qt_157, ql_157, qt_158, ql_158, qt_159, ql_159, qt_160, ql_160, qt_161, ql_161, qt_162, ql_162, qt_163, ql_163, qt_164, ql_164, qt_165, ql_165, qt_166, ql_166, qt_167, ql_167, qt_168, ql_168, qt_169, ql_169, qt_170, ql_170, qt_171, ql_171, qt_172, ql_172, qt_173, ql_173, qt_174, ql_174, qt_175, ql_175, qt_176, ql_176, qt_177, ql_177, qt_178, ql_178, qt_179, ql_179, qt_180, ql_180, qt_181, ql_181, qt_182, ql_182, qt_183, ql_183, qt_184, ql_184, qt_185, ql_185, qt_186, ql_186, qt_187, ql_187, qt_188, ql_188, true_implies, false_implies, not_true_eq_false, not_false_eq_true, true_and, and_true, implies_true, or_true, true_or, or_false, false_or, Int.reduceEq, Int.one_ne_zero, Nat.reduceEqDiff, k0, k40, hg0, hg1, q_up_ne, q_up_ne2, q_up_eq, Int.reduceEq, g3, e8, e75, e76]
        refine ⟨by unfold q_R; omega, by unfold q_R; omega, by unfold q_R; omega, nxt _ (fun a i n1 n2 => ?_) ?_ (fun l l0 l1' => ?_)⟩
        · rw [q_up_ne _ _ _ _ (by omega), q_up_ne _ _ _ _ (by omega), q_up_app, if_neg n2]
        · rw [q_up_ne _ _ _ _ (by decide), q_up_ne _ _ _ _ (by decide), q_up_eq, if_neg e]
        · by_cases el : (gdr G pl V k).1 = l
          · rw [if_pos el, if_pos el, ← el]
            refine ⟨?_, ?_⟩
            · rw [q_up_ne _ _ _ _ (by decide), q_up_eq]
            · rw [q_up_eq]
          · have el' : ¬ l = (gdr G pl V k).1 := fun h => el h.symm
            rw [if_neg el, if_neg el]
            refine ⟨?_, ?_⟩
            · rw [q_up_ne _ _ _ _ (by decide), q_up_ne2 _ _ _ el', q_up_ne _ _ _ _ (by decide), g1 75 l (by decide)]; omega
            · rw [q_up_ne2 _ _ _ el', q_up_ne _ _ _ _ (by decide), q_up_ne _ _ _ _ (by decide), g1 76 l (by decide)]; omega
    rw [k18_28]
    have e70 : r 70 k = shU G pl V (-1) k := by rw [f1 70 k (by omega)]; exact s70
    have e71 : r 71 k = shD G pl V (-1) k := by rw [f1 71 k (by omega)]; exact s71
    simp only [k18_29, k18_30, k18_33 hc, k18_36, k18_39, k18_40, k18_43, k18_44, k18_45, k18_46, k18_47, k18_50, k18_51, k18_52, k18_53, k18_54, k18_55, k18_58, k18_61, k18_62, k18_63, k18_64, k18_65, k18_66, k18_67, k18_70, k18_73, k18_74, k18_75, k18_76, k18_77, k18_78, k18_79, k18_80, NS_lo hc, NS_g hc, NS_f hc, NS_u hc, NS_uf hc, Nat.reduceLT, Nat.reduceLeDiff, Nat.reduceEqDiff, not_false_eq_true, qt_1, ql_1, qt_2, ql_2, qt_3, ql_3, qt_6, ql_6, qt_7, ql_7, qt_8, ql_8, qt_10, ql_10, qt_11, ql_11, qt_12, ql_12, qt_13, ql_13, qt_14, ql_14, qt_15, ql_15, qt_16, ql_16, qt_17, ql_17, qt_18, ql_18, qt_19, ql_19, qt_20, ql_20, qt_21, ql_21, qt_22, ql_22, qt_23, ql_23, qt_24, ql_24, qt_25, ql_25, qt_26, ql_26, qt_28, ql_28, qt_29, ql_29, qt_30, ql_30, qt_31, ql_31, qt_32, ql_32, qt_33, ql_33, qt_34, ql_34, qt_35, ql_35, qt_36, ql_36, qt_37, ql_37, qt_38, ql_38, qt_40, ql_40, qt_41, ql_41, qt_42, ql_42, qt_43, ql_43, qt_44, ql_44, qt_45, ql_45, qt_46, ql_46, qt_47, ql_47, qt_48, ql_48, qt_49, ql_49, qt_50, ql_50, qt_51, ql_51, qt_52, ql_52, qt_53, ql_53, qt_54, ql_54, qt_56, ql_56, qt_57, ql_57, qt_58, ql_58, qt_59, ql_59, qt_60, ql_60, qt_61, ql_61, qt_62, ql_62, qt_63, ql_63, qt_64, ql_64, qt_65, ql_65, qt_67, ql_67, qt_68, ql_68, qt_69, ql_69, qt_70, ql_70, qt_71, ql_71, qt_73, ql_73, qt_74, ql_74, qt_75, ql_75, qt_76, ql_76, qt_78, ql_78, qt_79, ql_79, qt_80, ql_80, qt_81, ql_81, qt_82, ql_82, qt_83, ql_83, qt_84, ql_84, qt_85, ql_85, qt_86, ql_86, qt_87, ql_87, qt_89, ql_89, qt_90, ql_90, qt_91, ql_91, qt_92, ql_92, qt_93, ql_93, qt_94, ql_94, qt_95, ql_95, qt_96, ql_96, qt_97, ql_97, qt_98, ql_98, qt_99, ql_99, qt_100, ql_100, qt_101, ql_101, qt_102, ql_102, qt_103, ql_103, qt_105, ql_105, qt_106, ql_106, qt_107, ql_107, qt_108, ql_108, qt_109, ql_109, qt_110, ql_110, qt_111, ql_111, qt_113, ql_113, qt_114, ql_114, qt_115, ql_115, qt_116, ql_116, qt_117, ql_117, qt_118, ql_118, qt_119, ql_119, qt_120, ql_120, qt_121, ql_121, qt_122, ql_122, qt_123, ql_123, qt_124, ql_124, qt_125, ql_125, qt_126, ql_126, qt_127, ql_127, qt_129, ql_129, qt_130, ql_130, qt_131, ql_131, qt_132, ql_132, qt_133, ql_133, qt_134, ql_134, qt_135, ql_135, qt_137, ql_137, qt_138, ql_138, qt_139, ql_139, qt_140, ql_140, qt_141, ql_141, qt_142, ql_142, qt_143, ql_143, qt_144, ql_144, qt_145, ql_145, qt_146, ql_146, qt_147, ql_147, qt_148, ql_148, qt_149, ql_149, qt_150, ql_150, qt_151, ql_151, qt_152, ql_152, qt_153, ql_153, qt_154, ql_154, qt_155, ql_155, qt_156, ql_156, qt_157, ql_157, qt_158, ql_158, qt_159, ql_159, qt_160, ql_160, qt_161, ql_161, qt_162, ql_162, qt_163, ql_163, qt_164, ql_164, qt_165, ql_165, qt_166, ql_166, qt_167, ql_167, qt_168, ql_168, qt_169, ql_169, qt_170, ql_170, qt_171, ql_171, qt_172, ql_172, qt_173, ql_173, qt_174, ql_174, qt_175, ql_175, qt_176, ql_176, qt_177, ql_177, qt_178, ql_178, qt_179, ql_179, qt_180, ql_180, qt_181, ql_181, qt_182, ql_182, qt_183, ql_183, qt_184, ql_184, qt_185, ql_185, qt_186, ql_186, qt_187, ql_187, qt_188, ql_188, true_implies, false_implies, not_true_eq_false, not_false_eq_true, true_and, and_true, implies_true, or_true, true_or, or_false, false_or, Int.reduceEq, Int.one_ne_zero, Nat.reduceEqDiff, f2, c_nn, Int.toNat_natCast, e1, k1, k0, k40, z0, z1, Nat.reduceAdd, Int.reduceLE, Int.reduceLT, q_up_ne, e70, e71]
    have hck : CK C (q_up (q_up r 73 k (-1)) 74 k (-1)) G pl V S K Ln := CK_of hk (fun a i ha => by rw [q_up_ne _ _ _ _ (by omega), q_up_ne _ _ _ _ (by omega)]; exact f1 a i (by omega))
    refine ⟨by unfold q_R; omega, by unfold q_R; omega, fun g => ?_, fun g => ?_⟩
    · simp only [k18_83, k18_84, k18_85]
      refine n19 hc hck hp (by rw [q_up_ne _ _ _ _ (by decide), q_up_ne _ _ _ _ (by decide)]; exact f2) k0 k1 (by rw [q_up_ne _ _ _ _ (by decide), q_up_eq]) (by rw [q_up_eq]) ?_
      simp only [q_kn_n]
      have eg : gdr G pl V k = gd G (RT G (gC G k).1).1 5 (gC G k).2.2 (-1, -1) := by unfold gdr; rw [if_neg (by omega)]
      rw [← eg]
      refine fin _ (fun a i hn => ?_) (fun j hj => ?_) ?_ ?_
      · rw [GS_ne hn, q_up_ne _ _ _ _ (by omega), q_up_ne _ _ _ _ (by omega)]
      · unfold GS
        rw [q_up_ne _ _ _ _ (by decide), q_up_ne2 _ _ _ hj, q_up_ne _ _ _ _ (by decide), q_up_ne2 _ _ _ hj, q_up_ne2 _ _ _ hj, q_up_ne _ _ _ _ (by decide), q_up_ne2 _ _ _ hj, q_up_ne _ _ _ _ (by decide)]
        exact ⟨rfl, rfl⟩
      · unfold GS
        rw [q_up_ne _ _ _ _ (by decide), q_up_eq]
      · unfold GS
        rw [q_up_eq]
    · have eg : gdr G pl V k = (-1, -1) := by unfold gdr; rw [if_pos (by omega)]
      refine fin _ (fun a i hn => ?_) (fun j hj => ?_) ?_ ?_
      · rw [q_up_ne _ _ _ _ (by omega), q_up_ne _ _ _ _ (by omega)]
      · rw [q_up_ne _ _ _ _ (by decide), q_up_ne2 _ _ _ hj, q_up_ne2 _ _ _ hj, q_up_ne _ _ _ _ (by decide)]
        exact ⟨rfl, rfl⟩
      · rw [q_up_ne _ _ _ _ (by decide), q_up_eq, eg]
      · rw [q_up_eq, eg]
theorem n18 (hc : q_C c) (hk : CK C r G pl V S K Ln) (hp : PRO G pl V S K Ln) (hsh : ∀ j : Int, 0 ≤ j → j < K → r 70 j = shU G pl V (-1) j ∧ r 71 j = shD G pl V (-1) j) (kk : ∀ r', GRI r r' c G pl V K → Q (.inl none) bb (NS c C r')) : qx sc (D + 2) 18 0 [vr 72, vr c, vn, vn] [] (0, 0) bb (NS c C r) Q := by
  simp only [k18_0, k18_1, k18_2, k18_5, k18_6, k18_7, k18_10, k18_11, k18_14, k18_15, NS_lo hc, NS_g hc, NS_f hc, NS_u hc, NS_uf hc, Nat.reduceLT, Nat.reduceLeDiff, Nat.reduceEqDiff, not_false_eq_true]
  refine ⟨by unfold q_C at hc; omega, ?_⟩
  refine c249 qt_75 (by rw [ql_75]; decide) (by rw [ql_75]; decide) ?_
  simp only [q_kn_n, k18_18, k18_19, k18_22, k18_23, ql_75, NS_lo hc, NS_g hc, NS_f hc, NS_u hc, NS_uf hc, Nat.reduceLT, Nat.reduceLeDiff, Nat.reduceEqDiff, not_false_eq_true]
  refine c249 qt_76 (by rw [ql_76]; decide) (by rw [ql_76]; decide) ?_
  simp only [q_kn_n, k18_26, k18_27, ql_76, NS_lo hc, NS_g hc, NS_f hc, NS_u hc, NS_uf hc, Nat.reduceLT, Nat.reduceLeDiff, Nat.reduceEqDiff, not_false_eq_true]
  refine n18_l hc hk hp hsh kk K 0 _ _ (by omega) ⟨fun a i hn => ?_, ?_, fun i hn => ?_, fun j j0 j1 => by omega, ?_, fun l l0 l1 => ⟨?_, ?_⟩⟩
  · rw [q_upf_ne _ _ _ (by omega), q_upf_ne _ _ _ (by omega), q_up_ne _ _ _ _ (by omega), q_up_ne _ _ _ _ (by omega)]
  · rw [q_upf_ne _ _ _ (by omega), q_upf_ne _ _ _ (by omega), q_up_ne2 _ _ _ (by decide), q_up_eq]
  · rw [q_upf_ne _ _ _ (by omega), q_upf_ne _ _ _ (by omega), q_up_ne2 _ _ _ (by omega), q_up_ne2 _ _ _ (by omega)]
  · rw [q_upf_ne _ _ _ (by omega), q_upf_ne _ _ _ (by omega), q_up_eq]; rfl
  · rw [q_upf_ne _ _ _ (by omega), q_upf_eq, if_pos ⟨l0, l1⟩]; rfl
  · rw [q_upf_eq, if_pos ⟨l0, l1⟩]; rfl
end GRP
