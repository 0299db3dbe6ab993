section NUN
variable {sc : Nat × (Nat → Int32)} {D : Nat} {bb : Bool} {Q : QP} {c : Nat} {C r r' : St} {v s k l x n ar cc mid aft sv0 sv1 how : Int} {dep : Nat} {pl : Int → Int} {t : TT} {l3 l4 l5 : V2}
/-- ahead is kept, the sides are looked at -/
def C_hd (C r : St) (s : Int) (dep : Nat) : St := C_look C (q_upf r (41 + 1 + dep) (q_cpy (r 40) (r (41 + 1 + dep)) 0 0 8)) s
theorem hd_ok (hd : dep ≤ 5) (h : INN r v) (hk : TSK C s t) (ht : VALt pl t) : INN (C_hd C r s dep) v ∧ TSC C (C_hd C r s dep) s t (v_sv (nz (r 40)) t.2.1) (v_sv (nz (r 40)) t.2.2) ∧ nz (C_hd C r s dep 40) = nz (r 40) ∧ FR4 v (fun j => ¬ j = s) (fun _ => True) dep r (C_hd C r s dep) ∧ (∀ j, 0 ≤ j → j ≤ 7 → C_hd C r s dep (41 + 1 + dep) j = r 40 j) ∧
    (t.2.1.1 = 3 → 0 ≤ v_sv (nz (r 40)) t.2.1 ∧ v_sv (nz (r 40)) t.2.1 < v) ∧ (t.2.2.1 = 3 → 0 ≤ v_sv (nz (r 40)) t.2.2 ∧ v_sv (nz (r 40)) t.2.2 < v) ∧ (∀ a, 30 ≤ a ∧ a ≤ 36 → C_hd C r s dep a s = r a s) := by
  have e40 : ∀ j, q_upf r (41 + 1 + dep) (q_cpy (r 40) (r (41 + 1 + dep)) 0 0 8) 40 j = r 40 j := fun j => q_upf_ne _ _ _ (by omega)
  have n40 : nz (q_upf r (41 + 1 + dep) (q_cpy (r 40) (r (41 + 1 + dep)) 0 0 8) 40) = nz (r 40) := nz_of (fun j _ _ => e40 j)
  have hl := look_C (r := q_upf r (41 + 1 + dep) (q_cpy (r 40) (r (41 + 1 + dep)) 0 0 8)) hk ht
  rw [n40] at hl
  obtain ⟨-, t1, t2⟩ := ht
  unfold VALs at t1 t2
  unfold C_hd
  refine ⟨INN_of h ?_ ?_ ?_, hl, ?_, ?_, ?_, ?_, ?_, ?_⟩
  · rw [look_ne' (by omega), q_upf_ne _ _ _ (by omega)]
  · intro j _ _; rw [look_ne' (by omega), e40]
  · intro j _; rw [look_ne' (by omega), q_upf_ne _ _ _ (by omega)]
  · rw [← n40]; exact nz_of (fun j _ _ => look_ne' (by omega))
  · exact FR4_trans (v := v) (sx := fun j => ¬ j = s) (kx := fun _ => True) (dep := dep) (FR4_cp (v := v) (sx := fun j => ¬ j = s) (kx := fun _ => True) (dep := dep) (by omega)) (look_F (v := v) (sx := fun j => ¬ j = s) (kx := fun _ => True) (dep := dep) (fun j hj => hj)) (Int.le_refl _) (Int.le_refl _) (fun j hj => ⟨hj, hj⟩) (fun j hj => ⟨hj, hj⟩) (Nat.le_refl _) (Nat.le_refl _)
  · intro j j0 j1
    rw [look_ne' (by omega)]
    exact cpy_at j j0 j1
  · intro g
    unfold v_sv
    rw [if_pos g, nz_at (by omega) (by omega)]
    exact h.2.2.1 _ (by omega) (by omega)
  · intro g
    unfold v_sv
    rw [if_pos g, nz_at (by omega) (by omega)]
    exact h.2.2.1 _ (by omega) (by omega)
  · intro a ha
    rw [look_ne' (by omega), q_upf_ne _ _ _ (by omega)]
theorem sd_len (ht : TSC C r s t sv0 sv1) : ((v_sd t sv0 sv1 how s).length : Int) = (if C_o0 C s then 1 else 0) + (if C_o1 C s then 1 else 0) := by
  rw [v_sd_len]
  simp only [own0_iff ht, own1_iff ht]
/-- up to the first block -/
theorem n29_a (hc : q_C c) (hd : dep ≤ 5) (hi : INN r v) (s0 : 0 ≤ s) (s1 : s < 40) (hk : TSK C s t) (ht : VALt pl t) (hm : C 10 s = mid) (hv : v + (v_sd t (v_sv (nz (r 40)) t.2.1) (v_sv (nz (r 40)) t.2.2) 3 s).length ≤ 240)
    (kk : qx sc (D + 3) 28 0 [vr 39, vi (s + 1), vi mid, vi (dep + 1 : Nat), vn] [] (0, 0) bb (NS c C (q_up (C_mk C (C_hd C r s dep) s 3) 33 s v)) (q_kn sc (D + 4) 29 56 [vr 39, vi s, vi dep, vn, vn, vn] [] (0, 0) Q)) :
    qx sc (D + 4) 29 0 [vr 39, vi s, vi dep, vn, vn, vn] [] (0, 0) bb (NS c C r) Q := by
  obtain ⟨h1, h2, h3, h4, h5, w0, w1, h6⟩ := hd_ok (dep := dep) hd hi hk ht
  have f40 : NS c C r 40 = r 40 := funext fun j => NS_lo hc (by decide) (by decide)
  have fA : NS c C r (41 + 1 + dep) = r (41 + 1 + dep) := funext fun j => NS_lo hc (by omega) (by omega)
  have uA : ∀ g, q_upf (NS c C r) (41 + 1 + dep) g = NS c C (q_upf r (41 + 1 + dep) g) := fun g => NS_uf hc (by omega) (by omega)
  have u33 : ∀ r i x, q_up (NS c C r) 33 i x = NS c C (q_up r 33 i x) := fun r i x => NS_u hc (by decide) (by decide)
  have hd0 : (0 : Int) ≤ (dep : Int) := by omega
  have hd6 : (dep : Int) < 6 := by omega
  have e1 : ((dep : Int) + 1) = ((dep + 1 : Nat) : Int) := rfl
  have hle := sd_len (how := 3) h2
  obtain ⟨k1, ⟨k2, k3⟩, ⟨k4, k5⟩⟩ := hk
  have ht' := ht
  obtain ⟨-, t1, t2⟩ := ht'
  unfold VALs at t1 t2
  simp only [k29_0, k29_1, k29_4, k29_5, k29_6, k29_9, k29_10, k29_11, k29_12, k29_14, k29_17, k29_18, k29_19, true_implies, false_implies, not_true_eq_false, not_false_eq_true, true_and, and_true, implies_true, or_true, true_or, or_false, false_or, Int.reduceEq, Int.one_ne_zero, Nat.reduceEqDiff, qt_1, ql_1, qt_2, ql_2, qt_3, ql_3, qt_6, ql_6, qt_7, ql_7, qt_8, ql_8, qt_10, ql_10, qt_11, ql_11, qt_12, ql_12, qt_13, ql_13, qt_14, ql_14, qt_15, ql_15, qt_16, ql_16, qt_17, ql_17, qt_18, ql_18, qt_19, ql_19, qt_20, ql_20, qt_21, ql_21, qt_22, ql_22, qt_23, ql_23, qt_24, ql_24, qt_25, ql_25, qt_26, ql_26, qt_28, ql_28, qt_29, ql_29, qt_30, ql_30, qt_31, ql_31, qt_32, ql_32, qt_33, ql_33, qt_34, ql_34, qt_35, ql_35, qt_36, ql_36, qt_37, ql_37, qt_38, ql_38, qt_40, ql_40, qt_41, ql_41, qt_42, ql_42, qt_43, ql_43, qt_44, ql_44, qt_45, ql_45, qt_46, ql_46, qt_47, ql_47, qt_48, ql_48, qt_49, ql_49, qt_50, ql_50, qt_51, ql_51, qt_52, ql_52, qt_53, ql_53, qt_54, ql_54, qt_56, ql_56, qt_57, ql_57, qt_58, ql_58, qt_59, ql_59, qt_60, ql_60, qt_61, ql_61, qt_62, ql_62, qt_63, ql_63, qt_64, ql_64, qt_65, ql_65, qt_67, ql_67, qt_68, ql_68, qt_69, ql_69, qt_70, ql_70, qt_71, ql_71, qt_73, ql_73, qt_74, ql_74, qt_75, ql_75, qt_76, ql_76, qt_78, ql_78, qt_79, ql_79, qt_80, ql_80, qt_81, ql_81, qt_82, ql_82, qt_83, ql_83, qt_84, ql_84, qt_85, ql_85, qt_86, ql_86, qt_87, ql_87, qt_89, ql_89, qt_90, ql_90, qt_91, ql_91, qt_92, ql_92, qt_93, ql_93, qt_94, ql_94, qt_95, ql_95, qt_96, ql_96, qt_97, ql_97, qt_98, ql_98, qt_99, ql_99, qt_100, ql_100, qt_101, ql_101, qt_102, ql_102, qt_103, ql_103, qt_105, ql_105, qt_106, ql_106, qt_107, ql_107, qt_108, ql_108, qt_109, ql_109, qt_110, ql_110, qt_111, ql_111, qt_113, ql_113, qt_114, ql_114, qt_115, ql_115, qt_116, ql_116, qt_117, ql_117, qt_118, ql_118, qt_119, ql_119, qt_120, ql_120, qt_121, ql_121, qt_122, ql_122, qt_123, ql_123, qt_124, ql_124, qt_125, ql_125, qt_126, ql_126, qt_127, ql_127, qt_129, ql_129, qt_130, ql_130, qt_131, ql_131, qt_132, ql_132, qt_133, ql_133, qt_134, ql_134, qt_135, ql_135, qt_137, ql_137, qt_138, ql_138, qt_139, ql_139, qt_140, ql_140, qt_141, ql_141, qt_142, ql_142, qt_143, ql_143, qt_144, ql_144, qt_145, ql_145, qt_146, ql_146, qt_147, ql_147, qt_148, ql_148, qt_149, ql_149, qt_150, ql_150, qt_151, ql_151, qt_152, ql_152, qt_153, ql_153, qt_154, ql_154, qt_155, ql_155, qt_156, ql_156, qt_157, ql_157, qt_158, ql_158, qt_159, ql_159, qt_160, ql_160, qt_161, ql_161, qt_162, ql_162, qt_163, ql_163, qt_164, ql_164, qt_165, ql_165, qt_166, ql_166, qt_167, ql_167, qt_168, ql_168, qt_169, ql_169, qt_170, ql_170, qt_171, ql_171, qt_172, ql_172, qt_173, ql_173, qt_174, ql_174, qt_175, ql_175, qt_176, ql_176, qt_177, ql_177, qt_178, ql_178, qt_179, ql_179, qt_180, ql_180, qt_181, ql_181, qt_182, ql_182, qt_183, ql_183, qt_184, ql_184, qt_185, ql_185, qt_186, ql_186, qt_187, ql_187, qt_188, ql_188, (qt_ah hd).1, (qt_ah hd).2, hd0, hd6, Int.toNat_natCast, f40, fA, uA, Int.le_refl, Int.reduceLE, Int.zero_add]
  refine n23 hc s0 s1 (fun g => by omega) (fun g => by omega) ?_
  simp only [q_kn_n, k29_22, k29_23, k29_26, k29_29, k29_30, k29_31, k29_32, k29_33]
  rw [show C_look C (q_upf r (41 + 1 + dep) (q_cpy (r 40) (r (41 + 1 + dep)) 0 0 8)) s = C_hd C r s dep from rfl]
  have b17 : ∀ j, 0 ≤ j → j < v → -100000 ≤ C_hd C r s dep 17 j ∧ C_hd C r s dep 17 j ≤ 100000 := fun j j0 j1 => by
    have := h1.2.2.2 j j0 j1
    omega
  refine n25 (v := v) hc h1.1 (by have := h1.2.1; omega) (by omega) s0 s1 (fun g => ?_) (fun g => ?_) ?_
  · rw [h2.2.2.2.1]
    have := w0 (by omega)
    exact ⟨by omega, by omega, this.1, this.2, b17 _ this.1 this.2⟩
  · rw [h2.2.2.2.2]
    have := w1 (by omega)
    exact ⟨by omega, by omega, this.1, this.2, b17 _ this.1 this.2⟩
  · simp only [q_kn_v, k29_36, k29_37, k29_38, k29_39, k29_40, k29_41, k29_42, k29_45 hc, k29_48, k29_49, k29_50, k29_51, k29_52, k29_53, NS_co, c_nn, Int.toNat_natCast, true_implies, false_implies, not_true_eq_false, not_false_eq_true, true_and, and_true, implies_true, or_true, true_or, or_false, false_or, Int.reduceEq, Int.one_ne_zero, Nat.reduceEqDiff, qt_1, ql_1, qt_2, ql_2, qt_3, ql_3, qt_6, ql_6, qt_7, ql_7, qt_8, ql_8, qt_10, ql_10, qt_11, ql_11, qt_12, ql_12, qt_13, ql_13, qt_14, ql_14, qt_15, ql_15, qt_16, ql_16, qt_17, ql_17, qt_18, ql_18, qt_19, ql_19, qt_20, ql_20, qt_21, ql_21, qt_22, ql_22, qt_23, ql_23, qt_24, ql_24, qt_25, ql_25, qt_26, ql_26, qt_28, ql_28, qt_29, ql_29, qt_30, ql_30, qt_31, ql_31, qt_32, ql_32, qt_33, ql_33, qt_34, ql_34, qt_35, ql_35, qt_36, ql_36, qt_37, ql_37, qt_38, ql_38, qt_40, ql_40, qt_41, ql_41, qt_42, ql_42, qt_43, ql_43, qt_44, ql_44, qt_45, ql_45, qt_46, ql_46, qt_47, ql_47, qt_48, ql_48, qt_49, ql_49, qt_50, ql_50, qt_51, ql_51, qt_52, ql_52, qt_53, ql_53, qt_54, ql_54, qt_56, ql_56, qt_57, ql_57, qt_58, ql_58, qt_59, ql_59, qt_60, ql_60, qt_61, ql_61, qt_62, ql_62, qt_63, ql_63, qt_64, ql_64, qt_65, ql_65, qt_67, ql_67, qt_68, ql_68, qt_69, ql_69, qt_70, ql_70, qt_71, ql_71, qt_73, ql_73, qt_74, ql_74, qt_75, ql_75, qt_76, ql_76, qt_78, ql_78, qt_79, ql_79, qt_80, ql_80, qt_81, ql_81, qt_82, ql_82, qt_83, ql_83, qt_84, ql_84, qt_85, ql_85, qt_86, ql_86, qt_87, ql_87, qt_89, ql_89, qt_90, ql_90, qt_91, ql_91, qt_92, ql_92, qt_93, ql_93, qt_94, ql_94, qt_95, ql_95, qt_96, ql_96, qt_97, ql_97, qt_98, ql_98, qt_99, ql_99, qt_100, ql_100, qt_101, ql_101, qt_102, ql_102, qt_103, ql_103, qt_105, ql_105, qt_106, ql_106, qt_107, ql_107, qt_108, ql_108, qt_109, ql_109, qt_110, ql_110, qt_111, ql_111, qt_113, ql_113, qt_114, ql_114, qt_115, ql_115, qt_116, ql_116, qt_117, ql_117, qt_118, ql_118, qt_119, ql_119, qt_120, ql_120, qt_121, ql_121, qt_122, ql_122, qt_123, ql_123, qt_124, ql_124, qt_125, ql_125, qt_126, ql_126, qt_127, ql_127, qt_129, ql_129, qt_130, ql_130, qt_131, ql_131, qt_132, ql_132, qt_133, ql_133, qt_134, ql_134, qt_135, ql_135, qt_137, ql_137, qt_138, ql_138, qt_139, ql_139, qt_140, ql_140, qt_141, ql_141, qt_142, ql_142, qt_143, ql_143, qt_144, ql_144, qt_145, ql_145, qt_146, ql_146, qt_147, ql_147, qt_148, ql_148, qt_149, ql_149, qt_150, ql_150, qt_151, ql_151, qt_152, ql_152, qt_153, ql_153, qt_154, ql_154, qt_155, ql_155, qt_156, ql_156, qt_157, ql_157, qt_158, ql_158, qt_159, ql_159, qt_160, ql_160, qt_161, ql_161, qt_162, ql_162, qt_163, ql_163, qt_164, ql_164, qt_165, ql_165, qt_166, ql_166, qt_167, ql_167, qt_168, ql_168, qt_169, ql_169, qt_170, ql_170, qt_171, ql_171, qt_172, ql_172, qt_173, ql_173, qt_174, ql_174, qt_175, ql_175, qt_176, ql_176, qt_177, ql_177, qt_178, ql_178, qt_179, ql_179, qt_180, ql_180, qt_181, ql_181, qt_182, ql_182, qt_183, ql_183, qt_184, ql_184, qt_185, ql_185, qt_186, ql_186, qt_187, ql_187, qt_188, ql_188, qtc_10 hc, qlc_10 hc, NS_g (j := 10) hc (by decide), hm, s0, s1, u33]
    refine ⟨by omega, by omega, ?_⟩
    rw [e1]
    exact kk
end NUN
