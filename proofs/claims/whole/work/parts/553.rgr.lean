/-! the class runs: goRound; all pieces -/
section RGR
variable {sc : Nat × (Nat → Int32)} {D : Nat} {bb : Bool} {Q : QP} {c V S K Ln : Nat} {C r r' : St} {G : GT} {pl ln : Int → Int} {how s k l x y v m n o i j ar cc nn : Int} {now now1 : Int → Int} {t : TT} {z : SB} {ks ks' : List (Int × Int)} {set : Int} {pA : Int → Int → Int → Int → SO} {gA : NF} {oA : NO} {PA : SO} {vH vA vF cH cA cF : Int} {fA : RF} {dep : Int}
theorem q66_l (hc : q_C c) (hL : LNO pl ln) (ht : VALt pl t) (s0 : 0 ≤ s) (s1 : s < S) (hS : SWH G t set pA gA s k l v cc ar now now1 oA PA nn vH vA vF cH cA cF) (hN : NWI now v) (hNV : NWV G now) (hn1 : NWI now1 vH) (v0 : 0 ≤ v) (hV : vF + nn ≤ V) (l0 : 0 ≤ l) (l1 : l < Ln) (hdep : 0 ≤ dep ∧ dep ≤ 5) (hbit : ∀ x, 0 ≤ x → x ≤ 7 → q_bit set x = 0 → NTL ks x)
    (hA : ∀ σ, GST G pl V K ln vA (l + 1) (v_sn t vH now1) σ → RES G pl V K ln vA (vA + (oA.2.1.length : Nat)) (l + 1) ks oA.1 σ (fA (s + 1) σ))
    (hgo : ∀ r, RCK c C r G pl V S K Ln how → GST G pl V K ln vA (l + 1) (v_sn t vH now1) r → ∀ Q' : QP, Q' (.inl (some (vi (bI (fA (s + 1) r).2)))) bb (NS c C (fA (s + 1) r).1) → qx sc (D + 2) 64 0 [vr 77, vi (s + 1), vi (s + 1 + (PA.1.length : Nat)), vi (dep + 1), vn, vn] [] (0, 0) bb (NS c C r) Q') :
    ∀ (fu : Nat) (r : St), 301 ≤ fu + r 87 2 → fu ≤ 301 → RCK c C r G pl V S K Ln how → LHD G pl V K ln (r 87 2 + 1) (100 * (r 87 2 + 1) + 81) (r 87 2) v l s now1 r → Q (.inl (some (vi (bI (R_lp G fA l s fu r).2)))) bb (NS c C (R_lp G fA l s fu r).1) → qx sc (D + 3) 66 80 [vr 77, vi s, vi dep, vi l, vi (301 - fu)] [] (0, 0) bb (NS c C r) Q := by
  have hS' := hS
  obtain ⟨⟨eA, ePA, e1, en⟩, ⟨x1, x2, x3⟩, -, ⟨hR, hM, hLl, hP⟩, ⟨y1, y2, y3, y4⟩, -, z1, z2, z3, z4⟩ := hS'
  have hR2 : (gR G s).2.2 = t := by rw [hR]
  have hR3 : 3 ≤ (gR G s).1.1 := by rw [hR]; show (3 : Int) ≤ 4; decide
  have hRa : (gR G s).2.1.2.2.2.2 = s + 1 + (PA.1.length : Nat) := by rw [hR]
  have hM2 : (gM G s).2.2.1 = (vH, vF, nn) := by rw [hM]
  have hM1 : (gM G s).2.1 = (v, ((v_many set 8 0 : Nat) : Int)) := by rw [hM]
  have hMn : ¬ (gM G s).2.1.1 = -1 := by rw [hM1]; dsimp only; omega
  have n0 : 0 ≤ nn := by omega
  intro fu
  induction fu with
  | zero =>
    intro r hf _ hk h kk
    have := h.1.2.2.2.2.2.1
    omega
  | succ fu ih =>
    intro r hf hfu hk h kk
    have hp := hk.1.1
    have hb := hp.2.1
    have s40 : s < 40 := by omega
    have l40 : l < 40 := by omega
    have hst := h.1.2.2.2.2.2.1
    have g300 : ¬ (300 : Int) < 301 - ((fu + 1 : Nat) : Int) := by omega
    rw [R_lp] at kk
    rw [k66_80]
    simp only [k66_82, k66_85, k66_88, k66_89, g300, true_implies, false_implies, not_true_eq_false, not_false_eq_true, true_and, and_true, implies_true, or_true, true_or, or_false, false_or, Int.reduceEq, Int.one_ne_zero, Nat.reduceEqDiff]
    refine q74 hc (by omega) ?_
    by_cases hs : r 87 2 < 300
    · rw [R_step_t hs, R_and_t rfl] at kk
      rw [R_step_t hs]
      have h1 := LHD_step h hs
      have e2 : q_up r 87 2 (r 87 2 + 1) 87 2 = r 87 2 + 1 := q_up_eq _ _ _ _
      have hk1 : RCK c C (q_up r 87 2 (r 87 2 + 1)) G pl V S K Ln how := RCK_of hk (RFR_87 (v := 0) (l := 0) (ks := []) (σ := r)).1
      generalize q_up r 87 2 (r 87 2 + 1) = τ at *
      dsimp only at kk
      dsimp only
      rw [hR2, hM1] at kk
      simp only [q_kn_v, k66_92, k66_95, k66_96, k66_97, bI_t, true_implies, false_implies, not_true_eq_false, not_false_eq_true, true_and, and_true, implies_true, or_true, true_or, or_false, false_or, Int.reduceEq, Int.one_ne_zero, Nat.reduceEqDiff]
      refine q60 hc hk1 s0 s1 hR2 hR3 ht hM2 hMn (by omega) (by omega) n0 (by omega) hV ?_
      by_cases hh : R_h t τ = true
      · rw [if_pos hh] at kk
        rw [R_ans_t hR2 hM2 hh] at kk ⊢
        rw [hh]
        have g0 := LHD_body hp hL ht hS hn1 v0 (by omega) l0 h1 hh
        have e3 : R_mk G vH nn τ 87 2 = r 87 2 + 1 := e2
        have g1 := GST_of g0 (st := r 87 2 + 1) e3 (by omega) (by omega) (by omega)
        have hk2 : RCK c C (R_mk G vH nn τ) G pl V S K Ln how := RCK_of hk1 (RFR_mk (v := vH) (l := 0) (ks := []) (Int.le_refl _)).1
        have h82 := hk2.2.1
        have t11 : C 11 s = s + 1 + (PA.1.length : Nat) := by rw [← hRa]; exact (RCK_S hk s0 s1).2.2.2.2.2.2.2.2.2.1
        have R1 : q_R (s + 1) = True := eq_true (by omega)
        have R2 : q_R (dep + 1) = True := eq_true (by omega)
        simp only [q_kn_v, k66_100, k66_112, k66_113, k66_114, k66_115, k66_116, k66_117, k66_120 hc, k66_123, k66_124, k66_125, k66_126, k66_127, k66_128, NS_lo hc, NS_g hc, NS_f hc, NS_u hc, NS_uf hc, Nat.reduceLT, Nat.reduceLeDiff, Nat.reduceEqDiff, not_false_eq_true, qtc_1 hc, qlc_1 hc, qtc_2 hc, qlc_2 hc, qtc_3 hc, qlc_3 hc, qtc_4 hc, qlc_4 hc, qtc_5 hc, qlc_5 hc, qtc_6 hc, qlc_6 hc, qtc_7 hc, qlc_7 hc, qtc_8 hc, qlc_8 hc, qtc_9 hc, qlc_9 hc, qtc_10 hc, qlc_10 hc, qtc_11 hc, qlc_11 hc, qtc_12 hc, qlc_12 hc, qtc_13 hc, qlc_13 hc, qtc_14 hc, qlc_14 hc, qtc_15 hc, qlc_15 hc, qtc_17 hc, qlc_17 hc, qtc_19 hc, qlc_19 hc, qtc_20 hc, qlc_20 hc, qtc_22 hc, qlc_22 hc, qtc_23 hc, qlc_23 hc, qtc_18 hc, qlc_18 hc, qtc_21 hc, qlc_21 hc, c18_0, c18_1, c21_0, c21_1, true_implies, false_implies, not_true_eq_false, not_false_eq_true, true_and, and_true, implies_true, or_true, true_or, or_false, false_or, Int.reduceEq, Int.one_ne_zero, Nat.reduceEqDiff, bI_t, h82, c_nn, Int.toNat_natCast, s0, s40, t11, R1, R2]
        refine hgo _ hk2 g1 _ ?_
        obtain ⟨r1, r2, r3⟩ := hA _ g1
        have hk3 := RES_RCK hk2 (hA _ g1)
        generalize hr : fA (s + 1) (R_mk G vH nn τ) = p at *
        obtain ⟨σ2, bo⟩ := p
        dsimp only at r1 r2 r3 hk3
        cases bo with
        | false =>
          rw [R_and_f rfl] at kk
          simp only [q_kn_v, k66_131, k66_134, k66_135, bI_f, true_implies, false_implies, not_true_eq_false, not_false_eq_true, true_and, and_true, implies_true, or_true, true_or, or_false, false_or, Int.reduceEq, Int.one_ne_zero, Nat.reduceEqDiff]
          exact kk
        | true =>
          rw [R_and_t rfl] at kk
          obtain ⟨g2, ge⟩ := r2 rfl
          dsimp only at kk
          have h3 := LHD_next hp ht hS hN hNV v0 (by omega) l0 hbit h1 r1 g2
          have h3' : LHD G pl V K ln (R_mk G v (v_many set 8 0 : Nat) σ2 87 2 + 1) (100 * (R_mk G v (v_many set 8 0 : Nat) σ2 87 2 + 1) + 81) (R_mk G v (v_many set 8 0 : Nat) σ2 87 2) v l s now1 (R_mk G v (v_many set 8 0 : Nat) σ2) := ⟨BM_le h3.1 (Int.le_refl _) (show 100 * (σ2 87 2 + 1) ≤ 100 * (σ2 87 2 + 1) + 81 by omega) (Int.le_refl _), h3.2⟩
          have e4 : R_mk G v (v_many set 8 0 : Nat) σ2 87 2 = σ2 87 2 := rfl
          have r31 := ((RCK_M hk3 s0 s1).2 hMn).1
          rw [hM1] at r31
          have r31a : σ2 31 s = v := r31.1
          have r32a : σ2 32 s = ((v_many set 8 0 : Nat) : Int) := r31.2
          simp only [q_kn_v, k66_131, k66_136, k66_137, k66_138, k66_141, k66_144, k66_145, k66_146, k66_147, k66_150, k66_153, k66_154, k66_155, NS_lo hc, NS_g hc, NS_f hc, NS_u hc, NS_uf hc, Nat.reduceLT, Nat.reduceLeDiff, Nat.reduceEqDiff, not_false_eq_true, qt_1, ql_1, qt_2, ql_2, qt_3, ql_3, qt_6, ql_6, qt_7, ql_7, qt_8, ql_8, qt_10, ql_10, qt_11, ql_11, qt_12, ql_12, qt_13, ql_13, qt_14, ql_14, qt_15, ql_15, qt_16, ql_16, qt_17, ql_17, qt_18, ql_18, qt_19, ql_19, qt_20, ql_20, qt_21, ql_21, qt_22, ql_22, qt_23, ql_23, qt_24, ql_24, qt_25, ql_25, qt_26, ql_26, qt_28, ql_28, qt_29, ql_29, qt_30, ql_30, qt_31, ql_31, qt_32, ql_32, qt_33, ql_33, qt_34, ql_34, qt_35, ql_35, qt_36, ql_36, qt_37, ql_37, qt_38, ql_38, qt_40, ql_40, qt_41, ql_41, qt_42, ql_42, qt_43, ql_43, qt_44, ql_44, qt_45, ql_45, qt_46, ql_46, qt_47, ql_47, qt_48, ql_48, qt_49, ql_49, qt_50, ql_50, qt_51, ql_51, qt_52, ql_52, qt_53, ql_53, qt_54, ql_54, qt_56, ql_56, qt_57, ql_57, qt_58, ql_58, qt_59, ql_59, qt_60, ql_60, qt_61, ql_61, qt_62, ql_62, qt_63, ql_63, qt_64, ql_64, qt_65, ql_65, qt_67, ql_67, qt_68, ql_68, qt_69, ql_69, qt_70, ql_70, qt_71, ql_71, qt_73, ql_73, qt_74, ql_74, qt_75, ql_75, qt_76, ql_76, qt_78, ql_78, qt_79, ql_79, qt_80, ql_80, qt_81, ql_81, qt_82, ql_82, qt_83, ql_83, qt_84, ql_84, qt_85, ql_85, qt_86, ql_86, qt_87, ql_87, qt_89, ql_89, qt_90, ql_90, qt_91, ql_91, qt_92, ql_92, qt_93, ql_93, qt_94, ql_94, qt_95, ql_95, qt_96, ql_96, qt_97, ql_97, qt_98, ql_98, qt_99, ql_99, qt_100, ql_100, qt_101, ql_101, qt_102, ql_102, qt_103, ql_103, qt_105, ql_105, qt_106, ql_106, qt_107, ql_107, qt_108, ql_108, qt_109, ql_109, qt_110, ql_110, qt_111, ql_111, qt_113, ql_113, qt_114, ql_114, qt_115, ql_115, qt_116, ql_116, qt_117, ql_117, qt_118, ql_118, qt_119, ql_119, qt_120, ql_120, qt_121, ql_121, qt_122, ql_122, qt_123, ql_123, qt_124, ql_124, qt_125, ql_125, qt_126, ql_126, qt_127, ql_127, qt_129, ql_129, qt_130, ql_130, qt_131, ql_131, qt_132, ql_132, qt_133, ql_133, qt_134, ql_134, qt_135, ql_135, qt_137, ql_137, qt_138, ql_138, qt_139, ql_139, qt_140, ql_140, qt_141, ql_141, qt_142, ql_142, qt_143, ql_143, qt_144, ql_144, qt_145, ql_145, qt_146, ql_146, qt_147, ql_147, qt_148, ql_148, qt_149, ql_149, qt_150, ql_150, qt_151, ql_151, qt_152, ql_152, qt_153, ql_153, qt_154, ql_154, qt_155, ql_155, qt_156, ql_156, qt_157, ql_157, qt_158, ql_158, qt_159, ql_159, qt_160, ql_160, qt_161, ql_161, qt_162, ql_162, qt_163, ql_163, qt_164, ql_164, qt_165, ql_165, qt_166, ql_166, qt_167, ql_167, qt_168, ql_168, qt_169, ql_169, qt_170, ql_170, qt_171, ql_171, qt_172, ql_172, qt_173, ql_173, qt_174, ql_174, qt_175, ql_175, qt_176, ql_176, qt_177, ql_177, qt_178, ql_178, qt_179, ql_179, qt_180, ql_180, qt_181, ql_181, qt_182, ql_182, qt_183, ql_183, qt_184, ql_184, qt_185, ql_185, qt_186, ql_186, qt_187, ql_187, qt_188, ql_188, true_implies, false_implies, not_true_eq_false, not_false_eq_true, true_and, and_true, implies_true, or_true, true_or, or_false, false_or, Int.reduceEq, Int.one_ne_zero, Nat.reduceEqDiff, bI_t, s0, s40, r31a, r32a]
          refine q70 hc hk3 v0 (by omega) (by omega) ?_
          have R3 : q_R (301 - ((fu + 1 : Nat) : Int) + 1) = True := eq_true (by omega)
          simp only [q_kn_n, k66_158, k66_161, R3, true_implies, false_implies, not_true_eq_false, not_false_eq_true, true_and, and_true, implies_true, or_true, true_or, or_false, false_or, Int.reduceEq, Int.one_ne_zero, Nat.reduceEqDiff]
          have ef : (301 : Int) - ((fu + 1 : Nat) : Int) + 1 = 301 - (fu : Int) := by omega
          rw [ef]
          exact ih _ (by rw [e4]; omega) (by omega) (RCK_of hk3 (RFR_mk (v := v) (l := 0) (ks := []) (Int.le_refl _)).1) h3' kk
      · rw [if_neg hh] at kk
        rw [R_ans_f hR2 hM2 hh] at kk ⊢
        rw [Bool.eq_false_iff.mpr hh]
        simp only [q_kn_v, k66_100, k66_103, k66_104, k66_107, k66_108, k66_109, k66_110, k66_111, NS_lo hc, NS_g hc, NS_f hc, NS_u hc, NS_uf hc, Nat.reduceLT, Nat.reduceLeDiff, Nat.reduceEqDiff, not_false_eq_true, qt_1, ql_1, qt_2, ql_2, qt_3, ql_3, qt_6, ql_6, qt_7, ql_7, qt_8, ql_8, qt_10, ql_10, qt_11, ql_11, qt_12, ql_12, qt_13, ql_13, qt_14, ql_14, qt_15, ql_15, qt_16, ql_16, qt_17, ql_17, qt_18, ql_18, qt_19, ql_19, qt_20, ql_20, qt_21, ql_21, qt_22, ql_22, qt_23, ql_23, qt_24, ql_24, qt_25, ql_25, qt_26, ql_26, qt_28, ql_28, qt_29, ql_29, qt_30, ql_30, qt_31, ql_31, qt_32, ql_32, qt_33, ql_33, qt_34, ql_34, qt_35, ql_35, qt_36, ql_36, qt_37, ql_37, qt_38, ql_38, qt_40, ql_40, qt_41, ql_41, qt_42, ql_42, qt_43, ql_43, qt_44, ql_44, qt_45, ql_45, qt_46, ql_46, qt_47, ql_47, qt_48, ql_48, qt_49, ql_49, qt_50, ql_50, qt_51, ql_51, qt_52, ql_52, qt_53, ql_53, qt_54, ql_54, qt_56, ql_56, qt_57, ql_57, qt_58, ql_58, qt_59, ql_59, qt_60, ql_60, qt_61, ql_61, qt_62, ql_62, qt_63, ql_63, qt_64, ql_64, qt_65, ql_65, qt_67, ql_67, qt_68, ql_68, qt_69, ql_69, qt_70, ql_70, qt_71, ql_71, qt_73, ql_73, qt_74, ql_74, qt_75, ql_75, qt_76, ql_76, qt_78, ql_78, qt_79, ql_79, qt_80, ql_80, qt_81, ql_81, qt_82, ql_82, qt_83, ql_83, qt_84, ql_84, qt_85, ql_85, qt_86, ql_86, qt_87, ql_87, qt_89, ql_89, qt_90, ql_90, qt_91, ql_91, qt_92, ql_92, qt_93, ql_93, qt_94, ql_94, qt_95, ql_95, qt_96, ql_96, qt_97, ql_97, qt_98, ql_98, qt_99, ql_99, qt_100, ql_100, qt_101, ql_101, qt_102, ql_102, qt_103, ql_103, qt_105, ql_105, qt_106, ql_106, qt_107, ql_107, qt_108, ql_108, qt_109, ql_109, qt_110, ql_110, qt_111, ql_111, qt_113, ql_113, qt_114, ql_114, qt_115, ql_115, qt_116, ql_116, qt_117, ql_117, qt_118, ql_118, qt_119, ql_119, qt_120, ql_120, qt_121, ql_121, qt_122, ql_122, qt_123, ql_123, qt_124, ql_124, qt_125, ql_125, qt_126, ql_126, qt_127, ql_127, qt_129, ql_129, qt_130, ql_130, qt_131, ql_131, qt_132, ql_132, qt_133, ql_133, qt_134, ql_134, qt_135, ql_135, qt_137, ql_137, qt_138, ql_138, qt_139, ql_139, qt_140, ql_140, qt_141, ql_141, qt_142, ql_142, qt_143, ql_143, qt_144, ql_144, qt_145, ql_145, qt_146, ql_146, qt_147, ql_147, qt_148, ql_148, qt_149, ql_149, qt_150, ql_150, qt_151, ql_151, qt_152, ql_152, qt_153, ql_153, qt_154, ql_154, qt_155, ql_155, qt_156, ql_156, qt_157, ql_157, qt_158, ql_158, qt_159, ql_159, qt_160, ql_160, qt_161, ql_161, qt_162, ql_162, qt_163, ql_163, qt_164, ql_164, qt_165, ql_165, qt_166, ql_166, qt_167, ql_167, qt_168, ql_168, qt_169, ql_169, qt_170, ql_170, qt_171, ql_171, qt_172, ql_172, qt_173, ql_173, qt_174, ql_174, qt_175, ql_175, qt_176, ql_176, qt_177, ql_177, qt_178, ql_178, qt_179, ql_179, qt_180, ql_180, qt_181, ql_181, qt_182, ql_182, qt_183, ql_183, qt_184, ql_184, qt_185, ql_185, qt_186, ql_186, qt_187, ql_187, qt_188, ql_188, true_implies, false_implies, not_true_eq_false, not_false_eq_true, true_and, and_true, implies_true, or_true, true_or, or_false, false_or, Int.reduceEq, Int.one_ne_zero, Nat.reduceEqDiff, bI_f, l0, l40]
        exact kk
    · rw [R_step_f hs, R_and_f rfl] at kk
      rw [R_step_f hs]
      simp only [q_kn_v, k66_92, k66_164, k66_165, bI_f, true_implies, false_implies, not_true_eq_false, not_false_eq_true, true_and, and_true, implies_true, or_true, true_or, or_false, false_or, Int.reduceEq, Int.one_ne_zero, Nat.reduceEqDiff]
      exact kk
/-- goRound -/
theorem q66 (hc : q_C c) (hL : LNO pl ln) (ht : VALt pl t) (hk : RCK c C r G pl V S K Ln how) (s0 : 0 ≤ s) (s1 : s < S) (hS : SWH G t set pA gA s k l v cc ar now now1 oA PA nn vH vA vF cH cA cF) (hN : NWI now v) (hNV : NWV G now) (hn1 : NWI now1 vH) (v0 : 0 ≤ v) (hV : vF + nn ≤ V) (l0 : 0 ≤ l) (l1 : l < Ln) (hdep : 0 ≤ dep ∧ dep ≤ 5) (hbit : ∀ x, 0 ≤ x → x ≤ 7 → q_bit set x = 0 → NTL ks x)
    (hA : ∀ σ, GST G pl V K ln vA (l + 1) (v_sn t vH now1) σ → RES G pl V K ln vA (vA + (oA.2.1.length : Nat)) (l + 1) ks oA.1 σ (fA (s + 1) σ))
    (hgo : ∀ r, RCK c C r G pl V S K Ln how → GST G pl V K ln vA (l + 1) (v_sn t vH now1) r → ∀ Q' : QP, Q' (.inl (some (vi (bI (fA (s + 1) r).2)))) bb (NS c C (fA (s + 1) r).1) → qx sc (D + 2) 64 0 [vr 77, vi (s + 1), vi (s + 1 + (PA.1.length : Nat)), vi (dep + 1), vn, vn] [] (0, 0) bb (NS c C r) Q')
    (h : GST G pl V K ln v l now r) (kk : Q (.inl (some (vi (bI (R_wh G pl V K how fA s r).2)))) bb (NS c C (R_wh G pl V K how fA s r).1)) : qx sc (D + 3) 66 0 [vr 77, vi s, vi dep, vn, vn] [] (0, 0) bb (NS c C r) Q := by
  have hS' := hS
  obtain ⟨⟨eA, ePA, e1, en⟩, ⟨x1, x2, x3⟩, -, ⟨hR, hM, hLl, hP⟩, ⟨y1, y2, y3, y4⟩, -, z1, z2, z3, z4⟩ := hS'
  have hp := hk.1.1
  have hb := hp.2.1
  have s40 : s < 40 := by omega
  have l40 : l < 40 := by omega
  have hR2 : (gR G s).2.2 = t := by rw [hR]
  have hR3 : 3 ≤ (gR G s).1.1 := by rw [hR]; show (3 : Int) ≤ 4; decide
  have hRl : (gR G s).2.1.2.1 = l := by rw [hR]
  have hM1 : (gM G s).2.1 = (v, ((v_many set 8 0 : Nat) : Int)) := by rw [hM]
  have hMn : ¬ (gM G s).2.1.1 = -1 := by rw [hM1]; dsimp only; omega
  have hLs : (gL G l).1 = s := by rw [hLl]
  have n0 : 0 ≤ nn := by omega
  have t8 : C 8 s = l := by rw [← hRl]; exact (RCK_S hk s0 s1).2.2.2.2.2.2.1
  have r31 := ((RCK_M hk s0 s1).2 hMn).1
  rw [hM1] at r31
  have r31a : r 31 s = v := r31.1
  have r32a : r 32 s = ((v_many set 8 0 : Nat) : Int) := r31.2
  have h8 := hk.2.1
  unfold R_wh at kk
  rw [hRl, hM1] at kk
  dsimp only at kk
  have hst := h.1.2.2.2.2.2.1
  simp only [k66_0, k66_1, k66_4 hc, k66_7, k66_8, k66_9, k66_10, k66_11, k66_12, k66_15, k66_18, k66_19, k66_20, k66_21, k66_24, k66_27, k66_28, k66_29, NS_lo hc, NS_g hc, NS_f hc, NS_u hc, NS_uf hc, Nat.reduceLT, Nat.reduceLeDiff, Nat.reduceEqDiff, not_false_eq_true, qtc_1 hc, qlc_1 hc, qtc_2 hc, qlc_2 hc, qtc_3 hc, qlc_3 hc, qtc_4 hc, qlc_4 hc, qtc_5 hc, qlc_5 hc, qtc_6 hc, qlc_6 hc, qtc_7 hc, qlc_7 hc, qtc_8 hc, qlc_8 hc, qtc_9 hc, qlc_9 hc, qtc_10 hc, qlc_10 hc, qtc_11 hc, qlc_11 hc, qtc_12 hc, qlc_12 hc, qtc_13 hc, qlc_13 hc, qtc_14 hc, qlc_14 hc, qtc_15 hc, qlc_15 hc, qtc_17 hc, qlc_17 hc, qtc_19 hc, qlc_19 hc, qtc_20 hc, qlc_20 hc, qtc_22 hc, qlc_22 hc, qtc_23 hc, qlc_23 hc, qtc_18 hc, qlc_18 hc, qtc_21 hc, qlc_21 hc, c18_0, c18_1, c21_0, c21_1, qt_1, ql_1, qt_2, ql_2, qt_3, ql_3, qt_6, ql_6, qt_7, ql_7, qt_8, ql_8, qt_10, ql_10, qt_11, ql_11, qt_12, ql_12, qt_13, ql_13, qt_14, ql_14, qt_15, ql_15, qt_16, ql_16, qt_17, ql_17, qt_18, ql_18, qt_19, ql_19, qt_20, ql_20, qt_21, ql_21, qt_22, ql_22, qt_23, ql_23, qt_24, ql_24, qt_25, ql_25, qt_26, ql_26, qt_28, ql_28, qt_29, ql_29, qt_30, ql_30, qt_31, ql_31, qt_32, ql_32, qt_33, ql_33, qt_34, ql_34, qt_35, ql_35, qt_36, ql_36, qt_37, ql_37, qt_38, ql_38, qt_40, ql_40, qt_41, ql_41, qt_42, ql_42, qt_43, ql_43, qt_44, ql_44, qt_45, ql_45, qt_46, ql_46, qt_47, ql_47, qt_48, ql_48, qt_49, ql_49, qt_50, ql_50, qt_51, ql_51, qt_52, ql_52, qt_53, ql_53, qt_54, ql_54, qt_56, ql_56, qt_57, ql_57, qt_58, ql_58, qt_59, ql_59, qt_60, ql_60, qt_61, ql_61, qt_62, ql_62, qt_63, ql_63, qt_64, ql_64, qt_65, ql_65, qt_67, ql_67, qt_68, ql_68, qt_69, ql_69, qt_70, ql_70, qt_71, ql_71, qt_73, ql_73, qt_74, ql_74, qt_75, ql_75, qt_76, ql_76, qt_78, ql_78, qt_79, ql_79, qt_80, ql_80, qt_81, ql_81, qt_82, ql_82, qt_83, ql_83, qt_84, ql_84, qt_85, ql_85, qt_86, ql_86, qt_87, ql_87, qt_89, ql_89, qt_90, ql_90, qt_91, ql_91, qt_92, ql_92, qt_93, ql_93, qt_94, ql_94, qt_95, ql_95, qt_96, ql_96, qt_97, ql_97, qt_98, ql_98, qt_99, ql_99, qt_100, ql_100, qt_101, ql_101, qt_102, ql_102, qt_103, ql_103, qt_105, ql_105, qt_106, ql_106, qt_107, ql_107, qt_108, ql_108, qt_109, ql_109, qt_110, ql_110, qt_111, ql_111, qt_113, ql_113, qt_114, ql_114, qt_115, ql_115, qt_116, ql_116, qt_117, ql_117, qt_118, ql_118, qt_119, ql_119, qt_120, ql_120, qt_121, ql_121, qt_122, ql_122, qt_123, ql_123, qt_124, ql_124, qt_125, ql_125, qt_126, ql_126, qt_127, ql_127, qt_129, ql_129, qt_130, ql_130, qt_131, ql_131, qt_132, ql_132, qt_133, ql_133, qt_134, ql_134, qt_135, ql_135, qt_137, ql_137, qt_138, ql_138, qt_139, ql_139, qt_140, ql_140, qt_141, ql_141, qt_142, ql_142, qt_143, ql_143, qt_144, ql_144, qt_145, ql_145, qt_146, ql_146, qt_147, ql_147, qt_148, ql_148, qt_149, ql_149, qt_150, ql_150, qt_151, ql_151, qt_152, ql_152, qt_153, ql_153, qt_154, ql_154, qt_155, ql_155, qt_156, ql_156, qt_157, ql_157, qt_158, ql_158, qt_159, ql_159, qt_160, ql_160, qt_161, ql_161, qt_162, ql_162, qt_163, ql_163, qt_164, ql_164, qt_165, ql_165, qt_166, ql_166, qt_167, ql_167, qt_168, ql_168, qt_169, ql_169, qt_170, ql_170, qt_171, ql_171, qt_172, ql_172, qt_173, ql_173, qt_174, ql_174, qt_175, ql_175, qt_176, ql_176, qt_177, ql_177, qt_178, ql_178, qt_179, ql_179, qt_180, ql_180, qt_181, ql_181, qt_182, ql_182, qt_183, ql_183, qt_184, ql_184, qt_185, ql_185, qt_186, ql_186, qt_187, ql_187, qt_188, ql_188, true_implies, false_implies, not_true_eq_false, not_false_eq_true, true_and, and_true, implies_true, or_true, true_or, or_false, false_or, Int.reduceEq, Int.one_ne_zero, Nat.reduceEqDiff, h8, c_nn, Int.toNat_natCast, s0, s40, t8, r31a, r32a]
  refine q70 hc hk v0 (by omega) (by omega) ?_
  obtain ⟨a1, a2⟩ := LHD_enter hp hS hN hNV v0 (by omega) l0 l40 h
  have hk1 : RCK c C (R_mk G v (v_many set 8 0 : Nat) r) G pl V S K Ln how := RCK_of hk (RFR_mk (v := v) (l := 0) (ks := []) (Int.le_refl _)).1
  have e4 : R_mk G v (v_many set 8 0 : Nat) r 87 2 = r 87 2 := rfl
  obtain ⟨b1, b2, b3⟩ := R_ent_ok (how := how) (ks := (4, -1) :: ks) hp a1 a2 l0
  rw [e4] at b3
  rw [← b3] at b1
  have hk2 := RCK_of hk1 b2.1
  -- behind what is asked ahead
  have fin : ∀ l4 : V2, qx sc (D + 3) 66 77 [vr 77, vi s, vi dep, vi l, l4] [] (0, 0) bb (NS c C (R_ent G pl V K how l s (R_mk G v (v_many set 8 0 : Nat) r))) Q := by
    intro l4
    simp only [k66_77, k66_78]
    have := q66_l (sc := sc) (bb := bb) (Q := Q) (D := D) hc hL ht s0 s1 hS hN hNV hn1 v0 hV l0 l1 hdep hbit hA hgo 301 _ (by omega) (Nat.le_refl _) hk2 b1 kk
    exact this
  generalize hr1 : R_mk G v (v_many set 8 0 : Nat) r = r1 at *
  have h9 := hk1.2.2
  have r75 : r1 75 l = gdn G pl V K l := (hk1.1.2.2.2.2.2.2.2.2.2.1 l l0 l40).1
  unfold R_ent at fin
  simp only [q_kn_n, k66_32, k66_33, k66_36, k66_37, NS_lo hc, NS_g hc, NS_f hc, NS_u hc, NS_uf hc, Nat.reduceLT, Nat.reduceLeDiff, Nat.reduceEqDiff, not_false_eq_true, true_implies, false_implies, not_true_eq_false, not_false_eq_true, true_and, and_true, implies_true, or_true, true_or, or_false, false_or, Int.reduceEq, Int.one_ne_zero, Nat.reduceEqDiff, h9]
  refine ⟨fun g => ?_, fun g => ?_⟩
  · simp only [k66_40, k66_41, k66_44, k66_47, k66_48, k66_49, NS_lo hc, NS_g hc, NS_f hc, NS_u hc, NS_uf hc, Nat.reduceLT, Nat.reduceLeDiff, Nat.reduceEqDiff, not_false_eq_true, qt_1, ql_1, qt_2, ql_2, qt_3, ql_3, qt_6, ql_6, qt_7, ql_7, qt_8, ql_8, qt_10, ql_10, qt_11, ql_11, qt_12, ql_12, qt_13, ql_13, qt_14, ql_14, qt_15, ql_15, qt_16, ql_16, qt_17, ql_17, qt_18, ql_18, qt_19, ql_19, qt_20, ql_20, qt_21, ql_21, qt_22, ql_22, qt_23, ql_23, qt_24, ql_24, qt_25, ql_25, qt_26, ql_26, qt_28, ql_28, qt_29, ql_29, qt_30, ql_30, qt_31, ql_31, qt_32, ql_32, qt_33, ql_33, qt_34, ql_34, qt_35, ql_35, qt_36, ql_36, qt_37, ql_37, qt_38, ql_38, qt_40, ql_40, qt_41, ql_41, qt_42, ql_42, qt_43, ql_43, qt_44, ql_44, qt_45, ql_45, qt_46, ql_46, qt_47, ql_47, qt_48, ql_48, qt_49, ql_49, qt_50, ql_50, qt_51, ql_51, qt_52, ql_52, qt_53, ql_53, qt_54, ql_54, qt_56, ql_56, qt_57, ql_57, qt_58, ql_58, qt_59, ql_59, qt_60, ql_60, qt_61, ql_61, qt_62, ql_62, qt_63, ql_63, qt_64, ql_64, qt_65, ql_65, qt_67, ql_67, qt_68, ql_68, qt_69, ql_69, qt_70, ql_70, qt_71, ql_71, qt_73, ql_73, qt_74, ql_74, qt_75, ql_75, qt_76, ql_76, qt_78, ql_78, qt_79, ql_79, qt_80, ql_80, qt_81, ql_81, qt_82, ql_82, qt_83, ql_83, qt_84, ql_84, qt_85, ql_85, qt_86, ql_86, qt_87, ql_87, qt_89, ql_89, qt_90, ql_90, qt_91, ql_91, qt_92, ql_92, qt_93, ql_93, qt_94, ql_94, qt_95, ql_95, qt_96, ql_96, qt_97, ql_97, qt_98, ql_98, qt_99, ql_99, qt_100, ql_100, qt_101, ql_101, qt_102, ql_102, qt_103, ql_103, qt_105, ql_105, qt_106, ql_106, qt_107, ql_107, qt_108, ql_108, qt_109, ql_109, qt_110, ql_110, qt_111, ql_111, qt_113, ql_113, qt_114, ql_114, qt_115, ql_115, qt_116, ql_116, qt_117, ql_117, qt_118, ql_118, qt_119, ql_119, qt_120, ql_120, qt_121, ql_121, qt_122, ql_122, qt_123, ql_123, qt_124, ql_124, qt_125, ql_125, qt_126, ql_126, qt_127, ql_127, qt_129, ql_129, qt_130, ql_130, qt_131, ql_131, qt_132, ql_132, qt_133, ql_133, qt_134, ql_134, qt_135, ql_135, qt_137, ql_137, qt_138, ql_138, qt_139, ql_139, qt_140, ql_140, qt_141, ql_141, qt_142, ql_142, qt_143, ql_143, qt_144, ql_144, qt_145, ql_145, qt_146, ql_146, qt_147, ql_147, qt_148, ql_148, qt_149, ql_149, qt_150, ql_150, qt_151, ql_151, qt_152, ql_152, qt_153, ql_153, qt_154, ql_154, qt_155, ql_155, qt_156, ql_156, qt_157, ql_157, qt_158, ql_158, qt_159, ql_159, qt_160, ql_160, qt_161, ql_161, qt_162, ql_162, qt_163, ql_163, qt_164, ql_164, qt_165, ql_165, qt_166, ql_166, qt_167, ql_167, qt_168, ql_168, qt_169, ql_169, qt_170, ql_170, qt_171, ql_171, qt_172, ql_172, qt_173, ql_173, qt_174, ql_174, qt_175, ql_175, qt_176, ql_176, qt_177, ql_177, qt_178, ql_178, qt_179, ql_179, qt_180, ql_180, qt_181, ql_181, qt_182, ql_182, qt_183, ql_183, qt_184, ql_184, qt_185, ql_185, qt_186, ql_186, qt_187, ql_187, qt_188, ql_188, true_implies, false_implies, not_true_eq_false, not_false_eq_true, true_and, and_true, implies_true, or_true, true_or, or_false, false_or, Int.reduceEq, Int.one_ne_zero, Nat.reduceEqDiff, l0, l40, r75]
    refine ⟨fun g2 => ?_, fun g2 => ?_⟩
    · rw [if_pos ⟨g, g2⟩] at fin
      simp only [k66_52, k66_53, k66_54]
      refine q68 (D := D) hc hk1 a1.1 l0 l1 s0 s1 hLs hR2 hR3 ht (by omega) (by omega) ?_
      by_cases hr : (R_ah G pl V l s K 0 r1).2 = true
      · rw [if_pos hr] at fin
        have ra := (R_ah_ok (G := G) (pl := pl) (V := V) (l := l) (s := s) K 0 _ r1 a1.1).2.1
        have c5 := a1.1.2.1.2.1
        have R5 : q_R ((R_ah G pl V l s K 0 r1).1 87 5 + 1) = True := eq_true (by rw [ra 87 5 (by omega)]; omega)
        rw [hr]
        have e5 : ∀ y, q_up (R_ah G pl V l s K 0 r1).1 79 l y 87 5 = (R_ah G pl V l s K 0 r1).1 87 5 := fun _ => rfl
        simp only [q_kn_v, k66_57, k66_60, k66_61, k66_64, k66_65, k66_66, k66_67, k66_68, k66_71, k66_72, k66_73, k66_74, k66_75, k66_76, NS_lo hc, NS_g hc, NS_f hc, NS_u hc, NS_uf hc, Nat.reduceLT, Nat.reduceLeDiff, Nat.reduceEqDiff, not_false_eq_true, qt_1, ql_1, qt_2, ql_2, qt_3, ql_3, qt_6, ql_6, qt_7, ql_7, qt_8, ql_8, qt_10, ql_10, qt_11, ql_11, qt_12, ql_12, qt_13, ql_13, qt_14, ql_14, qt_15, ql_15, qt_16, ql_16, qt_17, ql_17, qt_18, ql_18, qt_19, ql_19, qt_20, ql_20, qt_21, ql_21, qt_22, ql_22, qt_23, ql_23, qt_24, ql_24, qt_25, ql_25, qt_26, ql_26, qt_28, ql_28, qt_29, ql_29, qt_30, ql_30, qt_31, ql_31, qt_32, ql_32, qt_33, ql_33, qt_34, ql_34, qt_35, ql_35, qt_36, ql_36, qt_37, ql_37, qt_38, ql_38, qt_40, ql_40, qt_41, ql_41, qt_42, ql_42, qt_43, ql_43, qt_44, ql_44, qt_45, ql_45, qt_46, ql_46, qt_47, ql_47, qt_48, ql_48, qt_49, ql_49, qt_50, ql_50, qt_51, ql_51, qt_52, ql_52, qt_53, ql_53, qt_54, ql_54, qt_56, ql_56, qt_57, ql_57, qt_58, ql_58, qt_59, ql_59, qt_60, ql_60, qt_61, ql_61, qt_62, ql_62, qt_63, ql_63, qt_64, ql_64, qt_65, ql_65, qt_67, ql_67, qt_68, ql_68, qt_69, ql_69, qt_70, ql_70, qt_71, ql_71, qt_73, ql_73, qt_74, ql_74, qt_75, ql_75, qt_76, ql_76, qt_78, ql_78, qt_79, ql_79, qt_80, ql_80, qt_81, ql_81, qt_82, ql_82, qt_83, ql_83, qt_84, ql_84, qt_85, ql_85, qt_86, ql_86, qt_87, ql_87, qt_89, ql_89, qt_90, ql_90, qt_91, ql_91, qt_92, ql_92, qt_93, ql_93, qt_94, ql_94, qt_95, ql_95, qt_96, ql_96, qt_97, ql_97, qt_98, ql_98, qt_99, ql_99, qt_100, ql_100, qt_101, ql_101, qt_102, ql_102, qt_103, ql_103, qt_105, ql_105, qt_106, ql_106, qt_107, ql_107, qt_108, ql_108, qt_109, ql_109, qt_110, ql_110, qt_111, ql_111, qt_113, ql_113, qt_114, ql_114, qt_115, ql_115, qt_116, ql_116, qt_117, ql_117, qt_118, ql_118, qt_119, ql_119, qt_120, ql_120, qt_121, ql_121, qt_122, ql_122, qt_123, ql_123, qt_124, ql_124, qt_125, ql_125, qt_126, ql_126, qt_127, ql_127, qt_129, ql_129, qt_130, ql_130, qt_131, ql_131, qt_132, ql_132, qt_133, ql_133, qt_134, ql_134, qt_135, ql_135, qt_137, ql_137, qt_138, ql_138, qt_139, ql_139, qt_140, ql_140, qt_141, ql_141, qt_142, ql_142, qt_143, ql_143, qt_144, ql_144, qt_145, ql_145, qt_146, ql_146, qt_147, ql_147, qt_148, ql_148, qt_149, ql_149, qt_150, ql_150, qt_151, ql_151, qt_152, ql_152, qt_153, ql_153, qt_154, ql_154, qt_155, ql_155, qt_156, ql_156, qt_157, ql_157, qt_158, ql_158, qt_159, ql_159, qt_160, ql_160, qt_161, ql_161, qt_162, ql_162, qt_163, ql_163, qt_164, ql_164, qt_165, ql_165, qt_166, ql_166, qt_167, ql_167, qt_168, ql_168, qt_169, ql_169, qt_170, ql_170, qt_171, ql_171, qt_172, ql_172, qt_173, ql_173, qt_174, ql_174, qt_175, ql_175, qt_176, ql_176, qt_177, ql_177, qt_178, ql_178, qt_179, ql_179, qt_180, ql_180, qt_181, ql_181, qt_182, ql_182, qt_183, ql_183, qt_184, ql_184, qt_185, ql_185, qt_186, ql_186, qt_187, ql_187, qt_188, ql_188, true_implies, false_implies, not_true_eq_false, not_false_eq_true, true_and, and_true, implies_true, or_true, true_or, or_false, false_or, Int.reduceEq, Int.one_ne_zero, Nat.reduceEqDiff, bI_t, l0, l40, Int.reduceLE, Int.reduceLT, e5, R5]
        exact fin _
      · rw [if_neg hr] at fin
        rw [Bool.eq_false_iff.mpr hr]
        simp only [q_kn_v, k66_57, bI_f, true_implies, false_implies, not_true_eq_false, not_false_eq_true, true_and, and_true, implies_true, or_true, true_or, or_false, false_or, Int.reduceEq, Int.one_ne_zero, Nat.reduceEqDiff]
        exact fin _
    · rw [if_neg (fun q => g2 q.2)] at fin
      exact fin _
  · rw [if_neg (fun q => g q.1)] at fin
    exact fin _
/-- go -/
theorem q64_e {e lf : V2} (hd : ¬ (5 : Int) < dep) (kk : qx sc D 64 13 [vr 77, vi s, e, vi dep, vi 1, vi s] [] (0, 0) bb (NS c C r) Q) : qx sc D 64 0 [vr 77, vi s, e, vi dep, vn, vn] [] (0, 0) bb (NS c C r) Q := by
  simp only [k64_0, k64_1, k64_2, k64_5, k64_6, k64_7, k64_8, k64_10, k64_11, hd, true_implies, false_implies, not_true_eq_false, not_false_eq_true, true_and, and_true, implies_true, or_true, true_or, or_false, false_or, Int.reduceEq, Int.one_ne_zero, Nat.reduceEqDiff]
  exact kk
end RGR
section RGS
variable {c V S K Ln : Nat} {C : St} {G : GT} {pl ln : Int → Int} {how : Int}
/-- one statement in go; statements in go -/
def CGS (c : Nat) (C : St) (G : GT) (pl ln : Int → Int) (V S K Ln : Nat) (how : Int) : PST := fun d x ar s k l v _ now => ∀ (D dep : Nat) (sc : Nat × (Nat → Int32)) (bb : Bool) (Q : QP) (r : St) (lf e : V2), dep + d ≤ 5 → RCK c C r G pl V S K Ln how → GST G pl V K ln v l now r → qx sc (D + 2 * d + 4) 64 13 [vr 77, lf, e, vi dep, vi (bI (r_S G pl V K how d x s r).2), vi (s + ((s_S d x ar s k l).1.length : Nat))] [] (0, 0) bb (NS c C (r_S G pl V K how d x s r).1) Q → qx sc (D + 2 * d + 4) 64 24 [vr 77, lf, e, vi dep, vi 1, vi s] [] (0, 0) bb (NS c C r) Q
def CGL (c : Nat) (C : St) (G : GT) (pl ln : Int → Int) (V S K Ln : Nat) (how : Int) : PLT := fun d L ar s k l v _ now => ∀ (D dep : Nat) (sc : Nat × (Nat → Int32)) (bb : Bool) (Q : QP) (r : St) (lf : V2), dep + d ≤ 5 → RCK c C r G pl V S K Ln how → GST G pl V K ln v l now r → Q (.inl (some (vi (bI (r_L G pl V K how d L s r).2)))) bb (NS c C (r_L G pl V K how d L s r).1) → qx sc (D + 2 * d + 4) 64 13 [vr 77, lf, vi (s + ((s_L d L ar s k l).1.length : Nat)), vi dep, vi 1, vi s] [] (0, 0) bb (NS c C r) Q
theorem CGO (hc : q_C c) (hp : PRO G pl V S K Ln) (hL : LNO pl ln) : ∀ d : Nat, (∀ x : ST d, VALS pl d x → ∀ ar s k l v cc now, PCX G V S K Ln (s_S d x ar s k l) (n_S d x s k l v cc ar now) ar s k l v cc now → CGS c C G pl ln V S K Ln how d x ar s k l v cc now) ∧ (∀ L : List (ST d), VALl (VALS pl d) L → ∀ ar s k l v cc now, PCX G V S K Ln (s_L d L ar s k l) (n_LL d L s k l v cc ar now) ar s k l v cc now → CGL c C G pl ln V S K Ln how d L ar s k l v cc now) := by
  have hb := hp.2.1
  refine PC_ind (P := CGS c C G pl ln V S K Ln how) (PL := CGL c C G pl ln V S K Ln how) ?_ ?_ ?_ ?_ ?_ ?_
  · intro x ar s k l v cc now hx hcx D dep sc bb Q r lf e hd hk h kk
    have e1 : s + ((s_S 0 x ar s k l).1.length : Int) = s + 1 := rfl
    rw [e1] at kk
    exact g64_b (D := D + 2) hc hL hx hcx hk h kk
  · intro d x ar s k l v cc now hx hcx D dep sc bb Q r lf e hd hk h kk
    have e1 : s + ((s_S (d + 1) (Sum.inl x) ar s k l).1.length : Int) = s + 1 := rfl
    rw [e1] at kk
    exact g64_b (D := D + 2 * (d + 1) + 2) hc hL hx hcx hk h kk
  · intro d t A B ar s k l v cc now ht vA vB hcx oA oB PA PB vA' vF vB' vJ cA cF cB cJ sB kB lB hS cxA cxB hA hB D dep sc bb Q r lf e hd hk h kk
    have hS' := hS
    obtain ⟨⟨eA, ePA, eB, ePB⟩, ⟨x1, x2, x3, x4⟩, -, ⟨w1, w2, w3⟩, ⟨hR, hM⟩, -, -, z1, z2, -⟩ := hS'
    have hcx' := hcx
    obtain ⟨⟨v0, s0, k0, l0⟩, ⟨hN, hnz, hNV⟩, -, ⟨c1, c2, c3, c4⟩, -, -⟩ := hcx
    have hs1 : s < S := by have := cxA.2.2.2.1.1; omega
    have s40 : s < 40 := by omega
    rw [z2] at c4
    have hlen : s + ((s_S (d + 1) (Sum.inr ((false, t), A, B)) ar s k l).1.length : Int) = sB + (PB.1.length : Nat) := by
      have ePB' := ePB
      rw [w1, w2, w3] at ePB'
      rw [s_S_if, s_if_eq (t := t) (ar := ar) (pA := s_L d A ar) (pB := s_L d B ar) ePA ePB']
      dsimp only
      rw [List.length_cons, List.length_append]
      omega
    rw [hlen, r_S_if] at kk
    have haft : (gR G s).2.1.2.2.2.2 = sB + (PB.1.length : Nat) := by rw [hR]
    have hk7 : (gR G s).2.1.1 = -1 := by rw [hR]
    have t2 : C 2 s = 3 := by have := (RCK_S hk s0 hs1).1; rw [hR] at this; exact this
    have h8 := hk.2.1
    have hst := h.1.2.2.2.2.2.1
    have cxA' := cxA
    have cxB' := cxB
    rw [eA, ePA] at cxA'
    rw [eB, ePB] at cxB'
    have rsA := (RES_S (how := how) hp hL d).2 A vA _ _ _ _ _ _ _ cxA'
    have rsB := (RES_S (how := how) hp hL d).2 B vB _ _ _ _ _ _ _ cxB'
    have fin : ∀ (g : Int) (r' : St), RCK c C r' G pl V S K Ln how → qx sc (D + 2 * (d + 1) + 4) 64 13 [vr 77, lf, e, vi dep, vi g, vi (sB + (PB.1.length : Nat))] [] (0, 0) bb (NS c C r') Q → qx sc (D + 2 * (d + 1) + 4) 64 104 [vr 77, lf, e, vi dep, vi g, vi s] [] (0, 0) bb (NS c C r') Q := fun g r' hk' q => g64_t hc hk' s0 hs1 haft (by omega) q
    have ifR : RES G pl V K ln v _ l _ _ r (R_if G (r_L G pl V K how d A) (r_L G pl V K how d B) s r) := RES_if hp hL ht ((KV_S (pl := pl) d).2 A vA) ((KV_S (pl := pl) d).2 B vB) (by have := cxB.2.2.2.1.2.2.1; omega) hcx' hS (by rw [← eA] at rsA; exact rsA) (by rw [← eB] at rsB; exact rsB) h
    have hkf := RES_RCK hk ifR
    unfold R_if at kk hkf
    simp only [k64_24, k64_25, k64_28 hc, k64_31, k64_33, k64_34, k64_35, k64_50, k64_51, NS_lo hc, NS_g hc, NS_f hc, NS_u hc, NS_uf hc, Nat.reduceLT, Nat.reduceLeDiff, Nat.reduceEqDiff, not_false_eq_true, qtc_1 hc, qlc_1 hc, qtc_2 hc, qlc_2 hc, qtc_3 hc, qlc_3 hc, qtc_4 hc, qlc_4 hc, qtc_5 hc, qlc_5 hc, qtc_6 hc, qlc_6 hc, qtc_7 hc, qlc_7 hc, qtc_8 hc, qlc_8 hc, qtc_9 hc, qlc_9 hc, qtc_10 hc, qlc_10 hc, qtc_11 hc, qlc_11 hc, qtc_12 hc, qlc_12 hc, qtc_13 hc, qlc_13 hc, qtc_14 hc, qlc_14 hc, qtc_15 hc, qlc_15 hc, qtc_17 hc, qlc_17 hc, qtc_19 hc, qlc_19 hc, qtc_20 hc, qlc_20 hc, qtc_22 hc, qlc_22 hc, qtc_23 hc, qlc_23 hc, qtc_18 hc, qlc_18 hc, qtc_21 hc, qlc_21 hc, c18_0, c18_1, c21_0, c21_1, true_implies, false_implies, not_true_eq_false, not_false_eq_true, true_and, and_true, implies_true, or_true, true_or, or_false, false_or, Int.reduceEq, Int.one_ne_zero, Nat.reduceEqDiff, h8, c_nn, Int.toNat_natCast, s0, s40, t2]
    refine q74 hc (by omega) ?_
    by_cases hs : r 87 2 < 300
    · rw [R_step_t hs, R_and_t rfl] at kk hkf
      rw [R_step_t hs]
      have h1 := GST_step h hs
      have e2 : q_up r 87 2 (r 87 2 + 1) 87 2 = r 87 2 + 1 := q_up_eq _ _ _ _
      have hk1 : RCK c C (q_up r 87 2 (r 87 2 + 1)) G pl V S K Ln how := RCK_of hk (RFR_87 (v := 0) (l := 0) (ks := []) (σ := r)).1
      generalize q_up r 87 2 (r 87 2 + 1) = τ at *
      dsimp only at kk hkf
      dsimp only
      have bc := h1.1.2.1
      simp only [q_kn_v, k64_54, k64_57, k64_58, k64_60, bI_t, true_implies, false_implies, not_true_eq_false, not_false_eq_true, true_and, and_true, implies_true, or_true, true_or, or_false, false_or, Int.reduceEq, Int.one_ne_zero, Nat.reduceEqDiff]
      refine q71 hc hk1 s0 hs1 (Or.inl hk7) (by have := bc.1; omega) ?_
      rw [R_pass_no hk7]
      have h81 := hk1.2.1
      simp only [q_kn_v, k64_63, k64_72, k64_73, k64_76 hc, k64_79, k64_81, k64_82, k64_83, k64_86, k64_87, k64_89, k64_90, NS_lo hc, NS_g hc, NS_f hc, NS_u hc, NS_uf hc, Nat.reduceLT, Nat.reduceLeDiff, Nat.reduceEqDiff, not_false_eq_true, qtc_1 hc, qlc_1 hc, qtc_2 hc, qlc_2 hc, qtc_3 hc, qlc_3 hc, qtc_4 hc, qlc_4 hc, qtc_5 hc, qlc_5 hc, qtc_6 hc, qlc_6 hc, qtc_7 hc, qlc_7 hc, qtc_8 hc, qlc_8 hc, qtc_9 hc, qlc_9 hc, qtc_10 hc, qlc_10 hc, qtc_11 hc, qlc_11 hc, qtc_12 hc, qlc_12 hc, qtc_13 hc, qlc_13 hc, qtc_14 hc, qlc_14 hc, qtc_15 hc, qlc_15 hc, qtc_17 hc, qlc_17 hc, qtc_19 hc, qlc_19 hc, qtc_20 hc, qlc_20 hc, qtc_22 hc, qlc_22 hc, qtc_23 hc, qlc_23 hc, qtc_18 hc, qlc_18 hc, qtc_21 hc, qlc_21 hc, c18_0, c18_1, c21_0, c21_1, true_implies, false_implies, not_true_eq_false, not_false_eq_true, true_and, and_true, implies_true, or_true, true_or, or_false, false_or, Int.reduceEq, Int.one_ne_zero, Nat.reduceEqDiff, bI_t, h81, c_nn, Int.toNat_natCast, s0, s40, t2]
      have wf : ∀ (a b : Nat), (D + 2 * (d + 1) + 4) = (D + 2 * d + 4) + 2 := fun _ _ => by omega
      refine q65 (D := D + 2 * d + 3) (dep := (dep : Int)) (fA := r_L G pl V K how d A) (fB := r_L G pl V K how d B) hc hL ht hk1 s0 hs1 v0 l0 hN (by omega) (by omega) hS h1 (by rw [e2]; omega) ?_ ?_ (fun q hq a i ha => (rsA q hq).1.1 a i ha) (fun q hq a i ha => (rsB q hq).1.1 a i ha) ?_
      · intro q hkq hq Q' kq
        refine q64_e (lf := vn) (by omega) ?_
        have := hA D (dep + 1) sc bb Q' q (vi (s + 1)) (by omega) hkq hq kq
        rw [← ePA] at this
        exact this
      · intro q hkq hq Q' kq
        refine q64_e (lf := vn) (by omega) ?_
        have := hB D (dep + 1) sc bb Q' q (vi sB) (by omega) hkq hq kq
        rw [← ePB] at this
        exact this
      · simp only [q_kn_v, k64_93, k64_95]
        exact fin _ _ hkf kk
    · rw [R_step_f hs, R_and_f rfl] at kk hkf
      rw [R_step_f hs]
      simp only [q_kn_v, k64_54, k64_66, k64_67, k64_69, bI_f, true_implies, false_implies, not_true_eq_false, not_false_eq_true, true_and, and_true, implies_true, or_true, true_or, or_false, false_or, Int.reduceEq, Int.one_ne_zero, Nat.reduceEqDiff]
      exact fin 0 _ hkf kk
  · intro d t A B ar s k l v cc now ht vA hcx now1 oA PA n' vH vA' vF cH cA cF hS hn1 cxA hA D dep sc bb Q r lf e hd hk h kk
    have hS' := hS
    obtain ⟨⟨eA, ePA, e1, en⟩, ⟨x1, x2, x3⟩, -, ⟨hR, hM, hLl, hP⟩, -, -, z1, z2, -⟩ := hS'
    obtain ⟨⟨v0, s0, k0, l0⟩, ⟨hN, hnz, hNV⟩, -, ⟨c1, c2, c3, c4⟩, -, -⟩ := hcx
    have hs1 : s < S := by have := cxA.2.2.2.1.1; omega
    have hl1 : l < Ln := by have := cxA.2.2.2.1.2.2.1; omega
    have s40 : s < 40 := by omega
    rw [z2] at c4
    have hlen : s + ((s_S (d + 1) (Sum.inr ((true, t), A, B)) ar s k l).1.length : Int) = s + 1 + (PA.1.length : Nat) := by
      rw [s_S_wh, s_wh_eq (t := t) (ar := ar) (pA := s_L d A l) ePA]
      dsimp only
      rw [List.length_cons]
      omega
    rw [hlen, r_S_wh] at kk
    have haft : (gR G s).2.1.2.2.2.2 = s + 1 + (PA.1.length : Nat) := by rw [hR]
    have t2 : C 2 s = 4 := by have := (RCK_S hk s0 hs1).1; rw [hR] at this; exact this
    have h8 := hk.2.1
    have cxA' := cxA
    rw [eA, ePA] at cxA'
    have rsA := (RES_S (how := how) hp hL d).2 A vA _ _ _ _ _ _ _ cxA'
    rw [← eA] at rsA
    have hbit : ∀ x, 0 ≤ x → x ≤ 7 → q_bit (tbits (ks_L d A) 0) x = 0 → NTL (ks_L d A) x := fun x x0 x1 b => NTL_bit (d := d) ((KV_S (pl := pl) d).2 A vA) x0 x1 b
    have whR := RES_wh (how := how) hp hL ht hS hN hNV hn1.1 v0 (by omega) l0 (by omega) hbit rsA h
    have hkf := RES_RCK hk whR
    simp only [k64_24, k64_25, k64_28 hc, k64_31, k64_33, k64_34, k64_35, k64_38, k64_39, k64_41, k64_42, NS_lo hc, NS_g hc, NS_f hc, NS_u hc, NS_uf hc, Nat.reduceLT, Nat.reduceLeDiff, Nat.reduceEqDiff, not_false_eq_true, qtc_1 hc, qlc_1 hc, qtc_2 hc, qlc_2 hc, qtc_3 hc, qlc_3 hc, qtc_4 hc, qlc_4 hc, qtc_5 hc, qlc_5 hc, qtc_6 hc, qlc_6 hc, qtc_7 hc, qlc_7 hc, qtc_8 hc, qlc_8 hc, qtc_9 hc, qlc_9 hc, qtc_10 hc, qlc_10 hc, qtc_11 hc, qlc_11 hc, qtc_12 hc, qlc_12 hc, qtc_13 hc, qlc_13 hc, qtc_14 hc, qlc_14 hc, qtc_15 hc, qlc_15 hc, qtc_17 hc, qlc_17 hc, qtc_19 hc, qlc_19 hc, qtc_20 hc, qlc_20 hc, qtc_22 hc, qlc_22 hc, qtc_23 hc, qlc_23 hc, qtc_18 hc, qlc_18 hc, qtc_21 hc, qlc_21 hc, c18_0, c18_1, c21_0, c21_1, true_implies, false_implies, not_true_eq_false, not_false_eq_true, true_and, and_true, implies_true, or_true, true_or, or_false, false_or, Int.reduceEq, Int.one_ne_zero, Nat.reduceEqDiff, h8, c_nn, Int.toNat_natCast, s0, s40, t2]
    refine q66 (D := D + 2 * d + 2) (dep := (dep : Int)) (fA := r_L G pl V K how d A) hc hL ht hk s0 hs1 hS hN hNV hn1.1 v0 (by omega) l0 hl1 (by omega) hbit rsA ?_ h ?_
    · intro q hkq hq Q' kq
      refine q64_e (lf := vn) (by omega) ?_
      have := hA D (dep + 1) sc bb Q' q (vi (s + 1)) (by omega) hkq hq kq
      rw [← ePA] at this
      exact this
    · simp only [q_kn_v, k64_45, k64_47]
      exact g64_t hc hkf s0 hs1 haft (by omega) kk
  · intro d ar s k l v cc now hcx D dep sc bb Q r lf hd hk h kk
    have e : s + ((s_L d ([] : List (ST d)) ar s k l).1.length : Int) = s := by show s + ((0 : Nat) : Int) = s; omega
    rw [e]
    simp only [k64_13, k64_15, k64_18, k64_20, k64_21, k64_126, k64_128, Int.lt_irrefl, true_implies, false_implies, not_true_eq_false, not_false_eq_true, true_and, and_true, implies_true, or_true, true_or, or_false, false_or, Int.reduceEq, Int.one_ne_zero, Nat.reduceEqDiff]
    exact kk
  · intro d x L ar s k l v cc now vx vL oA PA oB PB eoA ePA eoB ePB en es cxA cxB hx hLl D dep sc bb Q r lf hd hk h kk
    have haft := aft_G cxA.2.2.2.2.2 ePA
    have hpos := s_S_pos d x ar s k l
    rw [← ePA] at hpos
    rw [es]
    unfold so_app
    dsimp only
    rw [List.length_append]
    have hlt : s < s + ((PA.1.length + PB.1.length : Nat) : Int) := by omega
    have hx' := hx D dep sc bb Q r lf (vi (s + ((PA.1.length + PB.1.length : Nat) : Int))) hd hk h
    rw [← ePA] at hx'
    rw [k64_13]
    simp only [k64_15, k64_18, k64_20, k64_21, hlt, true_implies, false_implies, not_true_eq_false, not_false_eq_true, true_and, and_true, implies_true, or_true, true_or, or_false, false_or, Int.reduceEq, Int.one_ne_zero, Nat.reduceEqDiff]
    refine hx' ?_
    have cxA' := cxA
    rw [eoA, ePA] at cxA'
    have rsx := (RES_S (how := how) hp hL d).1 x vx _ _ _ _ _ _ _ cxA' r h
    rw [← eoA] at rsx
    have hkx := RES_RCK hk rsx
    rw [r_L_c, haft] at kk
    obtain ⟨r1, r2, r3⟩ := rsx
    generalize r_S G pl V K how d x s r = p at *
    obtain ⟨σ1, bo⟩ := p
    dsimp only at r1 r2 r3 hkx
    cases bo with
    | false =>
      rw [R_and_f rfl] at kk
      simp only [k64_13, k64_15, k64_126, k64_128, bI_f, true_implies, false_implies, not_true_eq_false, not_false_eq_true, true_and, and_true, implies_true, or_true, true_or, or_false, false_or, Int.reduceEq, Int.one_ne_zero, Nat.reduceEqDiff]
      exact kk
    | true =>
      rw [R_and_t rfl] at kk
      obtain ⟨g1, -⟩ := r2 rfl
      obtain ⟨⟨v0, s0, k0, l0⟩, -, -, ⟨c1, c2, c3, c4⟩, -⟩ := cxA
      have g1' : GST G pl V K ln (v + (oA.2.1.length : Nat)) (l + (PA.2.2.length : Nat)) oA.1 σ1 := ⟨g1.1, fun j j0 j1 => g1.2.1 j (by omega) j1, g1.2.2⟩
      have := hLl D dep sc bb Q σ1 lf hd hkx g1' kk
      rw [← ePB] at this
      rw [show s + ((PA.1.length + PB.1.length : Nat) : Int) = s + (PA.1.length : Nat) + (PB.1.length : Nat) by omega]
      exact this
end RGS
