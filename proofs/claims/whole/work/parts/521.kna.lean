/-! outermost and knows, in the reference -/
section KNA
variable {sc : Nat × (Nat → Int32)} {D : Nat} {bb : Bool} {Q : QP} {V S K Ln Cn v : Nat} {σ σ' σ0 : St} {G : GT} {pl q : Int → Int} {b n x y wo i M k l root : Int}
def mnr (G : GT) (root b : Int) : Int := if b = -1 then -1 else if root < (gP G b).1 then 0 else 1
theorem gd_mnr : ∀ (n : Nat) (l : Int) (p : Int × Int), p.2 = mnr G root p.1 → (gd G root n l p).2 = mnr G root (gd G root n l p).1 := by
  intro n
  induction n with
  | zero => intro l p h; exact h
  | succ n ih =>
    intro l p h
    rw [gd]
    by_cases e : l = -1
    · rw [if_pos e]; exact h
    · rw [if_neg e]
      refine ih _ _ ?_
      unfold gd1
      split
      · rename_i g
        unfold mnr
        dsimp only
        rw [if_neg e, if_pos g]
      · rename_i g
        split
        · unfold mnr
          dsimp only
          rw [if_neg e, if_neg g]
        · exact h
theorem m198_l (hp : PRO G pl V S K Ln) (hk : RK σ G pl V S K Ln Cn) (hS : STN σ G V) (k0 : 0 ≤ k) (k1 : k < K) (ab : Int) : ∀ (n : Nat) (l : Int) (p : Int × Int), PD G n l → (l = -1 ∨ (0 ≤ l ∧ l < Ln)) → (∀ l4, qx sc (D + 1) 198 51 [vr 136, vi k, vi ab, vi (gd G (RT G (gC G k).1).1 n l p).1, l4] [] (0, 0) bb σ Q) → qx sc (D + 1) 198 10 [vr 136, vi k, vi ab, vi p.1, vi l] [] (0, 0) bb σ Q := by
  intro n
  induction n with
  | zero =>
    intro l p hpd hl kk
    have e : l = -1 := hpd
    subst e
    rw [k198_10]
    simp only [k198_12, k198_13, true_implies, false_implies, not_true_eq_false, not_false_eq_true, true_and, and_true, implies_true, or_true, true_or, or_false, false_or, Int.reduceEq, Int.one_ne_zero, Nat.reduceEqDiff]
    exact kk _
  | succ n ih =>
    intro l p hpd hl kk
    rw [gd] at kk
    rw [k198_10]
    simp only [k198_12, k198_13]
    refine ⟨fun e => ?_, fun e => ?_⟩
    · rw [if_pos e] at kk; exact kk _
    · rw [if_neg e] at kk
      have hl' : 0 ≤ l ∧ l < Ln := by omega
      have l00 : 0 ≤ l := hl'.1
      have hpd' : PD G n (gL G l).2 := by
        rcases hpd with h | h
        · exact absurd h e
        · exact h.2
      obtain ⟨w1, w2, w3, w4, -⟩ := PRO_l hp hl'.1 hl'.2
      have hbd := hp.2.1
      have l40 : l < 40 := by omega
      have e161 : σ 161 l = (gL G l).2 := (hk.2.2.2.2.1 l hl'.1 hl'.2).1.2
      have fin : ∀ p', p' = gd1 G (RT G (gC G k).1).1 l p → qx sc (D + 1) 198 39 [vr 136, vi k, vi ab, vi p'.1, vi l] [] (0, 0) bb σ Q := by
        intro p' hp'
        subst hp'
        simp only [k198_39, k198_40, k198_43, k198_45, k198_46, k198_48, qt_1, ql_1, qt_2, ql_2, qt_3, ql_3, qt_6, ql_6, qt_7, ql_7, qt_8, ql_8, qt_10, ql_10, qt_11, ql_11, qt_12, ql_12, qt_13, ql_13, qt_14, ql_14, qt_15, ql_15, qt_16, ql_16, qt_17, ql_17, qt_18, ql_18, qt_19, ql_19, qt_20, ql_20, qt_21, ql_21, qt_22, ql_22, qt_23, ql_23, qt_24, ql_24, qt_25, ql_25, qt_26, ql_26, qt_28, ql_28, qt_29, ql_29, qt_30, ql_30, qt_31, ql_31, qt_32, ql_32, qt_33, ql_33, qt_34, ql_34, qt_35, ql_35, qt_36, ql_36, qt_37, ql_37, qt_38, ql_38, qt_40, ql_40, qt_41, ql_41, qt_42, ql_42, qt_43, ql_43, qt_44, ql_44, qt_45, ql_45, qt_46, ql_46, qt_47, ql_47, qt_48, ql_48, qt_49, ql_49, qt_50, ql_50, qt_51, ql_51, qt_52, ql_52, qt_53, ql_53, qt_54, ql_54, qt_56, ql_56, qt_57, ql_57, qt_58, ql_58, qt_59, ql_59, qt_60, ql_60, qt_61, ql_61, qt_62, ql_62, qt_63, ql_63, qt_64, ql_64, qt_65, ql_65, qt_67, ql_67, qt_68, ql_68, qt_69, ql_69, qt_70, ql_70, qt_71, ql_71, qt_73, ql_73, qt_74, ql_74, qt_75, ql_75, qt_76, ql_76, qt_78, ql_78, qt_79, ql_79, qt_80, ql_80, qt_81, ql_81, qt_82, ql_82, qt_83, ql_83, qt_84, ql_84, qt_85, ql_85, qt_86, ql_86, qt_87, ql_87, qt_89, ql_89, qt_90, ql_90, qt_91, ql_91, qt_92, ql_92, qt_93, ql_93, qt_94, ql_94, qt_95, ql_95, qt_96, ql_96, qt_97, ql_97, qt_98, ql_98, qt_99, ql_99, qt_100, ql_100, qt_101, ql_101, qt_102, ql_102, qt_103, ql_103, qt_105, ql_105, qt_106, ql_106, qt_107, ql_107, qt_108, ql_108, qt_109, ql_109, qt_110, ql_110, qt_111, ql_111, qt_113, ql_113, qt_114, ql_114, qt_115, ql_115, qt_116, ql_116, qt_117, ql_117, qt_118, ql_118, qt_119, ql_119, qt_120, ql_120, qt_121, ql_121, qt_122, ql_122, qt_123, ql_123, qt_124, ql_124, qt_125, ql_125, qt_126, ql_126, qt_127, ql_127, qt_129, ql_129, qt_130, ql_130, qt_131, ql_131, qt_132, ql_132, qt_133, ql_133, qt_134, ql_134, qt_135, ql_135, qt_137, ql_137, qt_138, ql_138, qt_139, ql_139, qt_140, ql_140, qt_141, ql_141, qt_142, ql_142, qt_143, ql_143, qt_144, ql_144, qt_145, ql_145, qt_146, ql_146, qt_147, ql_147, qt_148, ql_148, qt_149, ql_149, qt_150, ql_150, qt_151, ql_151, qt_152, ql_152, qt_153, ql_153, qt_154, ql_154, qt_155, ql_155, qt_156, ql_156, qt_157, ql_157, qt_158, ql_158, qt_159, ql_159, qt_160, ql_160, qt_161, ql_161, qt_162, ql_162, qt_163, ql_163, qt_164, ql_164, qt_165, ql_165, qt_166, ql_166, qt_167, ql_167, qt_168, ql_168, qt_169, ql_169, qt_170, ql_170, qt_171, ql_171, qt_172, ql_172, qt_173, ql_173, qt_174, ql_174, qt_175, ql_175, qt_176, ql_176, qt_177, ql_177, qt_178, ql_178, qt_179, ql_179, qt_180, ql_180, qt_181, ql_181, qt_182, ql_182, qt_183, ql_183, qt_184, ql_184, qt_185, ql_185, qt_186, ql_186, qt_187, ql_187, qt_188, ql_188, true_implies, false_implies, not_true_eq_false, not_false_eq_true, true_and, and_true, implies_true, or_true, true_or, or_false, false_or, Int.reduceEq, Int.one_ne_zero, Nat.reduceEqDiff, l00, l40, e161]
        exact ih _ _ hpd' (by omega) kk
      simp only [k198_16, k198_17, k198_19, k198_20]
      refine m161 hp hk hS k0 k1 hl'.1 hl'.2 (fun g => ?_) (fun g => ?_)
      · simp only [q_kn_v, k198_23, k198_36, k198_38, true_implies, false_implies, not_true_eq_false, not_false_eq_true, true_and, and_true, implies_true, or_true, true_or, or_false, false_or, Int.reduceEq, Int.one_ne_zero, Nat.reduceEqDiff]
        exact fin (l, 0) (by unfold gd1; rw [if_pos g])
      · simp only [q_kn_v, k198_23, k198_26, k198_27, k198_29, k198_30, true_implies, false_implies, not_true_eq_false, not_false_eq_true, true_and, and_true, implies_true, or_true, true_or, or_false, false_or, Int.reduceEq, Int.one_ne_zero, Nat.reduceEqDiff]
        refine m160 hp hk hS k0 k1 hl'.1 hl'.2 (fun h => ?_) (fun h => ?_)
        · simp only [q_kn_v, k198_33, k198_36, k198_38, true_implies, false_implies, not_true_eq_false, not_false_eq_true, true_and, and_true, implies_true, or_true, true_or, or_false, false_or, Int.reduceEq, Int.one_ne_zero, Nat.reduceEqDiff]
          exact fin (l, 1) (by unfold gd1; rw [if_neg g, if_pos h])
        · simp only [q_kn_v, k198_33, true_implies, false_implies, not_true_eq_false, not_false_eq_true, true_and, and_true, implies_true, or_true, true_or, or_false, false_or, Int.reduceEq, Int.one_ne_zero, Nat.reduceEqDiff]
          exact fin p (by unfold gd1; rw [if_neg g, if_neg h])
/-- outermost -/
theorem m198 (hp : PRO G pl V S K Ln) (hk : RK σ G pl V S K Ln Cn) (hS : STN σ G V) (k0 : 0 ≤ k) (k1 : k < K) (ab : Int) (ka : ab = 0 → Q (.inl (some (vi (gd G (RT G (gC G k).1).1 5 (gC G k).2.2 (-1, -1)).1))) bb σ) (kb : ab = 1 → Q (.inl (some (vi (gd G (RT G (gC G k).1).1 5 (gC G k).2.2 (-1, -1)).2))) bb σ) (h01 : ab = 0 ∨ ab = 1) : qx sc (D + 1) 198 0 [vr 136, vi k, vi ab, vn, vn] [] (0, 0) bb σ Q := by
  obtain ⟨⟨w1, w2, w3, w4, w5, -⟩, pd, b1, b2⟩ := PRO_k hp k0 k1
  have hbd := hp.2.1
  have k40 : k < 40 := by omega
  have e159 : σ 159 k = (gC G k).2.2 := (hk.2.2.2.1 k k0 k1).2.2.2
  have hm := gd_mnr (G := G) (root := (RT G (gC G k).1).1) 5 (gC G k).2.2 (-1, -1) rfl
  have hr := gd_rng (root := (RT G (gC G k).1).1) hp 5 (gC G k).2.2 (-1, -1) (by omega) (Or.inl rfl)
  simp only [k198_0, k198_1, k198_2, k198_3, k198_6, k198_7, k198_8, qt_1, ql_1, qt_2, ql_2, qt_3, ql_3, qt_6, ql_6, qt_7, ql_7, qt_8, ql_8, qt_10, ql_10, qt_11, ql_11, qt_12, ql_12, qt_13, ql_13, qt_14, ql_14, qt_15, ql_15, qt_16, ql_16, qt_17, ql_17, qt_18, ql_18, qt_19, ql_19, qt_20, ql_20, qt_21, ql_21, qt_22, ql_22, qt_23, ql_23, qt_24, ql_24, qt_25, ql_25, qt_26, ql_26, qt_28, ql_28, qt_29, ql_29, qt_30, ql_30, qt_31, ql_31, qt_32, ql_32, qt_33, ql_33, qt_34, ql_34, qt_35, ql_35, qt_36, ql_36, qt_37, ql_37, qt_38, ql_38, qt_40, ql_40, qt_41, ql_41, qt_42, ql_42, qt_43, ql_43, qt_44, ql_44, qt_45, ql_45, qt_46, ql_46, qt_47, ql_47, qt_48, ql_48, qt_49, ql_49, qt_50, ql_50, qt_51, ql_51, qt_52, ql_52, qt_53, ql_53, qt_54, ql_54, qt_56, ql_56, qt_57, ql_57, qt_58, ql_58, qt_59, ql_59, qt_60, ql_60, qt_61, ql_61, qt_62, ql_62, qt_63, ql_63, qt_64, ql_64, qt_65, ql_65, qt_67, ql_67, qt_68, ql_68, qt_69, ql_69, qt_70, ql_70, qt_71, ql_71, qt_73, ql_73, qt_74, ql_74, qt_75, ql_75, qt_76, ql_76, qt_78, ql_78, qt_79, ql_79, qt_80, ql_80, qt_81, ql_81, qt_82, ql_82, qt_83, ql_83, qt_84, ql_84, qt_85, ql_85, qt_86, ql_86, qt_87, ql_87, qt_89, ql_89, qt_90, ql_90, qt_91, ql_91, qt_92, ql_92, qt_93, ql_93, qt_94, ql_94, qt_95, ql_95, qt_96, ql_96, qt_97, ql_97, qt_98, ql_98, qt_99, ql_99, qt_100, ql_100, qt_101, ql_101, qt_102, ql_102, qt_103, ql_103, qt_105, ql_105, qt_106, ql_106, qt_107, ql_107, qt_108, ql_108, qt_109, ql_109, qt_110, ql_110, qt_111, ql_111, qt_113, ql_113, qt_114, ql_114, qt_115, ql_115, qt_116, ql_116, qt_117, ql_117, qt_118, ql_118, qt_119, ql_119, qt_120, ql_120, qt_121, ql_121, qt_122, ql_122, qt_123, ql_123, qt_124, ql_124, qt_125, ql_125, qt_126, ql_126, qt_127, ql_127, qt_129, ql_129, qt_130, ql_130, qt_131, ql_131, qt_132, ql_132, qt_133, ql_133, qt_134, ql_134, qt_135, ql_135, qt_137, ql_137, qt_138, ql_138, qt_139, ql_139, qt_140, ql_140, qt_141, ql_141, qt_142, ql_142, qt_143, ql_143, qt_144, ql_144, qt_145, ql_145, qt_146, ql_146, qt_147, ql_147, qt_148, ql_148, qt_149, ql_149, qt_150, ql_150, qt_151, ql_151, qt_152, ql_152, qt_153, ql_153, qt_154, ql_154, qt_155, ql_155, qt_156, ql_156, qt_157, ql_157, qt_158, ql_158, qt_159, ql_159, qt_160, ql_160, qt_161, ql_161, qt_162, ql_162, qt_163, ql_163, qt_164, ql_164, qt_165, ql_165, qt_166, ql_166, qt_167, ql_167, qt_168, ql_168, qt_169, ql_169, qt_170, ql_170, qt_171, ql_171, qt_172, ql_172, qt_173, ql_173, qt_174, ql_174, qt_175, ql_175, qt_176, ql_176, qt_177, ql_177, qt_178, ql_178, qt_179, ql_179, qt_180, ql_180, qt_181, ql_181, qt_182, ql_182, qt_183, ql_183, qt_184, ql_184, qt_185, ql_185, qt_186, ql_186, qt_187, ql_187, qt_188, ql_188, true_implies, false_implies, not_true_eq_false, not_false_eq_true, true_and, and_true, implies_true, or_true, true_or, or_false, false_or, Int.reduceEq, Int.one_ne_zero, Nat.reduceEqDiff, k0, k40, e159]
  refine m198_l hp hk hS k0 k1 ab 5 (gC G k).2.2 (-1, -1) pd (by omega) (fun l4 => ?_)
  generalize gd G (RT G (gC G k).1).1 5 (gC G k).2.2 (-1, -1) = p at *
  rcases h01 with rfl | rfl
  · simp only [k198_51, k198_52, k198_60, k198_61, k198_78, true_implies, false_implies, not_true_eq_false, not_false_eq_true, true_and, and_true, implies_true, or_true, true_or, or_false, false_or, Int.reduceEq, Int.one_ne_zero, Nat.reduceEqDiff]
    exact ka rfl
  · have kk := kb rfl
    simp only [k198_51, k198_52, k198_55, k198_56, k198_57, k198_60, k198_61, k198_78, true_implies, false_implies, not_true_eq_false, not_false_eq_true, true_and, and_true, implies_true, or_true, true_or, or_false, false_or, Int.reduceEq, Int.one_ne_zero, Nat.reduceEqDiff]
    rw [hm] at kk
    unfold mnr at kk
    refine ⟨fun e => ?_, fun e => ?_⟩
    · rw [if_pos e] at kk; rw [e]; exact kk
    · rw [if_neg e] at kk
      have hr' : 0 ≤ p.1 ∧ p.1 < Ln := by
        rcases hr with h | h
        · rw [h] at e; exact absurd rfl e
        · omega
      simp only [k198_64, k198_65, k198_66, k198_67]
      refine m161 hp hk hS k0 k1 hr'.1 hr'.2 (fun g => ?_) (fun g => ?_)
      · rw [if_pos g] at kk
        simp only [q_kn_v, k198_70, k198_73, k198_74, k198_78, true_implies, false_implies, not_true_eq_false, not_false_eq_true, true_and, and_true, implies_true, or_true, true_or, or_false, false_or, Int.reduceEq, Int.one_ne_zero, Nat.reduceEqDiff]
        exact kk
      · rw [if_neg g] at kk
        simp only [q_kn_v, k198_70, k198_77, k198_78, true_implies, false_implies, not_true_eq_false, not_false_eq_true, true_and, and_true, implies_true, or_true, true_or, or_false, false_or, Int.reduceEq, Int.one_ne_zero, Nat.reduceEqDiff]
        exact kk
/-- all that the reference knows -/
def KNW (σ : St) (G : GT) (pl : Int → Int) (V : Nat) (k : Nat) : Prop := ∀ j : Int, 0 ≤ j → j < k → (σ 178 j = shD G pl V (-1) j ∧ σ 179 j = shU G pl V (-1) j) ∧ σ 176 j = (gdr G pl V j).1 ∧ σ 177 j = (gdr G pl V j).2
theorem m171_l (hp : PRO G pl V S K Ln) (hk : RK σ0 G pl V S K Ln Cn) (hB : BALL σ0 G pl V (-1)) (hS : STN σ0 G V) (kk : ∀ σ, KNW σ G pl V K → (∀ a i, ¬ (176 ≤ a ∧ a ≤ 179) → σ a i = σ0 a i) → Q (.inl none) bb σ) : ∀ (d k : Nat) (σ : St) (l2 : V2), k + d = K → KNW σ G pl V k → (∀ a i, ¬ (176 ≤ a ∧ a ≤ 179) → σ a i = σ0 a i) → qx sc (D + 2) 171 11 [vr 136, vi k, l2] [] (0, 0) bb σ Q := by
  have hbd := hp.2.1
  have hRK : ∀ σ, (∀ a i, ¬ (176 ≤ a ∧ a ≤ 179) → σ a i = σ0 a i) → RK σ G pl V S K Ln Cn ∧ BALL σ G pl V (-1) ∧ STN σ G V := fun σ hF => ⟨RK_of hk (fun a i ha => hF a i (by omega)), fun k' h1 w hw => by rw [hF _ _ (by omega)]; exact hB k' h1 w hw, fun w hw => by rw [hF _ _ (by omega), hF _ _ (by omega)]; exact hS w hw⟩
  intro d
  induction d with
  | zero =>
    intro k σ l2 hkd hN hF
    have e : k = K := by omega
    subst e
    have e16 : σ 136 16 = k := by rw [hF _ _ (by omega)]; exact hk.1.2.2.2.1
    rw [k171_11]
    simp only [k171_12, k171_13, k171_16, k171_113, e16]
    exact ⟨fun hh => by omega, fun _ => kk σ hN hF⟩
  | succ d ih =>
    intro k σ l2 hkd hN hF
    have kK : (k : Int) < K := by omega
    have k0 : (0 : Int) ≤ (k : Int) := by omega
    have k40 : (k : Int) < 40 := by omega
    have e16 : σ 136 16 = K := by rw [hF _ _ (by omega)]; exact hk.1.2.2.2.1
    have u01 := shU_01 (G := G) (pl := pl) (V := V) (wo := -1) (k := k)
    have d01 := shD_01 (G := G) (pl := pl) (V := V) (wo := -1) (k := k)
    rw [k171_11]
    simp only [k171_12, k171_13, k171_16, k171_19, k171_20, k171_23, k171_24, k171_25, k171_26, k171_27, e16, kK, true_implies, false_implies, not_true_eq_false, not_false_eq_true, true_and, and_true, implies_true, or_true, true_or, or_false, false_or, Int.reduceEq, Int.one_ne_zero, Nat.reduceEqDiff]
    obtain ⟨a1, a2, a3⟩ := hRK σ hF
    refine m165 hp a1 a2 k0 kK 0 (fun h => absurd h (by decide)) (fun _ => ?_) (Or.inl rfl)
    simp only [q_kn_v, k171_30, k171_31, k171_32, k171_35, k171_36, k171_37, k171_38, k171_39, qt_1, ql_1, qt_2, ql_2, qt_3, ql_3, qt_6, ql_6, qt_7, ql_7, qt_8, ql_8, qt_10, ql_10, qt_11, ql_11, qt_12, ql_12, qt_13, ql_13, qt_14, ql_14, qt_15, ql_15, qt_16, ql_16, qt_17, ql_17, qt_18, ql_18, qt_19, ql_19, qt_20, ql_20, qt_21, ql_21, qt_22, ql_22, qt_23, ql_23, qt_24, ql_24, qt_25, ql_25, qt_26, ql_26, qt_28, ql_28, qt_29, ql_29, qt_30, ql_30, qt_31, ql_31, qt_32, ql_32, qt_33, ql_33, qt_34, ql_34, qt_35, ql_35, qt_36, ql_36, qt_37, ql_37, qt_38, ql_38, qt_40, ql_40, qt_41, ql_41, qt_42, ql_42, qt_43, ql_43, qt_44, ql_44, qt_45, ql_45, qt_46, ql_46, qt_47, ql_47, qt_48, ql_48, qt_49, ql_49, qt_50, ql_50, qt_51, ql_51, qt_52, ql_52, qt_53, ql_53, qt_54, ql_54, qt_56, ql_56, qt_57, ql_57, qt_58, ql_58, qt_59, ql_59, qt_60, ql_60, qt_61, ql_61, qt_62, ql_62, qt_63, ql_63, qt_64, ql_64, qt_65, ql_65, qt_67, ql_67, qt_68, ql_68, qt_69, ql_69, qt_70, ql_70, qt_71, ql_71, qt_73, ql_73, qt_74, ql_74, qt_75, ql_75, qt_76, ql_76, qt_78, ql_78, qt_79, ql_79, qt_80, ql_80, qt_81, ql_81, qt_82, ql_82, qt_83, ql_83, qt_84, ql_84, qt_85, ql_85, qt_86, ql_86, qt_87, ql_87, qt_89, ql_89, qt_90, ql_90, qt_91, ql_91, qt_92, ql_92, qt_93, ql_93, qt_94, ql_94, qt_95, ql_95, qt_96, ql_96, qt_97, ql_97, qt_98, ql_98, qt_99, ql_99, qt_100, ql_100, qt_101, ql_101, qt_102, ql_102, qt_103, ql_103, qt_105, ql_105, qt_106, ql_106, qt_107, ql_107, qt_108, ql_108, qt_109, ql_109, qt_110, ql_110, qt_111, ql_111, qt_113, ql_113, qt_114, ql_114, qt_115, ql_115, qt_116, ql_116, qt_117, ql_117, qt_118, ql_118, qt_119, ql_119, qt_120, ql_120, qt_121, ql_121, qt_122, ql_122, qt_123, ql_123, qt_124, ql_124, qt_125, ql_125, qt_126, ql_126, qt_127, ql_127, qt_129, ql_129, qt_130, ql_130, qt_131, ql_131, qt_132, ql_132, qt_133, ql_133, qt_134, ql_134, qt_135, ql_135, qt_137, ql_137, qt_138, ql_138, qt_139, ql_139, qt_140, ql_140, qt_141, ql_141, qt_142, ql_142, qt_143, ql_143, qt_144, ql_144, qt_145, ql_145, qt_146, ql_146, qt_147, ql_147, qt_148, ql_148, qt_149, ql_149, qt_150, ql_150, qt_151, ql_151, qt_152, ql_152, qt_153, ql_153, qt_154, ql_154, qt_155, ql_155, qt_156, ql_156, qt_157, ql_157, qt_158, ql_158, qt_159, ql_159, qt_160, ql_160, qt_161, ql_161, qt_162, ql_162, qt_163, ql_163, qt_164, ql_164, qt_165, ql_165, qt_166, ql_166, qt_167, ql_167, qt_168, ql_168, qt_169, ql_169, qt_170, ql_170, qt_171, ql_171, qt_172, ql_172, qt_173, ql_173, qt_174, ql_174, qt_175, ql_175, qt_176, ql_176, qt_177, ql_177, qt_178, ql_178, qt_179, ql_179, qt_180, ql_180, qt_181, ql_181, qt_182, ql_182, qt_183, ql_183, qt_184, ql_184, qt_185, ql_185, qt_186, ql_186, qt_187, ql_187, qt_188, ql_188, true_implies, false_implies, not_true_eq_false, not_false_eq_true, true_and, and_true, implies_true, or_true, true_or, or_false, false_or, Int.reduceEq, Int.one_ne_zero, Nat.reduceEqDiff, k0, k40]
    refine ⟨by omega, ?_⟩
    have hF1 : ∀ a i, ¬ (176 ≤ a ∧ a ≤ 179) → q_up σ 178 k (shD G pl V (-1) k) a i = σ0 a i := fun a i ha => by rw [q_up_ne _ _ _ _ (by omega)]; exact hF a i ha
    obtain ⟨b1, b2, b3⟩ := hRK _ hF1
    refine m165 hp b1 b2 k0 kK 1 (fun _ => ?_) (fun h => absurd h (by decide)) (Or.inr rfl)
    simp only [q_kn_v, k171_42, qt_1, ql_1, qt_2, ql_2, qt_3, ql_3, qt_6, ql_6, qt_7, ql_7, qt_8, ql_8, qt_10, ql_10, qt_11, ql_11, qt_12, ql_12, qt_13, ql_13, qt_14, ql_14, qt_15, ql_15, qt_16, ql_16, qt_17, ql_17, qt_18, ql_18, qt_19, ql_19, qt_20, ql_20, qt_21, ql_21, qt_22, ql_22, qt_23, ql_23, qt_24, ql_24, qt_25, ql_25, qt_26, ql_26, qt_28, ql_28, qt_29, ql_29, qt_30, ql_30, qt_31, ql_31, qt_32, ql_32, qt_33, ql_33, qt_34, ql_34, qt_35, ql_35, qt_36, ql_36, qt_37, ql_37, qt_38, ql_38, qt_40, ql_40, qt_41, ql_41, qt_42, ql_42, qt_43, ql_43, qt_44, ql_44, qt_45, ql_45, qt_46, ql_46, qt_47, ql_47, qt_48, ql_48, qt_49, ql_49, qt_50, ql_50, qt_51, ql_51, qt_52, ql_52, qt_53, ql_53, qt_54, ql_54, qt_56, ql_56, qt_57, ql_57, qt_58, ql_58, qt_59, ql_59, qt_60, ql_60, qt_61, ql_61, qt_62, ql_62, qt_63, ql_63, qt_64, ql_64, qt_65, ql_65, qt_67, ql_67, qt_68, ql_68, qt_69, ql_69, qt_70, ql_70, qt_71, ql_71, qt_73, ql_73, qt_74, ql_74, qt_75, ql_75, qt_76, ql_76, qt_78, ql_78, qt_79, ql_79, qt_80, ql_80, qt_81, ql_81, qt_82, ql_82, qt_83, ql_83, qt_84, ql_84, qt_85, ql_85, qt_86, ql_86, qt_87, ql_87, qt_89, ql_89, qt_90, ql_90, qt_91, ql_91, qt_92, ql_92, qt_93, ql_93, qt_94, ql_94, qt_95, ql_95, qt_96, ql_96, qt_97, ql_97, qt_98, ql_98, qt_99, ql_99, qt_100, ql_100, qt_101, ql_101, qt_102, ql_102, qt_103, ql_103, qt_105, ql_105, qt_106, ql_106, qt_107, ql_107, qt_108, ql_108, qt_109, ql_109, qt_110, ql_110, qt_111, ql_111, qt_113, ql_113, qt_114, ql_114, qt_115, ql_115, qt_116, ql_116, qt_117, ql_117, qt_118, ql_118, qt_119, ql_119, qt_120, ql_120, qt_121, ql_121, qt_122, ql_122, qt_123, ql_123, qt_124, ql_124, qt_125, ql_125, qt_126, ql_126, qt_127, ql_127, qt_129, ql_129, qt_130, ql_130, qt_131, ql_131, qt_132, ql_132, qt_133, ql_133, qt_134, ql_134, qt_135, ql_135, qt_137, ql_137, qt_138, ql_138, qt_139, ql_139, qt_140, ql_140, qt_141, ql_141, qt_142, ql_142, qt_143, ql_143, qt_144, ql_144, qt_145, ql_145, qt_146, ql_146, qt_147, ql_147, qt_148, ql_148, qt_149, ql_149, qt_150, ql_150, qt_151, ql_151, qt_152, ql_152, qt_153, ql_153, qt_154, ql_154, qt_155, ql_155, qt_156, ql_156, qt_157, ql_157, qt_158, ql_158, qt_159, ql_159, qt_160, ql_160, qt_161, ql_161, qt_162, ql_162, qt_163, ql_163, qt_164, ql_164, qt_165, ql_165, qt_166, ql_166, qt_167, ql_167, qt_168, ql_168, qt_169, ql_169, qt_170, ql_170, qt_171, ql_171, qt_172, ql_172, qt_173, ql_173, qt_174, ql_174, qt_175, ql_175, qt_176, ql_176, qt_177, ql_177, qt_178, ql_178, qt_179, ql_179, qt_180, ql_180, qt_181, ql_181, qt_182, ql_182, qt_183, ql_183, qt_184, ql_184, qt_185, ql_185, qt_186, ql_186, qt_187, ql_187, qt_188, ql_188, true_implies, false_implies, not_true_eq_false, not_false_eq_true, true_and, and_true, implies_true, or_true, true_or, or_false, false_or, Int.reduceEq, Int.one_ne_zero, Nat.reduceEqDiff, k0, k40]
    refine ⟨by omega, ?_⟩
    have hF2 : ∀ a i, ¬ (176 ≤ a ∧ a ≤ 179) → q_up (q_up σ 178 k (shD G pl V (-1) k)) 179 k (shU G pl V (-1) k) a i = σ0 a i := fun a i ha => by rw [q_up_ne _ _ _ _ (by omega)]; exact hF1 a i ha
    generalize hσ2 : q_up (q_up σ 178 k (shD G pl V (-1) k)) 179 k (shU G pl V (-1) k) = σ2 at *
    have q178 : σ2 178 k = shD G pl V (-1) k := by rw [← hσ2, q_up_ne _ _ _ _ (by decide), q_up_eq]
    have q179 : σ2 179 k = shU G pl V (-1) k := by rw [← hσ2, q_up_eq]
    obtain ⟨c1, c2, c3⟩ := hRK _ hF2
    -- the end of a turn
    have nxt : ∀ (l2 : V2) (σ3 : St), σ3 = q_up (q_up σ2 176 k (gdr G pl V k).1) 177 k (gdr G pl V k).2 → qx sc (D + 2) 171 107 [vr 136, vi k, l2] [] (0, 0) bb σ3 Q := by
      intro l2 σ3 h3
      simp only [k171_107, k171_110]
      refine ⟨by omega, ?_⟩
      have := ih (k + 1) σ3 l2 (by omega) (fun j j0 j1 => ?_) (fun a i ha => ?_)
      · rw [Int.natCast_add] at this
        exact this
      · rw [h3]
        by_cases e : j = k
        · subst e
          refine ⟨⟨?_, ?_⟩, ?_, ?_⟩
          · rw [q_up_ne _ _ _ _ (by decide), q_up_ne _ _ _ _ (by decide)]; exact q178
          · rw [q_up_ne _ _ _ _ (by decide), q_up_ne _ _ _ _ (by decide)]; exact q179
          · rw [q_up_ne _ _ _ _ (by decide), q_up_eq]
          · rw [q_up_eq]
        · obtain ⟨⟨g1, g2⟩, g3, g4⟩ := hN j j0 (by omega)
          refine ⟨⟨?_, ?_⟩, ?_, ?_⟩
          · rw [q_up_ne _ _ _ _ (by decide), q_up_ne _ _ _ _ (by decide), ← hσ2, q_up_ne _ _ _ _ (by decide), q_up_ne2 _ _ _ e]; exact g1
          · rw [q_up_ne _ _ _ _ (by decide), q_up_ne _ _ _ _ (by decide), ← hσ2, q_up_ne2 _ _ _ e, q_up_ne _ _ _ _ (by decide)]; exact g2
          · rw [q_up_ne _ _ _ _ (by decide), q_up_ne2 _ _ _ e, ← hσ2, q_up_ne _ _ _ _ (by decide), q_up_ne _ _ _ _ (by decide)]; exact g3
          · rw [q_up_ne2 _ _ _ e, q_up_ne _ _ _ _ (by decide), ← hσ2, q_up_ne _ _ _ _ (by decide), q_up_ne _ _ _ _ (by decide)]; exact g4
      · rw [h3, q_up_ne _ _ _ _ (by omega), q_up_ne _ _ _ _ (by omega)]; exact hF2 a i ha
    -- open or not
    have op : ¬ shU G pl V (-1) k + shD G pl V (-1) k = 2 → qx sc (D + 2) 171 61 [vr 136, vi k, l2] [] (0, 0) bb σ2 Q := by
      intro ho
      have eg : gdr G pl V k = gd G (RT G (gC G k).1).1 5 (gC G k).2.2 (-1, -1) := by unfold gdr; rw [if_neg ho]
      simp only [k171_61, k171_62, k171_66, k171_67, k171_68, k171_71, k171_72, k171_73, k171_76, k171_77, k171_78, k171_79, true_implies, false_implies, not_true_eq_false, not_false_eq_true, true_and, and_true, implies_true, or_true, true_or, or_false, false_or, Int.reduceEq, Int.one_ne_zero, Nat.reduceEqDiff]
      refine m198 hp c1 c3 k0 kK 0 (fun _ => ?_) (fun h => absurd h (by decide)) (Or.inl rfl)
      rw [← eg]
      simp only [q_kn_v, k171_82, k171_86, k171_87, k171_88, k171_91, k171_92, k171_93, k171_96, k171_97, k171_98, k171_99, qt_1, ql_1, qt_2, ql_2, qt_3, ql_3, qt_6, ql_6, qt_7, ql_7, qt_8, ql_8, qt_10, ql_10, qt_11, ql_11, qt_12, ql_12, qt_13, ql_13, qt_14, ql_14, qt_15, ql_15, qt_16, ql_16, qt_17, ql_17, qt_18, ql_18, qt_19, ql_19, qt_20, ql_20, qt_21, ql_21, qt_22, ql_22, qt_23, ql_23, qt_24, ql_24, qt_25, ql_25, qt_26, ql_26, qt_28, ql_28, qt_29, ql_29, qt_30, ql_30, qt_31, ql_31, qt_32, ql_32, qt_33, ql_33, qt_34, ql_34, qt_35, ql_35, qt_36, ql_36, qt_37, ql_37, qt_38, ql_38, qt_40, ql_40, qt_41, ql_41, qt_42, ql_42, qt_43, ql_43, qt_44, ql_44, qt_45, ql_45, qt_46, ql_46, qt_47, ql_47, qt_48, ql_48, qt_49, ql_49, qt_50, ql_50, qt_51, ql_51, qt_52, ql_52, qt_53, ql_53, qt_54, ql_54, qt_56, ql_56, qt_57, ql_57, qt_58, ql_58, qt_59, ql_59, qt_60, ql_60, qt_61, ql_61, qt_62, ql_62, qt_63, ql_63, qt_64, ql_64, qt_65, ql_65, qt_67, ql_67, qt_68, ql_68, qt_69, ql_69, qt_70, ql_70, qt_71, ql_71, qt_73, ql_73, qt_74, ql_74, qt_75, ql_75, qt_76, ql_76, qt_78, ql_78, qt_79, ql_79, qt_80, ql_80, qt_81, ql_81, qt_82, ql_82, qt_83, ql_83, qt_84, ql_84, qt_85, ql_85, qt_86, ql_86, qt_87, ql_87, qt_89, ql_89, qt_90, ql_90, qt_91, ql_91, qt_92, ql_92, qt_93, ql_93, qt_94, ql_94, qt_95, ql_95, qt_96, ql_96, qt_97, ql_97, qt_98, ql_98, qt_99, ql_99, qt_100, ql_100, qt_101, ql_101, qt_102, ql_102, qt_103, ql_103, qt_105, ql_105, qt_106, ql_106, qt_107, ql_107, qt_108, ql_108, qt_109, ql_109, qt_110, ql_110, qt_111, ql_111, qt_113, ql_113, qt_114, ql_114, qt_115, ql_115, qt_116, ql_116, qt_117, ql_117, qt_118, ql_118, qt_119, ql_119, qt_120, ql_120, qt_121, ql_121, qt_122, ql_122, qt_123, ql_123, qt_124, ql_124, qt_125, ql_125, qt_126, ql_126, qt_127, ql_127, qt_129, ql_129, qt_130, ql_130, qt_131, ql_131, qt_132, ql_132, qt_133, ql_133, qt_134, ql_134, qt_135, ql_135, qt_137, ql_137, qt_138, ql_138, qt_139, ql_139, qt_140, ql_140, qt_141, ql_141, qt_142, ql_142, qt_143, ql_143, qt_144, ql_144, qt_145, ql_145, qt_146, ql_146, qt_147, ql_147, qt_148, ql_148, qt_149, ql_149, qt_150, ql_150, qt_151, ql_151, qt_152, ql_152, qt_153, ql_153, qt_154, ql_154, qt_155, ql_155, qt_156, ql_156, qt_157, ql_157, qt_158, ql_158, qt_159, ql_159, qt_160, ql_160, qt_161, ql_161, qt_162, ql_162, qt_163, ql_163, qt_164, ql_164, qt_165, ql_165, qt_166, ql_166, qt_167, ql_167, qt_168, ql_168, qt_169, ql_169, qt_170, ql_170, qt_171, ql_171, qt_172, ql_172, qt_173, ql_173, qt_174, ql_174, qt_175, ql_175, qt_176, ql_176, qt_177, ql_177, qt_178, ql_178, qt_179, ql_179, qt_180, ql_180, qt_181, ql_181, qt_182, ql_182, qt_183, ql_183, qt_184, ql_184, qt_185, ql_185, qt_186, ql_186, qt_187, ql_187, qt_188, ql_188, true_implies, false_implies, not_true_eq_false, not_false_eq_true, true_and, and_true, implies_true, or_true, true_or, or_false, false_or, Int.reduceEq, Int.one_ne_zero, Nat.reduceEqDiff, k0, k40]
      have hF3 : ∀ a i, ¬ (176 ≤ a ∧ a ≤ 179) → q_up σ2 176 k (gdr G pl V k).1 a i = σ0 a i := fun a i ha => by rw [q_up_ne _ _ _ _ (by omega)]; exact hF2 a i ha
      obtain ⟨d1, d2, d3⟩ := hRK _ hF3
      refine m198 hp d1 d3 k0 kK 1 (fun h => absurd h (by decide)) (fun _ => ?_) (Or.inr rfl)
      rw [← eg]
      simp only [q_kn_v, k171_102, k171_106, qt_1, ql_1, qt_2, ql_2, qt_3, ql_3, qt_6, ql_6, qt_7, ql_7, qt_8, ql_8, qt_10, ql_10, qt_11, ql_11, qt_12, ql_12, qt_13, ql_13, qt_14, ql_14, qt_15, ql_15, qt_16, ql_16, qt_17, ql_17, qt_18, ql_18, qt_19, ql_19, qt_20, ql_20, qt_21, ql_21, qt_22, ql_22, qt_23, ql_23, qt_24, ql_24, qt_25, ql_25, qt_26, ql_26, qt_28, ql_28, qt_29, ql_29, qt_30, ql_30, qt_31, ql_31, qt_32, ql_32, qt_33, ql_33, qt_34, ql_34, qt_35, ql_35, qt_36, ql_36, qt_37, ql_37, qt_38, ql_38, qt_40, ql_40, qt_41, ql_41, qt_42, ql_42, qt_43, ql_43, qt_44, ql_44, qt_45, ql_45, qt_46, ql_46, qt_47, ql_47, qt_48, ql_48, qt_49, ql_49, qt_50, ql_50, qt_51, ql_51, qt_52, ql_52, qt_53, ql_53, qt_54, ql_54, qt_56, ql_56, qt_57, ql_57, qt_58, ql_58, qt_59, ql_59, qt_60, ql_60, qt_61, ql_61, qt_62, ql_62, qt_63, ql_63, qt_64, ql_64, qt_65, ql_65, qt_67, ql_67, qt_68, ql_68, qt_69, ql_69, qt_70, ql_70, qt_71, ql_71, qt_73, ql_73, qt_74, ql_74, qt_75, ql_75, qt_76, ql_76, qt_78, ql_78, qt_79, ql_79, qt_80, ql_80, qt_81, ql_81, qt_82, ql_82, qt_83, ql_83, qt_84, ql_84, qt_85, ql_85, qt_86, ql_86, qt_87, ql_87, qt_89, ql_89, qt_90, ql_90, qt_91, ql_91, qt_92, ql_92, qt_93, ql_93, qt_94, ql_94, qt_95, ql_95, qt_96, ql_96, qt_97, ql_97, qt_98, ql_98, qt_99, ql_99, qt_100, ql_100, qt_101, ql_101, qt_102, ql_102, qt_103, ql_103, qt_105, ql_105, qt_106, ql_106, qt_107, ql_107, qt_108, ql_108, qt_109, ql_109, qt_110, ql_110, qt_111, ql_111, qt_113, ql_113, qt_114, ql_114, qt_115, ql_115, qt_116, ql_116, qt_117, ql_117, qt_118, ql_118, qt_119, ql_119, qt_120, ql_120, qt_121, ql_121, qt_122, ql_122, qt_123, ql_123, qt_124, ql_124, qt_125, ql_125, qt_126, ql_126, qt_127, ql_127, qt_129, ql_129, qt_130, ql_130, qt_131, ql_131, qt_132, ql_132, qt_133, ql_133, qt_134, ql_134, qt_135, ql_135, qt_137, ql_137, qt_138, ql_138, qt_139, ql_139, qt_140, ql_140, qt_141, ql_141, qt_142, ql_142, qt_143, ql_143, qt_144, ql_144, qt_145, ql_145, qt_146, ql_146, qt_147, ql_147, qt_148, ql_148, qt_149, ql_149, qt_150, ql_150, qt_151, ql_151, qt_152, ql_152, qt_153, ql_153, qt_154, ql_154, qt_155, ql_155, qt_156, ql_156, qt_157, ql_157, qt_158, ql_158, qt_159, ql_159, qt_160, ql_160, qt_161, ql_161, qt_162, ql_162, qt_163, ql_163, qt_164, ql_164, qt_165, ql_165, qt_166, ql_166, qt_167, ql_167, qt_168, ql_168, qt_169, ql_169, qt_170, ql_170, qt_171, ql_171, qt_172, ql_172, qt_173, ql_173, qt_174, ql_174, qt_175, ql_175, qt_176, ql_176, qt_177, ql_177, qt_178, ql_178, qt_179, ql_179, qt_180, ql_180, qt_181, ql_181, qt_182, ql_182, qt_183, ql_183, qt_184, ql_184, qt_185, ql_185, qt_186, ql_186, qt_187, ql_187, qt_188, ql_188, true_implies, false_implies, not_true_eq_false, not_false_eq_true, true_and, and_true, implies_true, or_true, true_or, or_false, false_or, Int.reduceEq, Int.one_ne_zero, Nat.reduceEqDiff, k0, k40]
      exact nxt _ _ rfl
    have cl : shU G pl V (-1) k + shD G pl V (-1) k = 2 → qx sc (D + 2) 171 65 [vr 136, vi k, l2] [] (0, 0) bb σ2 Q := by
      intro ho
      have eg : gdr G pl V k = (-1, -1) := by unfold gdr; rw [if_pos ho]
      simp only [k171_65, k171_66, k171_67, k171_68, k171_71, k171_72, k171_73, k171_85, k171_86, k171_87, k171_88, k171_91, k171_92, k171_93, k171_105, k171_106, qt_1, ql_1, qt_2, ql_2, qt_3, ql_3, qt_6, ql_6, qt_7, ql_7, qt_8, ql_8, qt_10, ql_10, qt_11, ql_11, qt_12, ql_12, qt_13, ql_13, qt_14, ql_14, qt_15, ql_15, qt_16, ql_16, qt_17, ql_17, qt_18, ql_18, qt_19, ql_19, qt_20, ql_20, qt_21, ql_21, qt_22, ql_22, qt_23, ql_23, qt_24, ql_24, qt_25, ql_25, qt_26, ql_26, qt_28, ql_28, qt_29, ql_29, qt_30, ql_30, qt_31, ql_31, qt_32, ql_32, qt_33, ql_33, qt_34, ql_34, qt_35, ql_35, qt_36, ql_36, qt_37, ql_37, qt_38, ql_38, qt_40, ql_40, qt_41, ql_41, qt_42, ql_42, qt_43, ql_43, qt_44, ql_44, qt_45, ql_45, qt_46, ql_46, qt_47, ql_47, qt_48, ql_48, qt_49, ql_49, qt_50, ql_50, qt_51, ql_51, qt_52, ql_52, qt_53, ql_53, qt_54, ql_54, qt_56, ql_56, qt_57, ql_57, qt_58, ql_58, qt_59, ql_59, qt_60, ql_60, qt_61, ql_61, qt_62, ql_62, qt_63, ql_63, qt_64, ql_64, qt_65, ql_65, qt_67, ql_67, qt_68, ql_68, qt_69, ql_69, qt_70, ql_70, qt_71, ql_71, qt_73, ql_73, qt_74, ql_74, qt_75, ql_75, qt_76, ql_76, qt_78, ql_78, qt_79, ql_79, qt_80, ql_80, qt_81, ql_81, qt_82, ql_82, qt_83, ql_83, qt_84, ql_84, qt_85, ql_85, qt_86, ql_86, qt_87, ql_87, qt_89, ql_89, qt_90, ql_90, qt_91, ql_91, qt_92, ql_92, qt_93, ql_93, qt_94, ql_94, qt_95, ql_95, qt_96, ql_96, qt_97, ql_97, qt_98, ql_98, qt_99, ql_99, qt_100, ql_100, qt_101, ql_101, qt_102, ql_102, qt_103, ql_103, qt_105, ql_105, qt_106, ql_106, qt_107, ql_107, qt_108, ql_108, qt_109, ql_109, qt_110, ql_110, qt_111, ql_111, qt_113, ql_113, qt_114, ql_114, qt_115, ql_115, qt_116, ql_116, qt_117, ql_117, qt_118, ql_118, qt_119, ql_119, qt_120, ql_120, qt_121, ql_121, qt_122, ql_122, qt_123, ql_123, qt_124, ql_124, qt_125, ql_125, qt_126, ql_126, qt_127, ql_127, qt_129, ql_129, qt_130, ql_130, qt_131, ql_131, qt_132, ql_132, qt_133, ql_133, qt_134, ql_134, qt_135, ql_135, qt_137, ql_137, qt_138, ql_138, qt_139, ql_139, qt_140, ql_140, qt_141, ql_141, qt_142, ql_142, qt_143, ql_143, qt_144, ql_144, qt_145, ql_145, qt_146, ql_146, qt_147, ql_147, qt_148, ql_148, qt_149, ql_149, qt_150, ql_150, qt_151, ql_151, qt_152, ql_152, qt_153, ql_153, qt_154, ql_154, qt_155, ql_155, qt_156, ql_156, qt_157, ql_157, qt_158, ql_158, qt_159, ql_159, qt_160, ql_160, qt_161, ql_161, qt_162, ql_162, qt_163, ql_163, qt_164, ql_164, qt_165, ql_165, qt_166, ql_166, qt_167, ql_167, qt_168, ql_168, qt_169, ql_169, qt_170, ql_170, qt_171, ql_171, qt_172, ql_172, qt_173, ql_173, qt_174, ql_174, qt_175, ql_175, qt_176, ql_176, qt_177, ql_177, qt_178, ql_178, qt_179, ql_179, qt_180, ql_180, qt_181, ql_181, qt_182, ql_182, qt_183, ql_183, qt_184, ql_184, qt_185, ql_185, qt_186, ql_186, qt_187, ql_187, qt_188, ql_188, true_implies, false_implies, not_true_eq_false, not_false_eq_true, true_and, and_true, implies_true, or_true, true_or, or_false, false_or, Int.reduceEq, Int.one_ne_zero, Nat.reduceEqDiff, k0, k40]
      exact nxt _ _ (by rw [eg])
    simp only [k171_43, k171_44, k171_47, k171_48, k171_49, k171_52, k171_53, k171_56, k171_57, k171_58, qt_1, ql_1, qt_2, ql_2, qt_3, ql_3, qt_6, ql_6, qt_7, ql_7, qt_8, ql_8, qt_10, ql_10, qt_11, ql_11, qt_12, ql_12, qt_13, ql_13, qt_14, ql_14, qt_15, ql_15, qt_16, ql_16, qt_17, ql_17, qt_18, ql_18, qt_19, ql_19, qt_20, ql_20, qt_21, ql_21, qt_22, ql_22, qt_23, ql_23, qt_24, ql_24, qt_25, ql_25, qt_26, ql_26, qt_28, ql_28, qt_29, ql_29, qt_30, ql_30, qt_31, ql_31, qt_32, ql_32, qt_33, ql_33, qt_34, ql_34, qt_35, ql_35, qt_36, ql_36, qt_37, ql_37, qt_38, ql_38, qt_40, ql_40, qt_41, ql_41, qt_42, ql_42, qt_43, ql_43, qt_44, ql_44, qt_45, ql_45, qt_46, ql_46, qt_47, ql_47, qt_48, ql_48, qt_49, ql_49, qt_50, ql_50, qt_51, ql_51, qt_52, ql_52, qt_53, ql_53, qt_54, ql_54, qt_56, ql_56, qt_57, ql_57, qt_58, ql_58, qt_59, ql_59, qt_60, ql_60, qt_61, ql_61, qt_62, ql_62, qt_63, ql_63, qt_64, ql_64, qt_65, ql_65, qt_67, ql_67, qt_68, ql_68, qt_69, ql_69, qt_70, ql_70, qt_71, ql_71, qt_73, ql_73, qt_74, ql_74, qt_75, ql_75, qt_76, ql_76, qt_78, ql_78, qt_79, ql_79, qt_80, ql_80, qt_81, ql_81, qt_82, ql_82, qt_83, ql_83, qt_84, ql_84, qt_85, ql_85, qt_86, ql_86, qt_87, ql_87, qt_89, ql_89, qt_90, ql_90, qt_91, ql_91, qt_92, ql_92, qt_93, ql_93, qt_94, ql_94, qt_95, ql_95, qt_96, ql_96, qt_97, ql_97, qt_98, ql_98, qt_99, ql_99, qt_100, ql_100, qt_101, ql_101, qt_102, ql_102, qt_103, ql_103, qt_105, ql_105, qt_106, ql_106, qt_107, ql_107, qt_108, ql_108, qt_109, ql_109, qt_110, ql_110, qt_111, ql_111, qt_113, ql_113, qt_114, ql_114, qt_115, ql_115, qt_116, ql_116, qt_117, ql_117, qt_118, ql_118, qt_119, ql_119, qt_120, ql_120, qt_121, ql_121, qt_122, ql_122, qt_123, ql_123, qt_124, ql_124, qt_125, ql_125, qt_126, ql_126, qt_127, ql_127, qt_129, ql_129, qt_130, ql_130, qt_131, ql_131, qt_132, ql_132, qt_133, ql_133, qt_134, ql_134, qt_135, ql_135, qt_137, ql_137, qt_138, ql_138, qt_139, ql_139, qt_140, ql_140, qt_141, ql_141, qt_142, ql_142, qt_143, ql_143, qt_144, ql_144, qt_145, ql_145, qt_146, ql_146, qt_147, ql_147, qt_148, ql_148, qt_149, ql_149, qt_150, ql_150, qt_151, ql_151, qt_152, ql_152, qt_153, ql_153, qt_154, ql_154, qt_155, ql_155, qt_156, ql_156, qt_157, ql_157, qt_158, ql_158, qt_159, ql_159, qt_160, ql_160, qt_161, ql_161, qt_162, ql_162, qt_163, ql_163, qt_164, ql_164, qt_165, ql_165, qt_166, ql_166, qt_167, ql_167, qt_168, ql_168, qt_169, ql_169, qt_170, ql_170, qt_171, ql_171, qt_172, ql_172, qt_173, ql_173, qt_174, ql_174, qt_175, ql_175, qt_176, ql_176, qt_177, ql_177, qt_178, ql_178, qt_179, ql_179, qt_180, ql_180, qt_181, ql_181, qt_182, ql_182, qt_183, ql_183, qt_184, ql_184, qt_185, ql_185, qt_186, ql_186, qt_187, ql_187, qt_188, ql_188, true_implies, false_implies, not_true_eq_false, not_false_eq_true, true_and, and_true, implies_true, or_true, true_or, or_false, false_or, Int.reduceEq, Int.one_ne_zero, Nat.reduceEqDiff, k0, k40, q178, q179]
    refine ⟨fun e => op (by omega), fun e => ⟨fun e2 => op (by omega), fun e2 => cl (by omega)⟩⟩
/-- knows -/
theorem m171 (hp : PRO G pl V S K Ln) (hx : VXP G V S K) (hk : RK σ G pl V S K Ln Cn) (kk : ∀ σ', RK σ' G pl V S K Ln Cn → BALL σ' G pl V (-1) → STN σ' G V → KNW σ' G pl V K → σ' 136 54 = -1 → (∀ a i, ¬ (173 ≤ a ∧ a ≤ 179) → ¬ (a = 136 ∧ i = 54) → σ' a i = σ a i) → Q (.inl none) bb σ') : qx sc (D + 6) 171 0 [vr 136, vn, vn] [] (0, 0) bb σ Q := by
  simp only [k171_0, k171_1, k171_2]
  refine m135 hp hx hk (Or.inl ⟨rfl, rfl⟩) (fun σ1 b1 f1 s1 => ?_)
  have rk1 := RK_of (σ' := σ1) hk (fun a i ha => f1 a i (by omega) (by omega))
  simp only [q_kn_n, k171_5, k171_6, k174_0, k174_1]
  refine m174_l hp rk1 (fun σ2 s2 f2 => ?_) V 0 σ1 _ _ (by omega) (fun w hw => by omega) (fun _ _ _ => rfl)
  have rk2 := RK_of (σ' := σ2) rk1 (fun a i ha => f2 a i (by omega))
  have b2 : BALL σ2 G pl V (-1) := fun k' h1 w hw => by rw [f2 _ _ (by omega)]; exact b1 k' h1 w hw
  simp only [q_kn_n, k171_9, k171_10]
  refine m171_l hp rk2 b2 s2 (fun σ3 n3 f3 => kk σ3 (RK_of rk2 (fun a i ha => f3 a i (by omega))) (fun k' h1 w hw => by rw [f3 _ _ (by omega)]; exact b2 k' h1 w hw) (fun w hw => by rw [f3 _ _ (by omega), f3 _ _ (by omega)]; exact s2 w hw) n3 (by rw [f3 _ _ (by omega), f2 _ _ (by omega)]; exact s1) (fun a i n1 n2 => by rw [f3 _ _ (by omega), f2 _ _ (by omega), f1 a i (by omega) n2])) K 0 σ2 _ (by omega) (fun j j0 j1 => by omega) (fun _ _ _ => rfl)
end KNA
