/-! bounds in the reference -/
def enR (b : Int) (o : Option Int) : Int := match o with
  | some a => if b = 3 then -a else a
  | none => if b = 3 then -268435456 else 268435456
def RSM (o : Option Int) : Prop := ∀ a, o = some a → -100000 ≤ a ∧ a ≤ 100000
def RBG (o : Option Int) : Prop := ∀ a, o = some a → -268435456 ≤ a ∧ a ≤ 100000
def mrR (x n : Int) : Int := if x = 268435456 ∨ x = -268435456 then x else x + n
theorem RSM_BG {o : Option Int} (h : RSM o) : RBG o := fun a ha => by have := h a ha; omega
theorem enR_b {b : Int} {o : Option Int} (h : RBG o) : -268435456 ≤ enR b o ∧ enR b o ≤ 268435456 := by
  cases o with
  | none => unfold enR; dsimp only; split <;> omega
  | some a => have := h a rfl; unfold enR; dsimp only; split <;> omega
theorem enR_add {b k : Int} {o : Option Int} (h : RSM o) : mrR (enR b o) (if b = 3 then -k else k) = enR b (l_add o k) := by
  unfold mrR
  cases o with
  | none =>
    unfold l_add enR
    dsimp only
    by_cases b3 : b = 3
    · rw [if_pos b3, if_pos (Or.inr rfl)]
    · rw [if_neg b3, if_pos (Or.inl rfl)]
  | some a =>
    have := h a rfl
    unfold l_add enR
    dsimp only
    by_cases b3 : b = 3
    · simp only [if_pos b3]; rw [if_neg (by omega)]; omega
    · simp only [if_neg b3]; rw [if_neg (by omega)]
theorem enR_min {b : Int} {o p : Option Int} (ho : RBG o) (hp : RBG p) : (if b = 3 then max (enR b o) (enR b p) else min (enR b o) (enR b p)) = enR b (l_min o p) := by
  by_cases b3 : b = 3
  · cases o with
    | none => cases p with
      | none => unfold l_min enR; dsimp only; simp only [if_pos b3]; omega
      | some y => have := hp y rfl; unfold l_min enR; dsimp only; simp only [if_pos b3]; omega
    | some x => cases p with
      | none => have := ho x rfl; unfold l_min enR; dsimp only; simp only [if_pos b3]; omega
      | some y => unfold l_min enR; dsimp only; simp only [if_pos b3]; omega
  · cases o with
    | none => cases p with
      | none => unfold l_min enR; dsimp only; simp only [if_neg b3]; omega
      | some y => have := hp y rfl; unfold l_min enR; dsimp only; simp only [if_neg b3]; omega
    | some x => cases p with
      | none => have := ho x rfl; unfold l_min enR; dsimp only; simp only [if_neg b3]; omega
      | some y => unfold l_min enR; dsimp only; simp only [if_neg b3]
theorem enR_max {b : Int} {o p : Option Int} (ho : RBG o) (hp : RBG p) : (if b = 3 then min (enR b o) (enR b p) else max (enR b o) (enR b p)) = enR b (l_max o p) := by
  by_cases b3 : b = 3
  · cases o with
    | none => cases p with
      | none => unfold l_max enR; dsimp only; simp only [if_pos b3]; omega
      | some y => have := hp y rfl; unfold l_max enR; dsimp only; simp only [if_pos b3]; omega
    | some x => cases p with
      | none => have := ho x rfl; unfold l_max enR; dsimp only; simp only [if_pos b3]; omega
      | some y => unfold l_max enR; dsimp only; simp only [if_pos b3]; omega
  · cases o with
    | none => cases p with
      | none => unfold l_max enR; dsimp only; simp only [if_neg b3]; omega
      | some y => have := hp y rfl; unfold l_max enR; dsimp only; simp only [if_neg b3]; omega
    | some x => cases p with
      | none => have := ho x rfl; unfold l_max enR; dsimp only; simp only [if_neg b3]; omega
      | some y => unfold l_max enR; dsimp only; simp only [if_neg b3]
/-- the reference holds a program's rows -/
def RK (σ : St) (G : GT) (pl : Int → Int) (V S K Ln Cn : Nat) : Prop := (σ 136 13 = bitsOf pl ∧ σ 136 14 = S ∧ σ 136 15 = V ∧ σ 136 16 = K ∧ σ 136 17 = Ln ∧ σ 136 18 = Cn) ∧ (∀ k, k = 0 ∨ k = 1 ∨ k = 2 → σ 141 k = q_of pl k) ∧
  (∀ i : Int, 0 ≤ i → i < S → SRokR σ i (gR G i) ∧ MRokR σ i (gM G i)) ∧ (∀ i : Int, 0 ≤ i → i < K → KRokR σ i (gK G i) ∧ NCok σ i (gC G i)) ∧ (∀ i : Int, 0 ≤ i → i < Ln → LRokR σ i (gL G i) ∧ NPok σ i (gP G i)) ∧ (∀ i : Int, 0 ≤ i → i < V → VRokR σ i (gV G i)) ∧ (∀ i : Int, 0 ≤ i → i < Cn → CDok σ i (gD G i))
def VXP (G : GT) (V S K : Nat) : Prop := ∀ i : Int, 0 ≤ i → i < V → VX G 0 S 0 K i
/-- what a side tells -/
def sdO (q : Int → Int) (b : Int) (X : Nat → Option Int) (k n : Int) : Option Int := if k = 1 then some (if b = 3 then -n else n - q b) else if k = 2 then (if b = 3 then some (-q n) else if b = n then some 0 else none) else X n.toNat
theorem tm_sdO {q : Int → Int} {b : Int} {X : Nat → Option Int} {k n s : Int} (hk : k = 1 ∨ k = 2 ∨ k = 3) : l_tm X (e_tm q b (k, n, s)) = l_add (sdO q b X k n) s := by
  unfold e_tm sdO
  dsimp only
  rcases hk with rfl | rfl | rfl
  · rw [if_pos rfl, if_pos rfl]
    show some _ = some _
    congr 1
    omega
  · simp only [Int.reduceEq, if_true, if_false]
    by_cases b3 : b = 3
    · simp only [if_pos b3]; rfl
    · simp only [if_neg b3]
      by_cases bn : b = n
      · simp only [if_pos bn]; rfl
      · simp only [if_neg bn]; rfl
  · simp only [Int.reduceEq, if_true, if_false]
    rfl
section RFB
variable {sc : Nat × (Nat → Int32)} {D : Nat} {bb : Bool} {Q : QP} {V S K Ln Cn v : Nat} {σ : St} {G : GT} {pl : Int → Int} {b n x y : Int} {Y : Nat → Option Int}
theorem m133 (hb : 0 ≤ b ∧ b ≤ 3) (h0 : 0 ≤ x) (h1 : x < 700) (kk : Q (.inl (some (vi (σ 173 (700 * b + x))))) bb σ) : qx sc D 133 0 [vr 136, vi b, vi x] [] (0, 0) bb σ Q := by
  simp only [k133_0, k133_1, k133_4, k133_7, k133_8, k133_9, k133_10, k133_11, k133_12, qt_1, ql_1, qt_2, ql_2, qt_3, ql_3, qt_6, ql_6, qt_7, ql_7, qt_8, ql_8, qt_10, ql_10, qt_11, ql_11, qt_12, ql_12, qt_13, ql_13, qt_14, ql_14, qt_15, ql_15, qt_16, ql_16, qt_17, ql_17, qt_18, ql_18, qt_19, ql_19, qt_20, ql_20, qt_21, ql_21, qt_22, ql_22, qt_23, ql_23, qt_24, ql_24, qt_25, ql_25, qt_26, ql_26, qt_28, ql_28, qt_29, ql_29, qt_30, ql_30, qt_31, ql_31, qt_32, ql_32, qt_33, ql_33, qt_34, ql_34, qt_35, ql_35, qt_36, ql_36, qt_37, ql_37, qt_38, ql_38, qt_40, ql_40, qt_41, ql_41, qt_42, ql_42, qt_43, ql_43, qt_44, ql_44, qt_45, ql_45, qt_46, ql_46, qt_47, ql_47, qt_48, ql_48, qt_49, ql_49, qt_50, ql_50, qt_51, ql_51, qt_52, ql_52, qt_53, ql_53, qt_54, ql_54, qt_56, ql_56, qt_57, ql_57, qt_58, ql_58, qt_59, ql_59, qt_60, ql_60, qt_61, ql_61, qt_62, ql_62, qt_63, ql_63, qt_64, ql_64, qt_65, ql_65, qt_67, ql_67, qt_68, ql_68, qt_69, ql_69, qt_70, ql_70, qt_71, ql_71, qt_73, ql_73, qt_74, ql_74, qt_75, ql_75, qt_76, ql_76, qt_78, ql_78, qt_79, ql_79, qt_80, ql_80, qt_81, ql_81, qt_82, ql_82, qt_83, ql_83, qt_84, ql_84, qt_85, ql_85, qt_86, ql_86, qt_87, ql_87, qt_89, ql_89, qt_90, ql_90, qt_91, ql_91, qt_92, ql_92, qt_93, ql_93, qt_94, ql_94, qt_95, ql_95, qt_96, ql_96, qt_97, ql_97, qt_98, ql_98, qt_99, ql_99, qt_100, ql_100, qt_101, ql_101, qt_102, ql_102, qt_103, ql_103, qt_105, ql_105, qt_106, ql_106, qt_107, ql_107, qt_108, ql_108, qt_109, ql_109, qt_110, ql_110, qt_111, ql_111, qt_113, ql_113, qt_114, ql_114, qt_115, ql_115, qt_116, ql_116, qt_117, ql_117, qt_118, ql_118, qt_119, ql_119, qt_120, ql_120, qt_121, ql_121, qt_122, ql_122, qt_123, ql_123, qt_124, ql_124, qt_125, ql_125, qt_126, ql_126, qt_127, ql_127, qt_129, ql_129, qt_130, ql_130, qt_131, ql_131, qt_132, ql_132, qt_133, ql_133, qt_134, ql_134, qt_135, ql_135, qt_137, ql_137, qt_138, ql_138, qt_139, ql_139, qt_140, ql_140, qt_141, ql_141, qt_142, ql_142, qt_143, ql_143, qt_144, ql_144, qt_145, ql_145, qt_146, ql_146, qt_147, ql_147, qt_148, ql_148, qt_149, ql_149, qt_150, ql_150, qt_151, ql_151, qt_152, ql_152, qt_153, ql_153, qt_154, ql_154, qt_155, ql_155, qt_156, ql_156, qt_157, ql_157, qt_158, ql_158, qt_159, ql_159, qt_160, ql_160, qt_161, ql_161, qt_162, ql_162, qt_163, ql_163, qt_164, ql_164, qt_165, ql_165, qt_166, ql_166, qt_167, ql_167, qt_168, ql_168, qt_169, ql_169, qt_170, ql_170, qt_171, ql_171, qt_172, ql_172, qt_173, ql_173, qt_174, ql_174, qt_175, ql_175, qt_176, ql_176, qt_177, ql_177, qt_178, ql_178, qt_179, ql_179, qt_180, ql_180, qt_181, ql_181, qt_182, ql_182, qt_183, ql_183, qt_184, ql_184, qt_185, ql_185, qt_186, ql_186, qt_187, ql_187, qt_188, ql_188, true_implies, false_implies, not_true_eq_false, not_false_eq_true, true_and, and_true, implies_true, or_true, true_or, or_false, false_or, Int.reduceEq, Int.one_ne_zero, Nat.reduceEqDiff]
  exact ⟨by unfold q_R; omega, by unfold q_R; omega, by omega, kk⟩
theorem m192 (hk : RK σ G pl V S K Ln Cn) (hq : QPL (q_of pl)) (hb : 0 ≤ b ∧ b ≤ 3) (hn : -99 ≤ n ∧ n ≤ 99) (kk : Q (.inl (some (vi (enR b (some (if b = 3 then -n else n - q_of pl b)))))) bb σ) : qx sc D 192 0 [vr 136, vi b, vi n] [] (0, 0) bb σ Q := by
  simp only [k192_0, k192_1, k192_2]
  unfold enR at kk
  dsimp only at kk
  refine ⟨fun g => ?_, fun g => ?_⟩
  · rw [if_pos g, if_pos g, Int.neg_neg] at kk
    simp only [k192_5, k192_6, k192_17]
    exact kk
  · rw [if_neg g, if_neg g] at kk
    have e := hk.2.1 b (by omega)
    have := hq b (by omega) (by omega)
    simp only [k192_9, k192_10, k192_11, k192_14, k192_15, k192_16, k192_17, qt_1, ql_1, qt_2, ql_2, qt_3, ql_3, qt_6, ql_6, qt_7, ql_7, qt_8, ql_8, qt_10, ql_10, qt_11, ql_11, qt_12, ql_12, qt_13, ql_13, qt_14, ql_14, qt_15, ql_15, qt_16, ql_16, qt_17, ql_17, qt_18, ql_18, qt_19, ql_19, qt_20, ql_20, qt_21, ql_21, qt_22, ql_22, qt_23, ql_23, qt_24, ql_24, qt_25, ql_25, qt_26, ql_26, qt_28, ql_28, qt_29, ql_29, qt_30, ql_30, qt_31, ql_31, qt_32, ql_32, qt_33, ql_33, qt_34, ql_34, qt_35, ql_35, qt_36, ql_36, qt_37, ql_37, qt_38, ql_38, qt_40, ql_40, qt_41, ql_41, qt_42, ql_42, qt_43, ql_43, qt_44, ql_44, qt_45, ql_45, qt_46, ql_46, qt_47, ql_47, qt_48, ql_48, qt_49, ql_49, qt_50, ql_50, qt_51, ql_51, qt_52, ql_52, qt_53, ql_53, qt_54, ql_54, qt_56, ql_56, qt_57, ql_57, qt_58, ql_58, qt_59, ql_59, qt_60, ql_60, qt_61, ql_61, qt_62, ql_62, qt_63, ql_63, qt_64, ql_64, qt_65, ql_65, qt_67, ql_67, qt_68, ql_68, qt_69, ql_69, qt_70, ql_70, qt_71, ql_71, qt_73, ql_73, qt_74, ql_74, qt_75, ql_75, qt_76, ql_76, qt_78, ql_78, qt_79, ql_79, qt_80, ql_80, qt_81, ql_81, qt_82, ql_82, qt_83, ql_83, qt_84, ql_84, qt_85, ql_85, qt_86, ql_86, qt_87, ql_87, qt_89, ql_89, qt_90, ql_90, qt_91, ql_91, qt_92, ql_92, qt_93, ql_93, qt_94, ql_94, qt_95, ql_95, qt_96, ql_96, qt_97, ql_97, qt_98, ql_98, qt_99, ql_99, qt_100, ql_100, qt_101, ql_101, qt_102, ql_102, qt_103, ql_103, qt_105, ql_105, qt_106, ql_106, qt_107, ql_107, qt_108, ql_108, qt_109, ql_109, qt_110, ql_110, qt_111, ql_111, qt_113, ql_113, qt_114, ql_114, qt_115, ql_115, qt_116, ql_116, qt_117, ql_117, qt_118, ql_118, qt_119, ql_119, qt_120, ql_120, qt_121, ql_121, qt_122, ql_122, qt_123, ql_123, qt_124, ql_124, qt_125, ql_125, qt_126, ql_126, qt_127, ql_127, qt_129, ql_129, qt_130, ql_130, qt_131, ql_131, qt_132, ql_132, qt_133, ql_133, qt_134, ql_134, qt_135, ql_135, qt_137, ql_137, qt_138, ql_138, qt_139, ql_139, qt_140, ql_140, qt_141, ql_141, qt_142, ql_142, qt_143, ql_143, qt_144, ql_144, qt_145, ql_145, qt_146, ql_146, qt_147, ql_147, qt_148, ql_148, qt_149, ql_149, qt_150, ql_150, qt_151, ql_151, qt_152, ql_152, qt_153, ql_153, qt_154, ql_154, qt_155, ql_155, qt_156, ql_156, qt_157, ql_157, qt_158, ql_158, qt_159, ql_159, qt_160, ql_160, qt_161, ql_161, qt_162, ql_162, qt_163, ql_163, qt_164, ql_164, qt_165, ql_165, qt_166, ql_166, qt_167, ql_167, qt_168, ql_168, qt_169, ql_169, qt_170, ql_170, qt_171, ql_171, qt_172, ql_172, qt_173, ql_173, qt_174, ql_174, qt_175, ql_175, qt_176, ql_176, qt_177, ql_177, qt_178, ql_178, qt_179, ql_179, qt_180, ql_180, qt_181, ql_181, qt_182, ql_182, qt_183, ql_183, qt_184, ql_184, qt_185, ql_185, qt_186, ql_186, qt_187, ql_187, qt_188, ql_188, true_implies, false_implies, not_true_eq_false, not_false_eq_true, true_and, and_true, implies_true, or_true, true_or, or_false, false_or, Int.reduceEq, Int.one_ne_zero, Nat.reduceEqDiff, e]
    exact ⟨by omega, by unfold q_R; omega, kk⟩
theorem m191 (hk : RK σ G pl V S K Ln Cn) (hb : 0 ≤ b ∧ b ≤ 3) (hn : 0 ≤ n ∧ n ≤ 2) (kk : Q (.inl (some (vi (enR b (if b = 3 then some (-q_of pl n) else if b = n then some 0 else none))))) bb σ) : qx sc D 191 0 [vr 136, vi b, vi n] [] (0, 0) bb σ Q := by
  simp only [k191_0, k191_1, k191_2]
  refine ⟨fun g => ?_, fun g => ?_⟩
  · rw [if_pos g] at kk
    unfold enR at kk
    dsimp only at kk
    rw [if_pos g, Int.neg_neg] at kk
    have e := hk.2.1 n (by omega)
    simp only [k191_5, k191_6, k191_9, k191_10, k191_11, k191_26, qt_1, ql_1, qt_2, ql_2, qt_3, ql_3, qt_6, ql_6, qt_7, ql_7, qt_8, ql_8, qt_10, ql_10, qt_11, ql_11, qt_12, ql_12, qt_13, ql_13, qt_14, ql_14, qt_15, ql_15, qt_16, ql_16, qt_17, ql_17, qt_18, ql_18, qt_19, ql_19, qt_20, ql_20, qt_21, ql_21, qt_22, ql_22, qt_23, ql_23, qt_24, ql_24, qt_25, ql_25, qt_26, ql_26, qt_28, ql_28, qt_29, ql_29, qt_30, ql_30, qt_31, ql_31, qt_32, ql_32, qt_33, ql_33, qt_34, ql_34, qt_35, ql_35, qt_36, ql_36, qt_37, ql_37, qt_38, ql_38, qt_40, ql_40, qt_41, ql_41, qt_42, ql_42, qt_43, ql_43, qt_44, ql_44, qt_45, ql_45, qt_46, ql_46, qt_47, ql_47, qt_48, ql_48, qt_49, ql_49, qt_50, ql_50, qt_51, ql_51, qt_52, ql_52, qt_53, ql_53, qt_54, ql_54, qt_56, ql_56, qt_57, ql_57, qt_58, ql_58, qt_59, ql_59, qt_60, ql_60, qt_61, ql_61, qt_62, ql_62, qt_63, ql_63, qt_64, ql_64, qt_65, ql_65, qt_67, ql_67, qt_68, ql_68, qt_69, ql_69, qt_70, ql_70, qt_71, ql_71, qt_73, ql_73, qt_74, ql_74, qt_75, ql_75, qt_76, ql_76, qt_78, ql_78, qt_79, ql_79, qt_80, ql_80, qt_81, ql_81, qt_82, ql_82, qt_83, ql_83, qt_84, ql_84, qt_85, ql_85, qt_86, ql_86, qt_87, ql_87, qt_89, ql_89, qt_90, ql_90, qt_91, ql_91, qt_92, ql_92, qt_93, ql_93, qt_94, ql_94, qt_95, ql_95, qt_96, ql_96, qt_97, ql_97, qt_98, ql_98, qt_99, ql_99, qt_100, ql_100, qt_101, ql_101, qt_102, ql_102, qt_103, ql_103, qt_105, ql_105, qt_106, ql_106, qt_107, ql_107, qt_108, ql_108, qt_109, ql_109, qt_110, ql_110, qt_111, ql_111, qt_113, ql_113, qt_114, ql_114, qt_115, ql_115, qt_116, ql_116, qt_117, ql_117, qt_118, ql_118, qt_119, ql_119, qt_120, ql_120, qt_121, ql_121, qt_122, ql_122, qt_123, ql_123, qt_124, ql_124, qt_125, ql_125, qt_126, ql_126, qt_127, ql_127, qt_129, ql_129, qt_130, ql_130, qt_131, ql_131, qt_132, ql_132, qt_133, ql_133, qt_134, ql_134, qt_135, ql_135, qt_137, ql_137, qt_138, ql_138, qt_139, ql_139, qt_140, ql_140, qt_141, ql_141, qt_142, ql_142, qt_143, ql_143, qt_144, ql_144, qt_145, ql_145, qt_146, ql_146, qt_147, ql_147, qt_148, ql_148, qt_149, ql_149, qt_150, ql_150, qt_151, ql_151, qt_152, ql_152, qt_153, ql_153, qt_154, ql_154, qt_155, ql_155, qt_156, ql_156, qt_157, ql_157, qt_158, ql_158, qt_159, ql_159, qt_160, ql_160, qt_161, ql_161, qt_162, ql_162, qt_163, ql_163, qt_164, ql_164, qt_165, ql_165, qt_166, ql_166, qt_167, ql_167, qt_168, ql_168, qt_169, ql_169, qt_170, ql_170, qt_171, ql_171, qt_172, ql_172, qt_173, ql_173, qt_174, ql_174, qt_175, ql_175, qt_176, ql_176, qt_177, ql_177, qt_178, ql_178, qt_179, ql_179, qt_180, ql_180, qt_181, ql_181, qt_182, ql_182, qt_183, ql_183, qt_184, ql_184, qt_185, ql_185, qt_186, ql_186, qt_187, ql_187, qt_188, ql_188, true_implies, false_implies, not_true_eq_false, not_false_eq_true, true_and, and_true, implies_true, or_true, true_or, or_false, false_or, Int.reduceEq, Int.one_ne_zero, Nat.reduceEqDiff, e]
    exact ⟨by omega, kk⟩
  · rw [if_neg g] at kk
    simp only [k191_14, k191_15, k191_16, k191_19, k191_20, k191_23, k191_26]
    refine ⟨fun g2 => ?_, fun g2 => ?_⟩
    · rw [if_pos g2] at kk
      unfold enR at kk
      dsimp only at kk
      rw [if_neg g] at kk
      exact kk
    · rw [if_neg g2] at kk
      unfold enR at kk
      dsimp only at kk
      rw [if_neg g] at kk
      exact kk
theorem m182 (hr : q_R (x + n)) (kk : Q (.inl (some (vi (mrR x n)))) bb σ) : qx sc D 182 0 [vi x, vi n] [] (0, 0) bb σ Q := by
  simp only [k182_0, k182_1, k182_4, k182_7, k182_8, k182_11, k182_14, k182_15, k182_18, k182_19, k182_20, k182_21]
  unfold mrR at kk
  refine ⟨fun g => ?_, fun g => ⟨fun g2 => ?_, fun g2 => ?_⟩⟩
  · rw [if_pos (Or.inl g)] at kk; exact kk
  · rw [if_pos (Or.inr g2)] at kk; exact kk
  · rw [if_neg (by omega)] at kk; exact ⟨hr, kk⟩
theorem m140 (kk : Q (.inl (some (vi (if b = 3 then max x y else min x y)))) bb σ) : qx sc D 140 0 [vr 136, vi b, vi x, vi y] [] (0, 0) bb σ Q := by
  simp only [k140_0, k140_1, k140_2, k140_5, k140_6, k140_7, k140_10, k140_11, k140_14, k140_15, k140_18, k140_19, k140_20, k140_23, k140_24, k140_27, k140_28]
  refine ⟨fun g => ?_, fun g => ?_⟩
  · rw [if_pos g] at kk
    refine ⟨fun g2 => ?_, fun g2 => ?_⟩
    · rw [Int.max_eq_left (by omega)] at kk; exact kk
    · rw [Int.max_eq_right (by omega)] at kk; exact kk
  · rw [if_neg g] at kk
    refine ⟨fun g2 => ?_, fun g2 => ?_⟩
    · rw [Int.min_eq_left (by omega)] at kk; exact kk
    · rw [Int.min_eq_right (by omega)] at kk; exact kk
theorem m179 (kk : Q (.inl (some (vi (if b = 3 then min x y else max x y)))) bb σ) : qx sc D 179 0 [vr 136, vi b, vi x, vi y] [] (0, 0) bb σ Q := by
  simp only [k179_0, k179_1, k179_2, k179_5, k179_6, k179_7, k179_10, k179_11, k179_14, k179_15, k179_18, k179_19, k179_20, k179_23, k179_24, k179_27, k179_28]
  refine ⟨fun g => ?_, fun g => ?_⟩
  · rw [if_pos g] at kk
    refine ⟨fun g2 => ?_, fun g2 => ?_⟩
    · rw [Int.min_eq_left (by omega)] at kk; exact kk
    · rw [Int.min_eq_right (by omega)] at kk; exact kk
  · rw [if_neg g] at kk
    refine ⟨fun g2 => ?_, fun g2 => ?_⟩
    · rw [Int.max_eq_left (by omega)] at kk; exact kk
    · rw [Int.max_eq_right (by omega)] at kk; exact kk
theorem m188 (kk : Q (.inl (some (vi (enR b none)))) bb σ) : qx sc D 188 0 [vr 136, vi b] [] (0, 0) bb σ Q := by
  simp only [k188_0, k188_1, k188_2, k188_5, k188_8, k188_11, k188_14]
  unfold enR at kk
  dsimp only at kk
  refine ⟨fun g => ?_, fun g => ?_⟩
  · rw [if_pos g] at kk; exact kk
  · rw [if_neg g] at kk; exact kk
/-- rows of bounds -/
def BNR (σ : St) (b : Int) (V : Nat) (Y : Nat → Option Int) : Prop := ∀ w : Nat, w < V → σ 173 (700 * b + w) = enR b (Y w)
/-- ofSide -/
theorem m193 (hk : RK σ G pl V S K Ln Cn) (hq : QPL (q_of pl)) (hY : BNR σ b V Y) (hb : 0 ≤ b ∧ b ≤ 3) {s w k sn sv : Int} (hs : 0 ≤ s ∧ s < 40) (hw : w = 2 * s ∨ w = 2 * s + 1) (h165 : σ 165 w = F_sk k) (h166 : σ 166 w = sn) (h167 : k = 3 → σ 167 w = sv ∧ 0 ≤ sv ∧ sv < V) (hV : VALs pl (k, sn)) (h240 : V ≤ 240) (kk : Q (.inl (some (vi (enR b (sdO (q_of pl) b Y k (if k = 3 then sv else sn)))))) bb σ) : qx sc (D + 1) 193 0 [vr 136, vi b, vi w, vn] [] (0, 0) bb σ Q := by
  have w0 : 0 ≤ w := by omega
  have w80 : w < 80 := by omega
  have kR : qx sc (D + 1) 193 7 [vr 136, vi b, vi w, vi (F_sk k)] [] (0, 0) bb σ Q := by
    unfold VALs at hV
    unfold sdO at kk
    dsimp only at hV
    rcases hV with ⟨g, g1, g2⟩ | ⟨g, g1, g2, g3⟩ | ⟨g, g1, g2⟩
    · subst g
      simp only [Int.reduceEq, if_true, if_false] at kk
      have e : F_sk 1 = 0 := rfl
      simp only [e, k193_7, k193_8, k193_11, k193_12, k193_13, k193_14, k193_17, k193_18, k193_19, qt_1, ql_1, qt_2, ql_2, qt_3, ql_3, qt_6, ql_6, qt_7, ql_7, qt_8, ql_8, qt_10, ql_10, qt_11, ql_11, qt_12, ql_12, qt_13, ql_13, qt_14, ql_14, qt_15, ql_15, qt_16, ql_16, qt_17, ql_17, qt_18, ql_18, qt_19, ql_19, qt_20, ql_20, qt_21, ql_21, qt_22, ql_22, qt_23, ql_23, qt_24, ql_24, qt_25, ql_25, qt_26, ql_26, qt_28, ql_28, qt_29, ql_29, qt_30, ql_30, qt_31, ql_31, qt_32, ql_32, qt_33, ql_33, qt_34, ql_34, qt_35, ql_35, qt_36, ql_36, qt_37, ql_37, qt_38, ql_38, qt_40, ql_40, qt_41, ql_41, qt_42, ql_42, qt_43, ql_43, qt_44, ql_44, qt_45, ql_45, qt_46, ql_46, qt_47, ql_47, qt_48, ql_48, qt_49, ql_49, qt_50, ql_50, qt_51, ql_51, qt_52, ql_52, qt_53, ql_53, qt_54, ql_54, qt_56, ql_56, qt_57, ql_57, qt_58, ql_58, qt_59, ql_59, qt_60, ql_60, qt_61, ql_61, qt_62, ql_62, qt_63, ql_63, qt_64, ql_64, qt_65, ql_65, qt_67, ql_67, qt_68, ql_68, qt_69, ql_69, qt_70, ql_70, qt_71, ql_71, qt_73, ql_73, qt_74, ql_74, qt_75, ql_75, qt_76, ql_76, qt_78, ql_78, qt_79, ql_79, qt_80, ql_80, qt_81, ql_81, qt_82, ql_82, qt_83, ql_83, qt_84, ql_84, qt_85, ql_85, qt_86, ql_86, qt_87, ql_87, qt_89, ql_89, qt_90, ql_90, qt_91, ql_91, qt_92, ql_92, qt_93, ql_93, qt_94, ql_94, qt_95, ql_95, qt_96, ql_96, qt_97, ql_97, qt_98, ql_98, qt_99, ql_99, qt_100, ql_100, qt_101, ql_101, qt_102, ql_102, qt_103, ql_103, qt_105, ql_105, qt_106, ql_106, qt_107, ql_107, qt_108, ql_108, qt_109, ql_109, qt_110, ql_110, qt_111, ql_111, qt_113, ql_113, qt_114, ql_114, qt_115, ql_115, qt_116, ql_116, qt_117, ql_117, qt_118, ql_118, qt_119, ql_119, qt_120, ql_120, qt_121, ql_121, qt_122, ql_122, qt_123, ql_123, qt_124, ql_124, qt_125, ql_125, qt_126, ql_126, qt_127, ql_127, qt_129, ql_129, qt_130, ql_130, qt_131, ql_131, qt_132, ql_132, qt_133, ql_133, qt_134, ql_134, qt_135, ql_135, qt_137, ql_137, qt_138, ql_138, qt_139, ql_139, qt_140, ql_140, qt_141, ql_141, qt_142, ql_142, qt_143, ql_143, qt_144, ql_144, qt_145, ql_145, qt_146, ql_146, qt_147, ql_147, qt_148, ql_148, qt_149, ql_149, qt_150, ql_150, qt_151, ql_151, qt_152, ql_152, qt_153, ql_153, qt_154, ql_154, qt_155, ql_155, qt_156, ql_156, qt_157, ql_157, qt_158, ql_158, qt_159, ql_159, qt_160, ql_160, qt_161, ql_161, qt_162, ql_162, qt_163, ql_163, qt_164, ql_164, qt_165, ql_165, qt_166, ql_166, qt_167, ql_167, qt_168, ql_168, qt_169, ql_169, qt_170, ql_170, qt_171, ql_171, qt_172, ql_172, qt_173, ql_173, qt_174, ql_174, qt_175, ql_175, qt_176, ql_176, qt_177, ql_177, qt_178, ql_178, qt_179, ql_179, qt_180, ql_180, qt_181, ql_181, qt_182, ql_182, qt_183, ql_183, qt_184, ql_184, qt_185, ql_185, qt_186, ql_186, qt_187, ql_187, qt_188, ql_188, true_implies, false_implies, not_true_eq_false, not_false_eq_true, true_and, and_true, implies_true, or_true, true_or, or_false, false_or, Int.reduceEq, Int.one_ne_zero, Nat.reduceEqDiff, w0, w80, h166]
      refine m192 hk hq hb (by omega) ?_
      simp only [q_kn_v, k193_22]
      exact kk
    · subst g
      simp only [Int.reduceEq, if_true, if_false] at kk
      have e : F_sk 2 = 2 := rfl
      simp only [e, k193_7, k193_8, k193_23, k193_24, k193_25, k193_28, k193_29, k193_30, true_implies, false_implies, not_true_eq_false, not_false_eq_true, true_and, and_true, implies_true, or_true, true_or, or_false, false_or, Int.reduceEq, Int.one_ne_zero, Nat.reduceEqDiff]
      refine ⟨fun b3 => ?_, fun b3 => ?_⟩
      · rw [if_pos b3] at kk
        unfold enR at kk
        dsimp only at kk
        rw [if_pos b3, Int.neg_neg] at kk
        have e := hk.2.1 sn (by omega)
        simp only [k193_33, k193_34, k193_37, k193_38, k193_41, k193_42, k193_43, k193_44, k193_58, qt_1, ql_1, qt_2, ql_2, qt_3, ql_3, qt_6, ql_6, qt_7, ql_7, qt_8, ql_8, qt_10, ql_10, qt_11, ql_11, qt_12, ql_12, qt_13, ql_13, qt_14, ql_14, qt_15, ql_15, qt_16, ql_16, qt_17, ql_17, qt_18, ql_18, qt_19, ql_19, qt_20, ql_20, qt_21, ql_21, qt_22, ql_22, qt_23, ql_23, qt_24, ql_24, qt_25, ql_25, qt_26, ql_26, qt_28, ql_28, qt_29, ql_29, qt_30, ql_30, qt_31, ql_31, qt_32, ql_32, qt_33, ql_33, qt_34, ql_34, qt_35, ql_35, qt_36, ql_36, qt_37, ql_37, qt_38, ql_38, qt_40, ql_40, qt_41, ql_41, qt_42, ql_42, qt_43, ql_43, qt_44, ql_44, qt_45, ql_45, qt_46, ql_46, qt_47, ql_47, qt_48, ql_48, qt_49, ql_49, qt_50, ql_50, qt_51, ql_51, qt_52, ql_52, qt_53, ql_53, qt_54, ql_54, qt_56, ql_56, qt_57, ql_57, qt_58, ql_58, qt_59, ql_59, qt_60, ql_60, qt_61, ql_61, qt_62, ql_62, qt_63, ql_63, qt_64, ql_64, qt_65, ql_65, qt_67, ql_67, qt_68, ql_68, qt_69, ql_69, qt_70, ql_70, qt_71, ql_71, qt_73, ql_73, qt_74, ql_74, qt_75, ql_75, qt_76, ql_76, qt_78, ql_78, qt_79, ql_79, qt_80, ql_80, qt_81, ql_81, qt_82, ql_82, qt_83, ql_83, qt_84, ql_84, qt_85, ql_85, qt_86, ql_86, qt_87, ql_87, qt_89, ql_89, qt_90, ql_90, qt_91, ql_91, qt_92, ql_92, qt_93, ql_93, qt_94, ql_94, qt_95, ql_95, qt_96, ql_96, qt_97, ql_97, qt_98, ql_98, qt_99, ql_99, qt_100, ql_100, qt_101, ql_101, qt_102, ql_102, qt_103, ql_103, qt_105, ql_105, qt_106, ql_106, qt_107, ql_107, qt_108, ql_108, qt_109, ql_109, qt_110, ql_110, qt_111, ql_111, qt_113, ql_113, qt_114, ql_114, qt_115, ql_115, qt_116, ql_116, qt_117, ql_117, qt_118, ql_118, qt_119, ql_119, qt_120, ql_120, qt_121, ql_121, qt_122, ql_122, qt_123, ql_123, qt_124, ql_124, qt_125, ql_125, qt_126, ql_126, qt_127, ql_127, qt_129, ql_129, qt_130, ql_130, qt_131, ql_131, qt_132, ql_132, qt_133, ql_133, qt_134, ql_134, qt_135, ql_135, qt_137, ql_137, qt_138, ql_138, qt_139, ql_139, qt_140, ql_140, qt_141, ql_141, qt_142, ql_142, qt_143, ql_143, qt_144, ql_144, qt_145, ql_145, qt_146, ql_146, qt_147, ql_147, qt_148, ql_148, qt_149, ql_149, qt_150, ql_150, qt_151, ql_151, qt_152, ql_152, qt_153, ql_153, qt_154, ql_154, qt_155, ql_155, qt_156, ql_156, qt_157, ql_157, qt_158, ql_158, qt_159, ql_159, qt_160, ql_160, qt_161, ql_161, qt_162, ql_162, qt_163, ql_163, qt_164, ql_164, qt_165, ql_165, qt_166, ql_166, qt_167, ql_167, qt_168, ql_168, qt_169, ql_169, qt_170, ql_170, qt_171, ql_171, qt_172, ql_172, qt_173, ql_173, qt_174, ql_174, qt_175, ql_175, qt_176, ql_176, qt_177, ql_177, qt_178, ql_178, qt_179, ql_179, qt_180, ql_180, qt_181, ql_181, qt_182, ql_182, qt_183, ql_183, qt_184, ql_184, qt_185, ql_185, qt_186, ql_186, qt_187, ql_187, qt_188, ql_188, true_implies, false_implies, not_true_eq_false, not_false_eq_true, true_and, and_true, implies_true, or_true, true_or, or_false, false_or, Int.reduceEq, Int.one_ne_zero, Nat.reduceEqDiff, w0, w80, h166, e]
        exact ⟨by omega, kk⟩
      · simp only [k193_47, k193_48, k193_49, k193_50, k193_53, k193_54, k193_55, qt_1, ql_1, qt_2, ql_2, qt_3, ql_3, qt_6, ql_6, qt_7, ql_7, qt_8, ql_8, qt_10, ql_10, qt_11, ql_11, qt_12, ql_12, qt_13, ql_13, qt_14, ql_14, qt_15, ql_15, qt_16, ql_16, qt_17, ql_17, qt_18, ql_18, qt_19, ql_19, qt_20, ql_20, qt_21, ql_21, qt_22, ql_22, qt_23, ql_23, qt_24, ql_24, qt_25, ql_25, qt_26, ql_26, qt_28, ql_28, qt_29, ql_29, qt_30, ql_30, qt_31, ql_31, qt_32, ql_32, qt_33, ql_33, qt_34, ql_34, qt_35, ql_35, qt_36, ql_36, qt_37, ql_37, qt_38, ql_38, qt_40, ql_40, qt_41, ql_41, qt_42, ql_42, qt_43, ql_43, qt_44, ql_44, qt_45, ql_45, qt_46, ql_46, qt_47, ql_47, qt_48, ql_48, qt_49, ql_49, qt_50, ql_50, qt_51, ql_51, qt_52, ql_52, qt_53, ql_53, qt_54, ql_54, qt_56, ql_56, qt_57, ql_57, qt_58, ql_58, qt_59, ql_59, qt_60, ql_60, qt_61, ql_61, qt_62, ql_62, qt_63, ql_63, qt_64, ql_64, qt_65, ql_65, qt_67, ql_67, qt_68, ql_68, qt_69, ql_69, qt_70, ql_70, qt_71, ql_71, qt_73, ql_73, qt_74, ql_74, qt_75, ql_75, qt_76, ql_76, qt_78, ql_78, qt_79, ql_79, qt_80, ql_80, qt_81, ql_81, qt_82, ql_82, qt_83, ql_83, qt_84, ql_84, qt_85, ql_85, qt_86, ql_86, qt_87, ql_87, qt_89, ql_89, qt_90, ql_90, qt_91, ql_91, qt_92, ql_92, qt_93, ql_93, qt_94, ql_94, qt_95, ql_95, qt_96, ql_96, qt_97, ql_97, qt_98, ql_98, qt_99, ql_99, qt_100, ql_100, qt_101, ql_101, qt_102, ql_102, qt_103, ql_103, qt_105, ql_105, qt_106, ql_106, qt_107, ql_107, qt_108, ql_108, qt_109, ql_109, qt_110, ql_110, qt_111, ql_111, qt_113, ql_113, qt_114, ql_114, qt_115, ql_115, qt_116, ql_116, qt_117, ql_117, qt_118, ql_118, qt_119, ql_119, qt_120, ql_120, qt_121, ql_121, qt_122, ql_122, qt_123, ql_123, qt_124, ql_124, qt_125, ql_125, qt_126, ql_126, qt_127, ql_127, qt_129, ql_129, qt_130, ql_130, qt_131, ql_131, qt_132, ql_132, qt_133, ql_133, qt_134, ql_134, qt_135, ql_135, qt_137, ql_137, qt_138, ql_138, qt_139, ql_139, qt_140, ql_140, qt_141, ql_141, qt_142, ql_142, qt_143, ql_143, qt_144, ql_144, qt_145, ql_145, qt_146, ql_146, qt_147, ql_147, qt_148, ql_148, qt_149, ql_149, qt_150, ql_150, qt_151, ql_151, qt_152, ql_152, qt_153, ql_153, qt_154, ql_154, qt_155, ql_155, qt_156, ql_156, qt_157, ql_157, qt_158, ql_158, qt_159, ql_159, qt_160, ql_160, qt_161, ql_161, qt_162, ql_162, qt_163, ql_163, qt_164, ql_164, qt_165, ql_165, qt_166, ql_166, qt_167, ql_167, qt_168, ql_168, qt_169, ql_169, qt_170, ql_170, qt_171, ql_171, qt_172, ql_172, qt_173, ql_173, qt_174, ql_174, qt_175, ql_175, qt_176, ql_176, qt_177, ql_177, qt_178, ql_178, qt_179, ql_179, qt_180, ql_180, qt_181, ql_181, qt_182, ql_182, qt_183, ql_183, qt_184, ql_184, qt_185, ql_185, qt_186, ql_186, qt_187, ql_187, qt_188, ql_188, true_implies, false_implies, not_true_eq_false, not_false_eq_true, true_and, and_true, implies_true, or_true, true_or, or_false, false_or, Int.reduceEq, Int.one_ne_zero, Nat.reduceEqDiff, w0, w80, h166]
        refine m191 hk hb ⟨g1, g2⟩ ?_
        simp only [q_kn_v, k193_58]
        exact kk
    · subst g
      simp only [Int.reduceEq, if_true, if_false] at kk
      have e : F_sk 3 = 1 := rfl
      obtain ⟨q1, q2, q3⟩ := h167 rfl
      have hy := hY sv.toNat (by omega)
      rw [Int.toNat_of_nonneg q2] at hy
      simp only [e, k193_7, k193_8, k193_23, k193_24, k193_25, k193_59, k193_60, k193_61, k193_62, k193_65, k193_66, k193_67, qt_1, ql_1, qt_2, ql_2, qt_3, ql_3, qt_6, ql_6, qt_7, ql_7, qt_8, ql_8, qt_10, ql_10, qt_11, ql_11, qt_12, ql_12, qt_13, ql_13, qt_14, ql_14, qt_15, ql_15, qt_16, ql_16, qt_17, ql_17, qt_18, ql_18, qt_19, ql_19, qt_20, ql_20, qt_21, ql_21, qt_22, ql_22, qt_23, ql_23, qt_24, ql_24, qt_25, ql_25, qt_26, ql_26, qt_28, ql_28, qt_29, ql_29, qt_30, ql_30, qt_31, ql_31, qt_32, ql_32, qt_33, ql_33, qt_34, ql_34, qt_35, ql_35, qt_36, ql_36, qt_37, ql_37, qt_38, ql_38, qt_40, ql_40, qt_41, ql_41, qt_42, ql_42, qt_43, ql_43, qt_44, ql_44, qt_45, ql_45, qt_46, ql_46, qt_47, ql_47, qt_48, ql_48, qt_49, ql_49, qt_50, ql_50, qt_51, ql_51, qt_52, ql_52, qt_53, ql_53, qt_54, ql_54, qt_56, ql_56, qt_57, ql_57, qt_58, ql_58, qt_59, ql_59, qt_60, ql_60, qt_61, ql_61, qt_62, ql_62, qt_63, ql_63, qt_64, ql_64, qt_65, ql_65, qt_67, ql_67, qt_68, ql_68, qt_69, ql_69, qt_70, ql_70, qt_71, ql_71, qt_73, ql_73, qt_74, ql_74, qt_75, ql_75, qt_76, ql_76, qt_78, ql_78, qt_79, ql_79, qt_80, ql_80, qt_81, ql_81, qt_82, ql_82, qt_83, ql_83, qt_84, ql_84, qt_85, ql_85, qt_86, ql_86, qt_87, ql_87, qt_89, ql_89, qt_90, ql_90, qt_91, ql_91, qt_92, ql_92, qt_93, ql_93, qt_94, ql_94, qt_95, ql_95, qt_96, ql_96, qt_97, ql_97, qt_98, ql_98, qt_99, ql_99, qt_100, ql_100, qt_101, ql_101, qt_102, ql_102, qt_103, ql_103, qt_105, ql_105, qt_106, ql_106, qt_107, ql_107, qt_108, ql_108, qt_109, ql_109, qt_110, ql_110, qt_111, ql_111, qt_113, ql_113, qt_114, ql_114, qt_115, ql_115, qt_116, ql_116, qt_117, ql_117, qt_118, ql_118, qt_119, ql_119, qt_120, ql_120, qt_121, ql_121, qt_122, ql_122, qt_123, ql_123, qt_124, ql_124, qt_125, ql_125, qt_126, ql_126, qt_127, ql_127, qt_129, ql_129, qt_130, ql_130, qt_131, ql_131, qt_132, ql_132, qt_133, ql_133, qt_134, ql_134, qt_135, ql_135, qt_137, ql_137, qt_138, ql_138, qt_139, ql_139, qt_140, ql_140, qt_141, ql_141, qt_142, ql_142, qt_143, ql_143, qt_144, ql_144, qt_145, ql_145, qt_146, ql_146, qt_147, ql_147, qt_148, ql_148, qt_149, ql_149, qt_150, ql_150, qt_151, ql_151, qt_152, ql_152, qt_153, ql_153, qt_154, ql_154, qt_155, ql_155, qt_156, ql_156, qt_157, ql_157, qt_158, ql_158, qt_159, ql_159, qt_160, ql_160, qt_161, ql_161, qt_162, ql_162, qt_163, ql_163, qt_164, ql_164, qt_165, ql_165, qt_166, ql_166, qt_167, ql_167, qt_168, ql_168, qt_169, ql_169, qt_170, ql_170, qt_171, ql_171, qt_172, ql_172, qt_173, ql_173, qt_174, ql_174, qt_175, ql_175, qt_176, ql_176, qt_177, ql_177, qt_178, ql_178, qt_179, ql_179, qt_180, ql_180, qt_181, ql_181, qt_182, ql_182, qt_183, ql_183, qt_184, ql_184, qt_185, ql_185, qt_186, ql_186, qt_187, ql_187, qt_188, ql_188, true_implies, false_implies, not_true_eq_false, not_false_eq_true, true_and, and_true, implies_true, or_true, true_or, or_false, false_or, Int.reduceEq, Int.one_ne_zero, Nat.reduceEqDiff, w0, w80, q1]
      refine m133 hb q2 (by omega) ?_
      simp only [q_kn_v, k193_70]
      rw [hy]
      exact kk
  simp only [k193_0, k193_1, k193_4, k193_5, k193_6, qt_1, ql_1, qt_2, ql_2, qt_3, ql_3, qt_6, ql_6, qt_7, ql_7, qt_8, ql_8, qt_10, ql_10, qt_11, ql_11, qt_12, ql_12, qt_13, ql_13, qt_14, ql_14, qt_15, ql_15, qt_16, ql_16, qt_17, ql_17, qt_18, ql_18, qt_19, ql_19, qt_20, ql_20, qt_21, ql_21, qt_22, ql_22, qt_23, ql_23, qt_24, ql_24, qt_25, ql_25, qt_26, ql_26, qt_28, ql_28, qt_29, ql_29, qt_30, ql_30, qt_31, ql_31, qt_32, ql_32, qt_33, ql_33, qt_34, ql_34, qt_35, ql_35, qt_36, ql_36, qt_37, ql_37, qt_38, ql_38, qt_40, ql_40, qt_41, ql_41, qt_42, ql_42, qt_43, ql_43, qt_44, ql_44, qt_45, ql_45, qt_46, ql_46, qt_47, ql_47, qt_48, ql_48, qt_49, ql_49, qt_50, ql_50, qt_51, ql_51, qt_52, ql_52, qt_53, ql_53, qt_54, ql_54, qt_56, ql_56, qt_57, ql_57, qt_58, ql_58, qt_59, ql_59, qt_60, ql_60, qt_61, ql_61, qt_62, ql_62, qt_63, ql_63, qt_64, ql_64, qt_65, ql_65, qt_67, ql_67, qt_68, ql_68, qt_69, ql_69, qt_70, ql_70, qt_71, ql_71, qt_73, ql_73, qt_74, ql_74, qt_75, ql_75, qt_76, ql_76, qt_78, ql_78, qt_79, ql_79, qt_80, ql_80, qt_81, ql_81, qt_82, ql_82, qt_83, ql_83, qt_84, ql_84, qt_85, ql_85, qt_86, ql_86, qt_87, ql_87, qt_89, ql_89, qt_90, ql_90, qt_91, ql_91, qt_92, ql_92, qt_93, ql_93, qt_94, ql_94, qt_95, ql_95, qt_96, ql_96, qt_97, ql_97, qt_98, ql_98, qt_99, ql_99, qt_100, ql_100, qt_101, ql_101, qt_102, ql_102, qt_103, ql_103, qt_105, ql_105, qt_106, ql_106, qt_107, ql_107, qt_108, ql_108, qt_109, ql_109, qt_110, ql_110, qt_111, ql_111, qt_113, ql_113, qt_114, ql_114, qt_115, ql_115, qt_116, ql_116, qt_117, ql_117, qt_118, ql_118, qt_119, ql_119, qt_120, ql_120, qt_121, ql_121, qt_122, ql_122, qt_123, ql_123, qt_124, ql_124, qt_125, ql_125, qt_126, ql_126, qt_127, ql_127, qt_129, ql_129, qt_130, ql_130, qt_131, ql_131, qt_132, ql_132, qt_133, ql_133, qt_134, ql_134, qt_135, ql_135, qt_137, ql_137, qt_138, ql_138, qt_139, ql_139, qt_140, ql_140, qt_141, ql_141, qt_142, ql_142, qt_143, ql_143, qt_144, ql_144, qt_145, ql_145, qt_146, ql_146, qt_147, ql_147, qt_148, ql_148, qt_149, ql_149, qt_150, ql_150, qt_151, ql_151, qt_152, ql_152, qt_153, ql_153, qt_154, ql_154, qt_155, ql_155, qt_156, ql_156, qt_157, ql_157, qt_158, ql_158, qt_159, ql_159, qt_160, ql_160, qt_161, ql_161, qt_162, ql_162, qt_163, ql_163, qt_164, ql_164, qt_165, ql_165, qt_166, ql_166, qt_167, ql_167, qt_168, ql_168, qt_169, ql_169, qt_170, ql_170, qt_171, ql_171, qt_172, ql_172, qt_173, ql_173, qt_174, ql_174, qt_175, ql_175, qt_176, ql_176, qt_177, ql_177, qt_178, ql_178, qt_179, ql_179, qt_180, ql_180, qt_181, ql_181, qt_182, ql_182, qt_183, ql_183, qt_184, ql_184, qt_185, ql_185, qt_186, ql_186, qt_187, ql_187, qt_188, ql_188, true_implies, false_implies, not_true_eq_false, not_false_eq_true, true_and, and_true, implies_true, or_true, true_or, or_false, false_or, Int.reduceEq, Int.one_ne_zero, Nat.reduceEqDiff, w0, w80, h165]
  exact kR
end RFB
