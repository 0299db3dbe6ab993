/-! saves, in the class -/
def SVF (L : List (ST 5)) (pl inp len : Int → Int) (a : Int) (F : Int → Int) (lo : Int) (k : Nat) : Prop := ∀ t, lo ≤ t → t < lo + k → ∃ ρ ρ', RNS L pl (iup inp a t) len 0 ρ ∧ RNS L pl (iup inp a t) len 2 ρ' ∧ F t = ρ 87 4 - ρ' 87 4
def bst (F : Int → Int) (lo : Int) : Nat → Int × Int
  | 0 => (0, lo)
  | k + 1 => if k = 0 ∨ (bst F lo k).1 < F (lo + k) then (F (lo + k), lo + k) else bst F lo k
abbrev svok (a lo hi : Int) : Prop := (0 ≤ a ∧ a < 3) ∧ (-99 ≤ lo ∧ lo ≤ 99) ∧ (-99 ≤ hi ∧ hi ≤ 99) ∧ lo ≤ hi ∧ hi - lo ≤ 20
def o_sav (a lo hi ab : Int) (F : Int → Int) : OC := if svok a lo hi then .inl (if ab = 0 then (bst F lo (hi - lo + 1).toNat).2 else (bst F lo (hi - lo + 1).toNat).1) else .inr (0, 1)
theorem bst_ext {F F' : Int → Int} {lo : Int} : ∀ k : Nat, (∀ t, t < lo + k → F' t = F t) → bst F' lo k = bst F lo k := by
  intro k
  induction k with
  | zero => intro _; rfl
  | succ k ih =>
    intro h
    unfold bst
    rw [ih (fun t ht => h t (by omega)), h (lo + k) (by omega)]
theorem iup_iup {g : Int → Int} {a x y : Int} : iup (iup g a x) a y = iup g a y := by
  funext d; unfold iup; split <;> rfl
theorem iup_id {g : Int → Int} {a : Int} : iup g a (g a) = g := by
  funext d; unfold iup; split
  · rename_i h; rw [h]
  · rfl
section CSV
variable {sc : Nat × (Nat → Int32)} {D : Nat} {bb : Bool} {Q : QP} {c : Nat} {C r r0 r' σ ρ : St} {m : Int} {L : List (ST 5)} {pl f f' inp len inp' len' g F : Int → Int} {n n' ft ft' a b x y k w v l s ab p q how i lo hi : Int} {O : OC}
theorem CI_2 (hI : CI c C r m L pl n f ft inp len) (hx : -99 ≤ x ∧ x ≤ 99) : CI c C (q_up r 2 a x) m L pl n f ft (iup inp a x) len := by
  have h7 := hI.2.2.2.2.2.2.1
  have h9 := hI.2.2.2.2.2.2.2.2
  have h14 := hI.2.2.2.2.2.2.2.1
  refine CI_gen hI (fun a' i ha' => ?_) ?_ ?_ (fun d d0 d1 => ?_)
  · rw [q_up_app, if_neg (by unfold CSX at ha'; omega)]
  · rw [q_up_ne _ _ _ _ (by decide), show q_up r 2 a x 1 = r 1 from funext (fun i => q_up_ne _ _ _ _ (by decide))]; exact h7
  · rw [q_up_ne _ _ _ _ (by decide)]; exact h14
  · have g := h9 d d0 d1
    rw [q_up_ne _ _ _ _ (show ¬ 3 = 2 by decide), q_up_app]
    unfold iup
    by_cases e : d = a
    · rw [if_pos ⟨rfl, e⟩, if_pos e]; exact ⟨⟨rfl, g.1.2⟩, hx, g.2.2⟩
    · rw [if_neg (by omega), if_neg e]; exact g
theorem p119_l (ha : 0 ≤ a ∧ a < 3) (hlo : -99 ≤ lo ∧ lo ≤ 99) (hhi : -99 ≤ hi ∧ hi ≤ 99) (hF0 : ∀ t, -40000 ≤ F t ∧ F t ≤ 40000 → True) {l9 : V2}
    (kk : ∀ (F : Int → Int), SVF L pl inp len a F lo (hi - lo + 1).toNat → CPO Q bb (NS c C r0) (.inl (if ab = 0 then (bst F lo (hi - lo + 1).toNat).2 else (bst F lo (hi - lo + 1).toNat).1)) m L pl n f ft inp len) (hInp : -99 ≤ inp a ∧ inp a ≤ 99) :
    ∀ (d k : Nat) (F : Int → Int) (r : St) (inp' : Int → Int) (l9 : V2), lo + k + d = hi + 1 → CI c C r m L pl n f ft inp' len → iup inp' a (inp a) = inp → (∀ a i, 136 ≤ a → r a i = r0 a i) → SVF L pl inp len a F lo k → (-40000 ≤ (bst F lo k).1 ∧ (bst F lo k).1 ≤ 40000) → qx sc (D + 30) 119 56 [vr 0, vi a, vi lo, vi hi, vi ab, vi (inp a), vi (bst F lo k).1, vi (bst F lo k).2, vi (lo + k), l9] [] (3, 18) bb (NS c C r) Q := by
  intro d
  induction d with
  | zero =>
    intro k F r inp' l9 hk hI hin hh hS hb
    have hc := hI.1
    have e : k = (hi - lo + 1).toNat := by omega
    have h1 : hi < lo + k := by omega
    have hI2 := CI_2 (a := a) hI hInp
    rw [hin] at hI2
    have kq := CPO_h (r := r0) hI2 (fun a' i ha' => by rw [q_up_ne _ _ _ _ (by omega)]; exact hh a' i ha') (kk F (by rw [← e]; exact hS))
    rw [← e] at kq
    rw [k119_56]
    simp only [k119_58, k119_59, k119_146, k119_147, k119_150, k119_151, k119_153, k119_154, k119_156, h1, NS_lo hc, NS_g hc, NS_f hc, NS_u hc, NS_uf hc, Nat.reduceLT, Nat.reduceLeDiff, Nat.reduceEqDiff, not_false_eq_true, qt_1, ql_1, qt_2, ql_2, qt_3, ql_3, qt_6, ql_6, qt_7, ql_7, qt_8, ql_8, qt_10, ql_10, qt_11, ql_11, qt_12, ql_12, qt_13, ql_13, qt_14, ql_14, qt_15, ql_15, qt_16, ql_16, qt_17, ql_17, qt_18, ql_18, qt_19, ql_19, qt_20, ql_20, qt_21, ql_21, qt_22, ql_22, qt_23, ql_23, qt_24, ql_24, qt_25, ql_25, qt_26, ql_26, qt_28, ql_28, qt_29, ql_29, qt_30, ql_30, qt_31, ql_31, qt_32, ql_32, qt_33, ql_33, qt_34, ql_34, qt_35, ql_35, qt_36, ql_36, qt_37, ql_37, qt_38, ql_38, qt_40, ql_40, qt_41, ql_41, qt_42, ql_42, qt_43, ql_43, qt_44, ql_44, qt_45, ql_45, qt_46, ql_46, qt_47, ql_47, qt_48, ql_48, qt_49, ql_49, qt_50, ql_50, qt_51, ql_51, qt_52, ql_52, qt_53, ql_53, qt_54, ql_54, qt_56, ql_56, qt_57, ql_57, qt_58, ql_58, qt_59, ql_59, qt_60, ql_60, qt_61, ql_61, qt_62, ql_62, qt_63, ql_63, qt_64, ql_64, qt_65, ql_65, qt_67, ql_67, qt_68, ql_68, qt_69, ql_69, qt_70, ql_70, qt_71, ql_71, qt_73, ql_73, qt_74, ql_74, qt_75, ql_75, qt_76, ql_76, qt_78, ql_78, qt_79, ql_79, qt_80, ql_80, qt_81, ql_81, qt_82, ql_82, qt_83, ql_83, qt_84, ql_84, qt_85, ql_85, qt_86, ql_86, qt_87, ql_87, qt_89, ql_89, qt_90, ql_90, qt_91, ql_91, qt_92, ql_92, qt_93, ql_93, qt_94, ql_94, qt_95, ql_95, qt_96, ql_96, qt_97, ql_97, qt_98, ql_98, qt_99, ql_99, qt_100, ql_100, qt_101, ql_101, qt_102, ql_102, qt_103, ql_103, qt_105, ql_105, qt_106, ql_106, qt_107, ql_107, qt_108, ql_108, qt_109, ql_109, qt_110, ql_110, qt_111, ql_111, qt_113, ql_113, qt_114, ql_114, qt_115, ql_115, qt_116, ql_116, qt_117, ql_117, qt_118, ql_118, qt_119, ql_119, qt_120, ql_120, qt_121, ql_121, qt_122, ql_122, qt_123, ql_123, qt_124, ql_124, qt_125, ql_125, qt_126, ql_126, qt_127, ql_127, qt_129, ql_129, qt_130, ql_130, qt_131, ql_131, qt_132, ql_132, qt_133, ql_133, qt_134, ql_134, qt_135, ql_135, qt_137, ql_137, qt_138, ql_138, qt_139, ql_139, qt_140, ql_140, qt_141, ql_141, qt_142, ql_142, qt_143, ql_143, qt_144, ql_144, qt_145, ql_145, qt_146, ql_146, qt_147, ql_147, qt_148, ql_148, qt_149, ql_149, qt_150, ql_150, qt_151, ql_151, qt_152, ql_152, qt_153, ql_153, qt_154, ql_154, qt_155, ql_155, qt_156, ql_156, qt_157, ql_157, qt_158, ql_158, qt_159, ql_159, qt_160, ql_160, qt_161, ql_161, qt_162, ql_162, qt_163, ql_163, qt_164, ql_164, qt_165, ql_165, qt_166, ql_166, qt_167, ql_167, qt_168, ql_168, qt_169, ql_169, qt_170, ql_170, qt_171, ql_171, qt_172, ql_172, qt_173, ql_173, qt_174, ql_174, qt_175, ql_175, qt_176, ql_176, qt_177, ql_177, qt_178, ql_178, qt_179, ql_179, qt_180, ql_180, qt_181, ql_181, qt_182, ql_182, qt_183, ql_183, qt_184, ql_184, qt_185, ql_185, qt_186, ql_186, qt_187, ql_187, qt_188, ql_188, true_implies, false_implies, not_true_eq_false, not_false_eq_true, true_and, and_true, implies_true, or_true, true_or, or_false, false_or, Int.reduceEq, Int.one_ne_zero, Nat.reduceEqDiff, ha.1, ha.2]
    by_cases hab : ab = 0
    · rw [if_pos hab] at kq
      simp only [hab, true_implies, false_implies, not_true_eq_false, not_false_eq_true, true_and, and_true, implies_true, or_true, true_or, or_false, false_or, Int.reduceEq, Int.one_ne_zero, Nat.reduceEqDiff, k119_159, k119_161, k119_164, k119_166]
      exact kq
    · rw [if_neg hab] at kq
      simp only [hab, true_implies, false_implies, not_true_eq_false, not_false_eq_true, true_and, and_true, implies_true, or_true, true_or, or_false, false_or, Int.reduceEq, Int.one_ne_zero, Nat.reduceEqDiff, k119_159, k119_161, k119_164, k119_166]
      exact kq
  | succ d ih =>
    intro k F r inp' l9 hk hI hin hh hS hb
    have hc := hI.1
    have h1 : ¬ hi < lo + k := by omega
    have h11 := hI.2.2.2.1.1
    have hv := hI.2.1
    have hp := hI.2.2.1.1
    have hx : -99 ≤ lo + k ∧ lo + k ≤ 99 := by omega
    have hI1 := CI_2 (a := a) hI hx
    have e1 : iup inp' a (lo + k) = iup inp a (lo + k) := by rw [← hin, iup_iup]
    rw [e1] at hI1
    rw [k119_56]
    simp only [k119_58, k119_59, k119_62, k119_63, k119_66, k119_67, k119_69, k119_70, k119_71, k119_74, k119_75, k119_78, k119_79, h1, NS_lo hc, NS_g hc, NS_f hc, NS_u hc, NS_uf hc, Nat.reduceLT, Nat.reduceLeDiff, Nat.reduceEqDiff, not_false_eq_true, qt_1, ql_1, qt_2, ql_2, qt_3, ql_3, qt_6, ql_6, qt_7, ql_7, qt_8, ql_8, qt_10, ql_10, qt_11, ql_11, qt_12, ql_12, qt_13, ql_13, qt_14, ql_14, qt_15, ql_15, qt_16, ql_16, qt_17, ql_17, qt_18, ql_18, qt_19, ql_19, qt_20, ql_20, qt_21, ql_21, qt_22, ql_22, qt_23, ql_23, qt_24, ql_24, qt_25, ql_25, qt_26, ql_26, qt_28, ql_28, qt_29, ql_29, qt_30, ql_30, qt_31, ql_31, qt_32, ql_32, qt_33, ql_33, qt_34, ql_34, qt_35, ql_35, qt_36, ql_36, qt_37, ql_37, qt_38, ql_38, qt_40, ql_40, qt_41, ql_41, qt_42, ql_42, qt_43, ql_43, qt_44, ql_44, qt_45, ql_45, qt_46, ql_46, qt_47, ql_47, qt_48, ql_48, qt_49, ql_49, qt_50, ql_50, qt_51, ql_51, qt_52, ql_52, qt_53, ql_53, qt_54, ql_54, qt_56, ql_56, qt_57, ql_57, qt_58, ql_58, qt_59, ql_59, qt_60, ql_60, qt_61, ql_61, qt_62, ql_62, qt_63, ql_63, qt_64, ql_64, qt_65, ql_65, qt_67, ql_67, qt_68, ql_68, qt_69, ql_69, qt_70, ql_70, qt_71, ql_71, qt_73, ql_73, qt_74, ql_74, qt_75, ql_75, qt_76, ql_76, qt_78, ql_78, qt_79, ql_79, qt_80, ql_80, qt_81, ql_81, qt_82, ql_82, qt_83, ql_83, qt_84, ql_84, qt_85, ql_85, qt_86, ql_86, qt_87, ql_87, qt_89, ql_89, qt_90, ql_90, qt_91, ql_91, qt_92, ql_92, qt_93, ql_93, qt_94, ql_94, qt_95, ql_95, qt_96, ql_96, qt_97, ql_97, qt_98, ql_98, qt_99, ql_99, qt_100, ql_100, qt_101, ql_101, qt_102, ql_102, qt_103, ql_103, qt_105, ql_105, qt_106, ql_106, qt_107, ql_107, qt_108, ql_108, qt_109, ql_109, qt_110, ql_110, qt_111, ql_111, qt_113, ql_113, qt_114, ql_114, qt_115, ql_115, qt_116, ql_116, qt_117, ql_117, qt_118, ql_118, qt_119, ql_119, qt_120, ql_120, qt_121, ql_121, qt_122, ql_122, qt_123, ql_123, qt_124, ql_124, qt_125, ql_125, qt_126, ql_126, qt_127, ql_127, qt_129, ql_129, qt_130, ql_130, qt_131, ql_131, qt_132, ql_132, qt_133, ql_133, qt_134, ql_134, qt_135, ql_135, qt_137, ql_137, qt_138, ql_138, qt_139, ql_139, qt_140, ql_140, qt_141, ql_141, qt_142, ql_142, qt_143, ql_143, qt_144, ql_144, qt_145, ql_145, qt_146, ql_146, qt_147, ql_147, qt_148, ql_148, qt_149, ql_149, qt_150, ql_150, qt_151, ql_151, qt_152, ql_152, qt_153, ql_153, qt_154, ql_154, qt_155, ql_155, qt_156, ql_156, qt_157, ql_157, qt_158, ql_158, qt_159, ql_159, qt_160, ql_160, qt_161, ql_161, qt_162, ql_162, qt_163, ql_163, qt_164, ql_164, qt_165, ql_165, qt_166, ql_166, qt_167, ql_167, qt_168, ql_168, qt_169, ql_169, qt_170, ql_170, qt_171, ql_171, qt_172, ql_172, qt_173, ql_173, qt_174, ql_174, qt_175, ql_175, qt_176, ql_176, qt_177, ql_177, qt_178, ql_178, qt_179, ql_179, qt_180, ql_180, qt_181, ql_181, qt_182, ql_182, qt_183, ql_183, qt_184, ql_184, qt_185, ql_185, qt_186, ql_186, qt_187, ql_187, qt_188, ql_188, true_implies, false_implies, not_true_eq_false, not_false_eq_true, true_and, and_true, implies_true, or_true, true_or, or_false, false_or, Int.reduceEq, Int.one_ne_zero, Nat.reduceEqDiff, ha.1, ha.2, q_up_ne, h11, c_nn, Int.toNat_natCast]
    refine p72 (D := D + 14) hI1 (fun ρ u1 u2 u3 => ?_)
    have b1 := (RNS_b hv hp (CI_IOK u2) u1).2.1
    have g11 := u2.2.2.2.1.1
    simp only [q_kn_n, k119_82, k119_83, k119_86, k119_89, k119_90, k119_91, k119_93, k119_94, k119_97, k119_98, k119_101, k119_102, NS_lo hc, NS_g hc, NS_f hc, NS_u hc, NS_uf hc, Nat.reduceLT, Nat.reduceLeDiff, Nat.reduceEqDiff, not_false_eq_true, qt_1, ql_1, qt_2, ql_2, qt_3, ql_3, qt_6, ql_6, qt_7, ql_7, qt_8, ql_8, qt_10, ql_10, qt_11, ql_11, qt_12, ql_12, qt_13, ql_13, qt_14, ql_14, qt_15, ql_15, qt_16, ql_16, qt_17, ql_17, qt_18, ql_18, qt_19, ql_19, qt_20, ql_20, qt_21, ql_21, qt_22, ql_22, qt_23, ql_23, qt_24, ql_24, qt_25, ql_25, qt_26, ql_26, qt_28, ql_28, qt_29, ql_29, qt_30, ql_30, qt_31, ql_31, qt_32, ql_32, qt_33, ql_33, qt_34, ql_34, qt_35, ql_35, qt_36, ql_36, qt_37, ql_37, qt_38, ql_38, qt_40, ql_40, qt_41, ql_41, qt_42, ql_42, qt_43, ql_43, qt_44, ql_44, qt_45, ql_45, qt_46, ql_46, qt_47, ql_47, qt_48, ql_48, qt_49, ql_49, qt_50, ql_50, qt_51, ql_51, qt_52, ql_52, qt_53, ql_53, qt_54, ql_54, qt_56, ql_56, qt_57, ql_57, qt_58, ql_58, qt_59, ql_59, qt_60, ql_60, qt_61, ql_61, qt_62, ql_62, qt_63, ql_63, qt_64, ql_64, qt_65, ql_65, qt_67, ql_67, qt_68, ql_68, qt_69, ql_69, qt_70, ql_70, qt_71, ql_71, qt_73, ql_73, qt_74, ql_74, qt_75, ql_75, qt_76, ql_76, qt_78, ql_78, qt_79, ql_79, qt_80, ql_80, qt_81, ql_81, qt_82, ql_82, qt_83, ql_83, qt_84, ql_84, qt_85, ql_85, qt_86, ql_86, qt_87, ql_87, qt_89, ql_89, qt_90, ql_90, qt_91, ql_91, qt_92, ql_92, qt_93, ql_93, qt_94, ql_94, qt_95, ql_95, qt_96, ql_96, qt_97, ql_97, qt_98, ql_98, qt_99, ql_99, qt_100, ql_100, qt_101, ql_101, qt_102, ql_102, qt_103, ql_103, qt_105, ql_105, qt_106, ql_106, qt_107, ql_107, qt_108, ql_108, qt_109, ql_109, qt_110, ql_110, qt_111, ql_111, qt_113, ql_113, qt_114, ql_114, qt_115, ql_115, qt_116, ql_116, qt_117, ql_117, qt_118, ql_118, qt_119, ql_119, qt_120, ql_120, qt_121, ql_121, qt_122, ql_122, qt_123, ql_123, qt_124, ql_124, qt_125, ql_125, qt_126, ql_126, qt_127, ql_127, qt_129, ql_129, qt_130, ql_130, qt_131, ql_131, qt_132, ql_132, qt_133, ql_133, qt_134, ql_134, qt_135, ql_135, qt_137, ql_137, qt_138, ql_138, qt_139, ql_139, qt_140, ql_140, qt_141, ql_141, qt_142, ql_142, qt_143, ql_143, qt_144, ql_144, qt_145, ql_145, qt_146, ql_146, qt_147, ql_147, qt_148, ql_148, qt_149, ql_149, qt_150, ql_150, qt_151, ql_151, qt_152, ql_152, qt_153, ql_153, qt_154, ql_154, qt_155, ql_155, qt_156, ql_156, qt_157, ql_157, qt_158, ql_158, qt_159, ql_159, qt_160, ql_160, qt_161, ql_161, qt_162, ql_162, qt_163, ql_163, qt_164, ql_164, qt_165, ql_165, qt_166, ql_166, qt_167, ql_167, qt_168, ql_168, qt_169, ql_169, qt_170, ql_170, qt_171, ql_171, qt_172, ql_172, qt_173, ql_173, qt_174, ql_174, qt_175, ql_175, qt_176, ql_176, qt_177, ql_177, qt_178, ql_178, qt_179, ql_179, qt_180, ql_180, qt_181, ql_181, qt_182, ql_182, qt_183, ql_183, qt_184, ql_184, qt_185, ql_185, qt_186, ql_186, qt_187, ql_187, qt_188, ql_188, true_implies, false_implies, not_true_eq_false, not_false_eq_true, true_and, and_true, implies_true, or_true, true_or, or_false, false_or, Int.reduceEq, Int.one_ne_zero, Nat.reduceEqDiff, Int.reduceLE, Int.reduceLT, g11, c_nn, Int.toNat_natCast]
    refine p72 (D := D + 14) u2 (fun ρ' v1 v2 v3 => ?_)
    have b2 := (RNS_b hv hp (CI_IOK v2) v1).2.1
    obtain ⟨y, hy⟩ : ∃ y, y = ρ 87 4 - ρ' 87 4 := ⟨_, rfl⟩
    have R1 : q_R (ρ 87 4 - ρ' 87 4) = True := eq_true (by unfold q_R; omega)
    have R2 : q_R (lo + k + 1) = True := eq_true (by unfold q_R; omega)
    simp only [q_kn_n, k119_105, k119_107, k119_108, k119_111, k119_114, k119_115, k119_116, k119_117, k119_119, k119_121, k119_122, NS_lo hc, NS_g hc, NS_f hc, NS_u hc, NS_uf hc, Nat.reduceLT, Nat.reduceLeDiff, Nat.reduceEqDiff, not_false_eq_true, qt_1, ql_1, qt_2, ql_2, qt_3, ql_3, qt_6, ql_6, qt_7, ql_7, qt_8, ql_8, qt_10, ql_10, qt_11, ql_11, qt_12, ql_12, qt_13, ql_13, qt_14, ql_14, qt_15, ql_15, qt_16, ql_16, qt_17, ql_17, qt_18, ql_18, qt_19, ql_19, qt_20, ql_20, qt_21, ql_21, qt_22, ql_22, qt_23, ql_23, qt_24, ql_24, qt_25, ql_25, qt_26, ql_26, qt_28, ql_28, qt_29, ql_29, qt_30, ql_30, qt_31, ql_31, qt_32, ql_32, qt_33, ql_33, qt_34, ql_34, qt_35, ql_35, qt_36, ql_36, qt_37, ql_37, qt_38, ql_38, qt_40, ql_40, qt_41, ql_41, qt_42, ql_42, qt_43, ql_43, qt_44, ql_44, qt_45, ql_45, qt_46, ql_46, qt_47, ql_47, qt_48, ql_48, qt_49, ql_49, qt_50, ql_50, qt_51, ql_51, qt_52, ql_52, qt_53, ql_53, qt_54, ql_54, qt_56, ql_56, qt_57, ql_57, qt_58, ql_58, qt_59, ql_59, qt_60, ql_60, qt_61, ql_61, qt_62, ql_62, qt_63, ql_63, qt_64, ql_64, qt_65, ql_65, qt_67, ql_67, qt_68, ql_68, qt_69, ql_69, qt_70, ql_70, qt_71, ql_71, qt_73, ql_73, qt_74, ql_74, qt_75, ql_75, qt_76, ql_76, qt_78, ql_78, qt_79, ql_79, qt_80, ql_80, qt_81, ql_81, qt_82, ql_82, qt_83, ql_83, qt_84, ql_84, qt_85, ql_85, qt_86, ql_86, qt_87, ql_87, qt_89, ql_89, qt_90, ql_90, qt_91, ql_91, qt_92, ql_92, qt_93, ql_93, qt_94, ql_94, qt_95, ql_95, qt_96, ql_96, qt_97, ql_97, qt_98, ql_98, qt_99, ql_99, qt_100, ql_100, qt_101, ql_101, qt_102, ql_102, qt_103, ql_103, qt_105, ql_105, qt_106, ql_106, qt_107, ql_107, qt_108, ql_108, qt_109, ql_109, qt_110, ql_110, qt_111, ql_111, qt_113, ql_113, qt_114, ql_114, qt_115, ql_115, qt_116, ql_116, qt_117, ql_117, qt_118, ql_118, qt_119, ql_119, qt_120, ql_120, qt_121, ql_121, qt_122, ql_122, qt_123, ql_123, qt_124, ql_124, qt_125, ql_125, qt_126, ql_126, qt_127, ql_127, qt_129, ql_129, qt_130, ql_130, qt_131, ql_131, qt_132, ql_132, qt_133, ql_133, qt_134, ql_134, qt_135, ql_135, qt_137, ql_137, qt_138, ql_138, qt_139, ql_139, qt_140, ql_140, qt_141, ql_141, qt_142, ql_142, qt_143, ql_143, qt_144, ql_144, qt_145, ql_145, qt_146, ql_146, qt_147, ql_147, qt_148, ql_148, qt_149, ql_149, qt_150, ql_150, qt_151, ql_151, qt_152, ql_152, qt_153, ql_153, qt_154, ql_154, qt_155, ql_155, qt_156, ql_156, qt_157, ql_157, qt_158, ql_158, qt_159, ql_159, qt_160, ql_160, qt_161, ql_161, qt_162, ql_162, qt_163, ql_163, qt_164, ql_164, qt_165, ql_165, qt_166, ql_166, qt_167, ql_167, qt_168, ql_168, qt_169, ql_169, qt_170, ql_170, qt_171, ql_171, qt_172, ql_172, qt_173, ql_173, qt_174, ql_174, qt_175, ql_175, qt_176, ql_176, qt_177, ql_177, qt_178, ql_178, qt_179, ql_179, qt_180, ql_180, qt_181, ql_181, qt_182, ql_182, qt_183, ql_183, qt_184, ql_184, qt_185, ql_185, qt_186, ql_186, qt_187, ql_187, qt_188, ql_188, true_implies, false_implies, not_true_eq_false, not_false_eq_true, true_and, and_true, implies_true, or_true, true_or, or_false, false_or, Int.reduceEq, Int.one_ne_zero, Nat.reduceEqDiff, Int.reduceLE, Int.reduceLT, R1]
    rw [← hy]
    obtain ⟨F', hF'⟩ : ∃ F', F' = iup F (lo + k) y := ⟨_, rfl⟩
    have eF : ∀ t, t < lo + k → F' t = F t := fun t ht => by rw [hF']; unfold iup; rw [if_neg (by omega)]
    have eF1 : F' (lo + k) = y := by rw [hF']; unfold iup; rw [if_pos rfl]
    have eb := bst_ext k eF
    have hS' : SVF L pl inp len a F' lo (k + 1) := fun t t0 t1 => by
      by_cases e : t = lo + k
      · subst e
        exact ⟨ρ, ρ', u1, v1, by rw [eF1, hy]⟩
      · rw [eF t (by omega)]
        exact hS t t0 (by omega)
    have hh' : ∀ a' i, 136 ≤ a' → ρ' a' i = r0 a' i := fun a' i ha' => by rw [v3 a' i ha', u3 a' i ha', q_up_ne _ _ _ _ (by omega)]; exact hh a' i ha'
    have hin' : iup (iup inp a (lo + k)) a (inp a) = inp := by rw [iup_iup, iup_id]
    have nx := fun hb' => ih (k + 1) F' ρ' (iup inp a (lo + k)) (vi y) (by omega) v2 hin' hh' hS' hb'
    have eb1 : bst F' lo (k + 1) = if k = 0 ∨ (bst F lo k).1 < y then (y, lo + k) else bst F lo k := by
      rw [← eb, ← eF1]; rfl
    rw [eb1, Int.natCast_add, ← Int.add_assoc] at nx
    have yes : (k = 0 ∨ (bst F lo k).1 < y) → qx sc (D + 30) 119 132 [vr 0, vi a, vi lo, vi hi, vi ab, vi (inp a), vi (bst F lo k).1, vi (bst F lo k).2, vi (lo + k), vi y] [] (3, 18) bb (NS c C ρ') Q := by
      intro h
      rw [if_pos h] at nx
      simp only [k119_132, k119_134, k119_136, k119_138, k119_140, k119_143, R2, true_implies, false_implies, not_true_eq_false, not_false_eq_true, true_and, and_true, implies_true, or_true, true_or, or_false, false_or, Int.reduceEq, Int.one_ne_zero, Nat.reduceEqDiff]
      exact nx (by dsimp only; omega)
    refine ⟨fun e => yes (Or.inl (by omega)), fun e => ?_⟩
    simp only [k119_125, k119_127, k119_129]
    refine ⟨fun g => yes (Or.inr g), fun g => ?_⟩
    rw [if_neg (by omega)] at nx
    simp only [k119_140, k119_143, R2, true_implies, false_implies, not_true_eq_false, not_false_eq_true, true_and, and_true, implies_true, or_true, true_or, or_false, false_or, Int.reduceEq, Int.one_ne_zero, Nat.reduceEqDiff]
    exact nx hb
/-- saves -/
theorem p119 (hI : CI c C r m L pl n f ft inp len) (kk : ∀ F, (svok a lo hi → SVF L pl inp len a F lo (hi - lo + 1).toNat) → CPO Q bb (NS c C r) (o_sav a lo hi ab F) m L pl n f ft inp len) : qx sc (D + 30) 119 0 [vr 0, vi a, vi lo, vi hi, vi ab, vn, vn, vn, vn, vn] [] (0, 0) bb (NS c C r) Q := by
  have hc := hI.1
  have h9 := hI.2.2.2.2.2.2.2.2
  unfold o_sav at kk
  by_cases h : svok a lo hi
  · simp only [if_pos h] at kk
    obtain ⟨h1, h2, h3, h4, h5⟩ := id h
    have n1 : ¬ hi < lo := by omega
    have n2 : ¬ 20 < hi - lo := by omega
    have R : q_R (hi - lo) = True := eq_true (by unfold q_R; omega)
    have e2 := (h9 a h1.1 (by omega)).1.1
    have hInp := (h9 a h1.1 (by omega)).2.1
    simp only [k119_0, k119_1, k119_2, k119_5, k119_6, k119_7, k119_10, k119_11, k119_12, k119_15, k119_16, k119_17, k119_20, k119_21, k119_22, k119_23, k119_25, k119_39, k119_40, k119_43, k119_44, k119_45, k119_47, k119_48, k119_50, k119_51, k119_53, k119_54, d109_y h1, d110_y h2, d110_y h3, q_kn_n, n1, n2, R, NS_lo hc, NS_g hc, NS_f hc, NS_u hc, NS_uf hc, Nat.reduceLT, Nat.reduceLeDiff, Nat.reduceEqDiff, not_false_eq_true, qt_1, ql_1, qt_2, ql_2, qt_3, ql_3, qt_6, ql_6, qt_7, ql_7, qt_8, ql_8, qt_10, ql_10, qt_11, ql_11, qt_12, ql_12, qt_13, ql_13, qt_14, ql_14, qt_15, ql_15, qt_16, ql_16, qt_17, ql_17, qt_18, ql_18, qt_19, ql_19, qt_20, ql_20, qt_21, ql_21, qt_22, ql_22, qt_23, ql_23, qt_24, ql_24, qt_25, ql_25, qt_26, ql_26, qt_28, ql_28, qt_29, ql_29, qt_30, ql_30, qt_31, ql_31, qt_32, ql_32, qt_33, ql_33, qt_34, ql_34, qt_35, ql_35, qt_36, ql_36, qt_37, ql_37, qt_38, ql_38, qt_40, ql_40, qt_41, ql_41, qt_42, ql_42, qt_43, ql_43, qt_44, ql_44, qt_45, ql_45, qt_46, ql_46, qt_47, ql_47, qt_48, ql_48, qt_49, ql_49, qt_50, ql_50, qt_51, ql_51, qt_52, ql_52, qt_53, ql_53, qt_54, ql_54, qt_56, ql_56, qt_57, ql_57, qt_58, ql_58, qt_59, ql_59, qt_60, ql_60, qt_61, ql_61, qt_62, ql_62, qt_63, ql_63, qt_64, ql_64, qt_65, ql_65, qt_67, ql_67, qt_68, ql_68, qt_69, ql_69, qt_70, ql_70, qt_71, ql_71, qt_73, ql_73, qt_74, ql_74, qt_75, ql_75, qt_76, ql_76, qt_78, ql_78, qt_79, ql_79, qt_80, ql_80, qt_81, ql_81, qt_82, ql_82, qt_83, ql_83, qt_84, ql_84, qt_85, ql_85, qt_86, ql_86, qt_87, ql_87, qt_89, ql_89, qt_90, ql_90, qt_91, ql_91, qt_92, ql_92, qt_93, ql_93, qt_94, ql_94, qt_95, ql_95, qt_96, ql_96, qt_97, ql_97, qt_98, ql_98, qt_99, ql_99, qt_100, ql_100, qt_101, ql_101, qt_102, ql_102, qt_103, ql_103, qt_105, ql_105, qt_106, ql_106, qt_107, ql_107, qt_108, ql_108, qt_109, ql_109, qt_110, ql_110, qt_111, ql_111, qt_113, ql_113, qt_114, ql_114, qt_115, ql_115, qt_116, ql_116, qt_117, ql_117, qt_118, ql_118, qt_119, ql_119, qt_120, ql_120, qt_121, ql_121, qt_122, ql_122, qt_123, ql_123, qt_124, ql_124, qt_125, ql_125, qt_126, ql_126, qt_127, ql_127, qt_129, ql_129, qt_130, ql_130, qt_131, ql_131, qt_132, ql_132, qt_133, ql_133, qt_134, ql_134, qt_135, ql_135, qt_137, ql_137, qt_138, ql_138, qt_139, ql_139, qt_140, ql_140, qt_141, ql_141, qt_142, ql_142, qt_143, ql_143, qt_144, ql_144, qt_145, ql_145, qt_146, ql_146, qt_147, ql_147, qt_148, ql_148, qt_149, ql_149, qt_150, ql_150, qt_151, ql_151, qt_152, ql_152, qt_153, ql_153, qt_154, ql_154, qt_155, ql_155, qt_156, ql_156, qt_157, ql_157, qt_158, ql_158, qt_159, ql_159, qt_160, ql_160, qt_161, ql_161, qt_162, ql_162, qt_163, ql_163, qt_164, ql_164, qt_165, ql_165, qt_166, ql_166, qt_167, ql_167, qt_168, ql_168, qt_169, ql_169, qt_170, ql_170, qt_171, ql_171, qt_172, ql_172, qt_173, ql_173, qt_174, ql_174, qt_175, ql_175, qt_176, ql_176, qt_177, ql_177, qt_178, ql_178, qt_179, ql_179, qt_180, ql_180, qt_181, ql_181, qt_182, ql_182, qt_183, ql_183, qt_184, ql_184, qt_185, ql_185, qt_186, ql_186, qt_187, ql_187, qt_188, ql_188, true_implies, false_implies, not_true_eq_false, not_false_eq_true, true_and, and_true, implies_true, or_true, true_or, or_false, false_or, Int.reduceEq, Int.one_ne_zero, Nat.reduceEqDiff, h1.1, h1.2, e2]
    have key := p119_l (sc := sc) (D := D) (bb := bb) (Q := Q) (c := c) (C := C) (r0 := r) (m := m) (L := L) (pl := pl) (n := n) (f := f) (ft := ft) (inp := inp) (len := len) (ab := ab) (F := fun _ => 0) (l9 := vn) h1 h2 h3 (fun _ _ => trivial) (fun F hF => kk F (fun _ => hF)) hInp (hi + 1 - lo).toNat 0 (fun _ => 0) r inp vn (by omega) hI iup_id (fun _ _ _ => rfl) (fun t t0 t1 => absurd t1 (by omega)) (by unfold bst; dsimp only; decide)
    have e0 : lo + ((0 : Nat) : Int) = lo := Int.add_zero lo
    rw [e0] at key
    exact key
  · simp only [if_neg h] at kk
    have kq := CPO_s hI (kk (fun _ => 0) (fun q => absurd q h))
    by_cases h1 : 0 ≤ a ∧ a < 3
    · by_cases h2 : -99 ≤ lo ∧ lo ≤ 99
      · by_cases h3 : -99 ≤ hi ∧ hi ≤ 99
        · have R : q_R (hi - lo) = True := eq_true (by unfold q_R; omega)
          by_cases n1 : hi < lo
          · simp only [k119_0, k119_1, k119_2, k119_5, k119_6, k119_7, k119_10, k119_11, k119_12, k119_15, k119_16, k119_17, k119_20, k119_21, k119_22, k119_23, k119_25, k119_28, d109_y h1, d110_y h2, d110_y h3, q_kn_n, n1, true_implies, false_implies, not_true_eq_false, not_false_eq_true, true_and, and_true, implies_true, or_true, true_or, or_false, false_or, Int.reduceEq, Int.one_ne_zero, Nat.reduceEqDiff]
            exact kq
          · have n2 : 20 < hi - lo := by omega
            simp only [k119_0, k119_1, k119_2, k119_5, k119_6, k119_7, k119_10, k119_11, k119_12, k119_15, k119_16, k119_17, k119_20, k119_21, k119_22, k119_23, k119_25, k119_28, d109_y h1, d110_y h2, d110_y h3, q_kn_n, n1, n2, R, true_implies, false_implies, not_true_eq_false, not_false_eq_true, true_and, and_true, implies_true, or_true, true_or, or_false, false_or, Int.reduceEq, Int.one_ne_zero, Nat.reduceEqDiff]
            exact kq
        · simp only [k119_0, k119_1, k119_2, k119_5, k119_6, k119_7, k119_10, k119_11, k119_12, d109_y h1, d110_y h2, d110_n h3, q_kn_n, q_kn_e]
          exact kq
      · simp only [k119_0, k119_1, k119_2, k119_5, k119_6, k119_7, d109_y h1, d110_n h2, q_kn_n, q_kn_e]
        exact kq
    · simp only [k119_0, k119_1, k119_2, d109_n h1, q_kn_e]
      exact kq
end CSV
