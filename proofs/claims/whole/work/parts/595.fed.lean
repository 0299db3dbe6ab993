/-! numbers on the tape -/
def fedF (f : Int → Int) (n : Int) (g : Int → Int) : Int → Int := fun i => if i < n then f i else bR (g ((i - n) / 4)) (24 - 8 * ((i - n) % 4))
def five (x0 x1 x2 x3 x4 : Int) : Int → Int := fun j => if j = 0 then x0 else if j = 1 then x1 else if j = 2 then x2 else if j = 3 then x3 else x4
def o_fed (n : Int) : OC := .inl (if n + 20 ≤ 400 then n + 20 else -1)
def fedN (n : Int) : Int := if n + 20 ≤ 400 then n + 20 else n
def fedU (f : Int → Int) (n : Int) (g : Int → Int) : Int → Int := if n + 20 ≤ 400 then fedF f n g else f
/-- the tape up to p, a number being partly there -/
def TPE (r0 r : St) (f : Int → Int) (p : Int) : Prop := r 0 13 = p ∧ BYT f (r 1) p ∧ ∀ a i, ¬ a = 1 → ¬ (a = 0 ∧ i = 13) → r a i = r0 a i
section FED
variable {sc : Nat × (Nat → Int32)} {D : Nat} {bb : Bool} {Q : QP} {c : Nat} {C r r0 r' σ : St} {m : Int} {L : List (ST 5)} {pl f f' inp len inp' len' g : Int → Int} {n n' ft ft' a b x y k w v l s ab p : Int} {O : OC}
theorem d122_s (hc : q_C c) (hs : s = 0 ∨ s = 8 ∨ s = 16 ∨ s = 24) (hT : TPE r0 r f p) (p0 : 0 ≤ p) (p4 : p < 400) (hf : f p = bR x s) (kk : ∀ r', TPE r0 r' f (p + 1) → qx sc D 122 3 [vr 0, vi x, vi (s + (-8))] [] (0, 0) bb (NS c C r') Q) : qx sc D 122 3 [vr 0, vi x, vi s] [] (0, 0) bb (NS c C r) Q := by
  obtain ⟨h13, hB, hF⟩ := hT
  have n1 : ¬ s < 0 := by omega
  have R1 : q_R (p + 1) = True := eq_true (by unfold q_R; omega)
  have R2 : q_R (s + (-8)) = True := eq_true (by unfold q_R; omega)
  rw [k122_3]
  simp only [k122_4, k122_7, k122_8, k122_11, k122_12, k122_15, k122_16, k122_17, k122_18, k122_21, k122_22, k122_23, k122_24, k122_25, k122_28, k122_29, k122_30, k122_33, k122_36, n1, NS_lo hc, NS_g hc, NS_f hc, NS_u hc, NS_uf hc, Nat.reduceLT, Nat.reduceLeDiff, Nat.reduceEqDiff, not_false_eq_true, qt_1, ql_1, qt_2, ql_2, qt_3, ql_3, qt_6, ql_6, qt_7, ql_7, qt_8, ql_8, qt_10, ql_10, qt_11, ql_11, qt_12, ql_12, qt_13, ql_13, qt_14, ql_14, qt_15, ql_15, qt_16, ql_16, qt_17, ql_17, qt_18, ql_18, qt_19, ql_19, qt_20, ql_20, qt_21, ql_21, qt_22, ql_22, qt_23, ql_23, qt_24, ql_24, qt_25, ql_25, qt_26, ql_26, qt_28, ql_28, qt_29, ql_29, qt_30, ql_30, qt_31, ql_31, qt_32, ql_32, qt_33, ql_33, qt_34, ql_34, qt_35, ql_35, qt_36, ql_36, qt_37, ql_37, qt_38, ql_38, qt_40, ql_40, qt_41, ql_41, qt_42, ql_42, qt_43, ql_43, qt_44, ql_44, qt_45, ql_45, qt_46, ql_46, qt_47, ql_47, qt_48, ql_48, qt_49, ql_49, qt_50, ql_50, qt_51, ql_51, qt_52, ql_52, qt_53, ql_53, qt_54, ql_54, qt_56, ql_56, qt_57, ql_57, qt_58, ql_58, qt_59, ql_59, qt_60, ql_60, qt_61, ql_61, qt_62, ql_62, qt_63, ql_63, qt_64, ql_64, qt_65, ql_65, qt_67, ql_67, qt_68, ql_68, qt_69, ql_69, qt_70, ql_70, qt_71, ql_71, qt_73, ql_73, qt_74, ql_74, qt_75, ql_75, qt_76, ql_76, qt_78, ql_78, qt_79, ql_79, qt_80, ql_80, qt_81, ql_81, qt_82, ql_82, qt_83, ql_83, qt_84, ql_84, qt_85, ql_85, qt_86, ql_86, qt_87, ql_87, qt_89, ql_89, qt_90, ql_90, qt_91, ql_91, qt_92, ql_92, qt_93, ql_93, qt_94, ql_94, qt_95, ql_95, qt_96, ql_96, qt_97, ql_97, qt_98, ql_98, qt_99, ql_99, qt_100, ql_100, qt_101, ql_101, qt_102, ql_102, qt_103, ql_103, qt_105, ql_105, qt_106, ql_106, qt_107, ql_107, qt_108, ql_108, qt_109, ql_109, qt_110, ql_110, qt_111, ql_111, qt_113, ql_113, qt_114, ql_114, qt_115, ql_115, qt_116, ql_116, qt_117, ql_117, qt_118, ql_118, qt_119, ql_119, qt_120, ql_120, qt_121, ql_121, qt_122, ql_122, qt_123, ql_123, qt_124, ql_124, qt_125, ql_125, qt_126, ql_126, qt_127, ql_127, qt_129, ql_129, qt_130, ql_130, qt_131, ql_131, qt_132, ql_132, qt_133, ql_133, qt_134, ql_134, qt_135, ql_135, qt_137, ql_137, qt_138, ql_138, qt_139, ql_139, qt_140, ql_140, qt_141, ql_141, qt_142, ql_142, qt_143, ql_143, qt_144, ql_144, qt_145, ql_145, qt_146, ql_146, qt_147, ql_147, qt_148, ql_148, qt_149, ql_149, qt_150, ql_150, qt_151, ql_151, qt_152, ql_152, qt_153, ql_153, qt_154, ql_154, qt_155, ql_155, qt_156, ql_156, qt_157, ql_157, qt_158, ql_158, qt_159, ql_159, qt_160, ql_160, qt_161, ql_161, qt_162, ql_162, qt_163, ql_163, qt_164, ql_164, qt_165, ql_165, qt_166, ql_166, qt_167, ql_167, qt_168, ql_168, qt_169, ql_169, qt_170, ql_170, qt_171, ql_171, qt_172, ql_172, qt_173, ql_173, qt_174, ql_174, qt_175, ql_175, qt_176, ql_176, qt_177, ql_177, qt_178, ql_178, qt_179, ql_179, qt_180, ql_180, qt_181, ql_181, qt_182, ql_182, qt_183, ql_183, qt_184, ql_184, qt_185, ql_185, qt_186, ql_186, qt_187, ql_187, qt_188, ql_188, true_implies, false_implies, not_true_eq_false, not_false_eq_true, true_and, and_true, implies_true, or_true, true_or, or_false, false_or, Int.reduceEq, Int.one_ne_zero, Nat.reduceEqDiff, h13, p0, p4, q_up_ne, R1, R2]
  refine kk _ ⟨q_up_eq _ _ _ _, fun i i0 i1 => ?_, fun a i h1 h2 => ?_⟩
  · rw [q_up_ne _ _ _ _ (by decide), q_up_app]
    by_cases e : i = p
    · rw [if_pos ⟨rfl, e⟩, e, hf]
      exact b_CR hs
    · rw [if_neg (by omega)]; exact hB i i0 (by omega)
  · rw [q_up_app, if_neg h2, q_up_ne _ _ _ _ h1]; exact hF a i h1 h2
theorem d122 (hc : q_C c) (hT : TPE r0 r f p) (p0 : 0 ≤ p) (p4 : p + 4 ≤ 400) (hf : ∀ t, 0 ≤ t → t < 4 → f (p + t) = bR x (24 - 8 * t)) (kk : ∀ r', TPE r0 r' f (p + 4) → Q (.inl none) bb (NS c C r')) : qx sc D 122 0 [vr 0, vi x, vn] [] (0, 0) bb (NS c C r) Q := by
  simp only [k122_0, k122_2]
  have f0 := hf 0 (by decide) (by decide)
  have f1 := hf 1 (by decide) (by decide)
  have f2 := hf 2 (by decide) (by decide)
  have f3 := hf 3 (by decide) (by decide)
  rw [Int.add_zero] at f0
  refine d122_s hc (by omega) hT p0 (by omega) f0 (fun r1 h1 => ?_)
  refine d122_s hc (by omega) h1 (by omega) (by omega) f1 (fun r2 h2 => ?_)
  refine d122_s hc (by omega) h2 (by omega) (by omega) (by rw [show p + 1 + 1 = p + 2 by omega]; exact f2) (fun r3 h3 => ?_)
  refine d122_s hc (by omega) h3 (by omega) (by omega) (by rw [show p + 1 + 1 + 1 = p + 3 by omega]; exact f3) (fun r4 h4 => ?_)
  rw [k122_3]
  simp only [k122_4, k122_39, Int.reduceAdd, Int.reduceLT, true_implies, false_implies, not_true_eq_false, not_false_eq_true, true_and, and_true, implies_true, or_true, true_or, or_false, false_or, Int.reduceEq, Int.one_ne_zero, Nat.reduceEqDiff]
  rw [show p + 1 + 1 + 1 + 1 = p + 4 by omega] at h4
  exact kk r4 h4
theorem fedF_at {j t : Int} (j0 : 0 ≤ j) (t0 : 0 ≤ t) (t4 : t < 4) : fedF f n g (n + 4 * j + t) = bR (g j) (24 - 8 * t) := by
  unfold fedF
  rw [if_neg (by omega), show (n + 4 * j + t - n) / 4 = j by omega, show (n + 4 * j + t - n) % 4 = t by omega]
/-- feed -/
theorem p102 {x0 x1 x2 x3 x4 : Int} (hI : CI c C r m L pl n f ft inp len) (kk : CPO Q bb (NS c C r) (o_fed n) m L pl (fedN n) (fedU f n (five x0 x1 x2 x3 x4)) ft inp len) : qx sc (D + 30) 102 0 [vr 0, vi x0, vi x1, vi x2, vi x3, vi x4] [] (0, 0) bb (NS c C r) Q := by
  have hc := hI.1
  obtain ⟨h13, n0, n4, hB⟩ := hI.2.2.2.2.2.2.1
  have h9 := hI.2.2.2.2.2.2.2.2
  have h14 := hI.2.2.2.2.2.2.2.1
  have R : q_R (n + 20) = True := eq_true (by unfold q_R; omega)
  unfold o_fed fedN fedU at kk
  by_cases h : n + 20 ≤ 400
  · rw [if_pos h, if_pos h, if_pos h] at kk
    have h' : ¬ 400 < n + 20 := by omega
    obtain ⟨F, hF⟩ : ∃ F, F = fedF f n (five x0 x1 x2 x3 x4) := ⟨_, rfl⟩
    rw [← hF] at kk
    have hT : TPE r r F n := ⟨h13, fun i i0 i1 => by
      have e : F i = f i := by rw [hF]; unfold fedF; rw [if_pos i1]
      rw [e]; exact hB i i0 i1, fun _ _ _ _ => rfl⟩
    have st : ∀ j : Int, 0 ≤ j → j < 5 → ∀ t, 0 ≤ t → t < 4 → F (n + 4 * j + t) = bR (five x0 x1 x2 x3 x4 j) (24 - 8 * t) := fun j j0 j1 t t0 t1 => by rw [hF]; exact fedF_at j0 t0 t1
    have s0 := st 0 (by decide) (by decide)
    have s1 := st 1 (by decide) (by decide)
    have s2 := st 2 (by decide) (by decide)
    have s3 := st 3 (by decide) (by decide)
    have s4 := st 4 (by decide) (by decide)
    rw [show n + 4 * 0 = n by omega] at s0
    rw [show n + 4 * 1 = n + 4 by omega] at s1
    rw [show n + 4 * 2 = n + 4 + 4 by omega] at s2
    rw [show n + 4 * 3 = n + 4 + 4 + 4 by omega] at s3
    rw [show n + 4 * 4 = n + 4 + 4 + 4 + 4 by omega] at s4
    simp only [k102_0, k102_1, k102_4, k102_6, k102_7, k102_10, k102_15, k102_16, k102_17, NS_lo hc, NS_g hc, NS_f hc, NS_u hc, NS_uf hc, Nat.reduceLT, Nat.reduceLeDiff, Nat.reduceEqDiff, not_false_eq_true, true_implies, false_implies, not_true_eq_false, not_false_eq_true, true_and, and_true, implies_true, or_true, true_or, or_false, false_or, Int.reduceEq, Int.one_ne_zero, Nat.reduceEqDiff, h13, R, h']
    refine d122 hc hT n0 (by omega) s0 (fun r1 h1 => ?_)
    simp only [q_kn_n, k102_20, k102_21, k102_22]
    refine d122 hc h1 (by omega) (by omega) s1 (fun r2 h2 => ?_)
    simp only [q_kn_n, k102_25, k102_26, k102_27]
    refine d122 hc h2 (by omega) (by omega) s2 (fun r3 h3 => ?_)
    simp only [q_kn_n, k102_30, k102_31, k102_33]
    refine d122 hc h3 (by omega) (by omega) s3 (fun r4 h4 => ?_)
    simp only [q_kn_n, k102_36, k102_37, k102_39]
    refine d122 hc h4 (by omega) (by omega) s4 (fun r5 h5 => ?_)
    rw [show n + 4 + 4 + 4 + 4 + 4 = n + 20 by omega] at h5
    obtain ⟨g13, gB, gF⟩ := h5
    simp only [q_kn_n, k102_42, k102_43, k102_46, NS_lo hc, NS_g hc, NS_f hc, NS_u hc, NS_uf hc, Nat.reduceLT, Nat.reduceLeDiff, Nat.reduceEqDiff, not_false_eq_true, true_implies, false_implies, not_true_eq_false, not_false_eq_true, true_and, and_true, implies_true, or_true, true_or, or_false, false_or, Int.reduceEq, Int.one_ne_zero, Nat.reduceEqDiff, g13]
    refine kk c C r5 (CI_gen hI (fun a i ha => gF a i (by unfold CSX at ha; omega) (by unfold CSX at ha; omega)) ⟨g13, by omega, h, gB⟩ ?_ (fun d d0 d1 => ?_)) (fun a i ha => ?_)
    · rw [gF 0 14 (by decide) (by decide)]; exact h14
    · rw [gF 2 d (by decide) (by omega), gF 3 d (by decide) (by omega)]; exact h9 d d0 d1
    · rw [NS_hi hc ha, NS_hi hc ha]; exact gF a i (by omega) (by omega)
  · rw [if_neg h, if_neg h, if_neg h] at kk
    have kq := CPO_s hI kk
    have h' : 400 < n + 20 := by omega
    simp only [k102_0, k102_1, k102_4, k102_6, k102_7, k102_10, k102_13, k102_14, NS_lo hc, NS_g hc, NS_f hc, NS_u hc, NS_uf hc, Nat.reduceLT, Nat.reduceLeDiff, Nat.reduceEqDiff, not_false_eq_true, true_implies, false_implies, not_true_eq_false, not_false_eq_true, true_and, and_true, implies_true, or_true, true_or, or_false, false_or, Int.reduceEq, Int.one_ne_zero, Nat.reduceEqDiff, h13, R, h']
    exact kq
end FED
