/-! the class runs -/
/-- a run from its beginning to its end -/
def RNS (L : List (ST 5)) (pl inp len : Int → Int) (how : Int) (ρ : St) : Prop := ∃ (r r0 : St) (c : Nat), INI r r0 c pl (nV L) how ∧ (∀ d, 0 ≤ d → d ≤ 2 → r 2 d = inp d ∧ r 3 d = len d) ∧ ρ = (r_L (GG L) pl (nV L) (nK L) how 5 L 0 r0).1
def IOK (inp len : Int → Int) : Prop := ∀ d, 0 ≤ d → d ≤ 2 → (-99 ≤ inp d ∧ inp d ≤ 99) ∧ (0 ≤ len d ∧ len d ≤ 40)
def o_run (how w : Int) (ρ : St) : OC := if 0 ≤ how ∧ how < 3 then (if 0 ≤ w ∧ w < 7 then .inl (ρ 87 w) else .inr (2, 2)) else .inr (0, 1)
def o_out (how i : Int) (ρ : St) : OC := if 0 ≤ how ∧ how < 3 then (if 0 ≤ i ∧ i < ρ 87 3 then .inl (ρ 86 i) else .inr (2, 2)) else .inr (0, 1)
def o_pla (pl : Int → Int) (how b i : Int) (ρ : St) : OC := o_in b 3 (if 0 ≤ how ∧ how < 3 then (if ¬ pl b = -1 ∧ 0 ≤ i ∧ i < ρ 85 b then .inl (ρ (82 + b.toNat) i) else .inr (2, 3)) else .inr (0, 2))
def o_was (L : List (ST 5)) (how v : Int) (ρ : St) : OC := o_in v (nV L) (if 0 ≤ how ∧ how < 3 then .inl (ρ 80 v) else .inr (0, 2))
section CRN
variable {sc : Nat × (Nat → Int32)} {D : Nat} {bb : Bool} {Q : QP} {c : Nat} {C r r0 r' σ ρ : St} {m : Int} {L : List (ST 5)} {pl f f' inp len inp' len' g : Int → Int} {n n' ft ft' a b x y k w v l s ab p q how i : Int} {O : OC}
theorem CI_IOK (hI : CI c C r m L pl n f ft inp len) : IOK inp len := fun d d0 d1 => (hI.2.2.2.2.2.2.2.2 d d0 d1).2
theorem RNS_b (hv : VALl (VALS pl 5) L) (hp : PRO (GG L) pl (nV L) (nS L) (nK L) (nL L)) (hi : IOK inp len) (h : RNS L pl inp len how ρ) : (0 ≤ ρ 87 3 ∧ ρ 87 3 ≤ 300) ∧ (0 ≤ ρ 87 4 ∧ ρ 87 4 ≤ 40000) ∧ (∀ d, 0 ≤ d → d ≤ 2 → ρ 85 d = max (len d) (pl d) ∧ 0 ≤ ρ 85 d ∧ ρ 85 d ≤ 40) := by
  obtain ⟨r, r0, c, hI, h23, rfl⟩ := h
  obtain ⟨hL, hG⟩ := INI_GST hv hp (fun d d0 d1 => by rw [(h23 d d0 d1).2]; exact (hi d d0 d1).2) (fun d d0 d1 => by rw [(h23 d d0 d1).1]; exact (hi d d0 d1).1) hI
  obtain ⟨h1, h2, h3⟩ := (RES_S (how := how) hp hL 5).2 L hv (-1) 0 0 0 8 0 id8 (PCX_P hv) r0 hG
  have e85 : ∀ d, 0 ≤ d → d ≤ 2 → (r_L (GG L) pl (nV L) (nK L) how 5 L 0 r0).1 85 d = max (len d) (pl d) ∧ 0 ≤ (r_L (GG L) pl (nV L) (nK L) how 5 L 0 r0).1 85 d ∧ (r_L (GG L) pl (nV L) (nK L) how 5 L 0 r0).1 85 d ≤ 40 := fun d d0 d1 => by
    have e1 := h1.1 85 d (by unfold RUC; decide)
    have e2 := hI.2.2.2.2.2.2.1 d d0 d1
    rw [(h23 d d0 d1).2] at e2
    rw [e1, e2]
    have b1 := (hi d d0 d1).2
    have b2 := hp.2.2.1 d (by omega)
    omega
  cases hb : (r_L (GG L) pl (nV L) (nK L) how 5 L 0 r0).2 with
  | true =>
    obtain ⟨⟨⟨-, a2, a3, -, -, a6, -⟩, -⟩, -⟩ := h2 hb
    exact ⟨by omega, by have := a2.1; omega, e85⟩
  | false =>
    obtain ⟨a1, a2, a3⟩ := h3 hb
    exact ⟨a2, a1.1, e85⟩
/-- perform -/
theorem p72 (hI : CI c C r m L pl n f ft inp len) (kk : ∀ ρ, RNS L pl inp len how ρ → CI c C ρ m L pl n f ft inp len → (∀ a i, 136 ≤ a → ρ a i = r a i) → Q (.inl none) bb (NS c C ρ)) : qx sc (D + 15) 72 0 [vr 77, vr c, vi how, vn, vn] [] (0, 0) bb (NS c C r) Q := by
  have hc := hI.1
  have hv := hI.2.1
  have hk := hI.2.2.1
  have h9 := hI.2.2.2.2.2.2.2.2
  have h3 : ∀ b, 0 ≤ b → b ≤ 2 → 0 ≤ r 3 b ∧ r 3 b ≤ 40 := fun d d0 d1 => by rw [(h9 d d0 d1).1.2]; exact (h9 d d0 d1).2.2
  have h2 : ∀ d, 0 ≤ d → d ≤ 2 → -99 ≤ r 2 d ∧ r 2 d ≤ 99 := fun d d0 d1 => by rw [(h9 d d0 d1).1.1]; exact (h9 d d0 d1).2.1
  refine q72 hc hv hk h3 h2 (fun r0 hN => ?_)
  obtain ⟨hL, hG⟩ := INI_GST hv hk.1 h3 h2 hN
  obtain ⟨h1, -, -⟩ := (RES_S (how := how) hk.1 hL 5).2 L hv (-1) 0 0 0 8 0 id8 (PCX_P hv) r0 hG
  have fr : ∀ a i, ¬ RUC a → ¬ a = 85 → ¬ a = 77 → (r_L (GG L) pl (nV L) (nK L) how 5 L 0 r0).1 a i = r a i := fun a i a1 a2 a3 => by rw [h1.1 a i a1, hN.1 a i a1 a2 (by omega)]
  refine kk _ ⟨r, r0, c, hN, fun d d0 d1 => (h9 d d0 d1).1, rfl⟩ (CI_gen hI (fun a i ha => fr a i (by unfold CSX RUC at *; omega) (by unfold CSX at ha; omega) (by unfold CSX at ha; omega)) ?_ ?_ (fun d d0 d1 => ?_)) (fun a i ha => fr a i (by unfold RUC; omega) (by omega) (by omega))
  · rw [fr 0 13 (by unfold RUC; decide) (by decide) (by decide), show (r_L (GG L) pl (nV L) (nK L) how 5 L 0 r0).1 1 = r 1 from funext (fun i => fr 1 i (by unfold RUC; decide) (by decide) (by decide))]
    exact hI.2.2.2.2.2.2.1
  · rw [fr 0 14 (by unfold RUC; decide) (by decide) (by decide)]; exact hI.2.2.2.2.2.2.2.1
  · rw [fr 2 d (by unfold RUC; decide) (by decide) (by decide), fr 3 d (by unfold RUC; decide) (by decide) (by decide)]; exact h9 d d0 d1
theorem CPO_h (hI : CI c C ρ m L pl n f ft inp len) (hh : ∀ a i, 136 ≤ a → ρ a i = r a i) (kk : CPO Q bb (NS c C r) O m L pl n f ft inp len) : Q (ocv O) (ocb bb O) (NS c C ρ) := kk c C ρ hI (fun a i ha => by rw [NS_hi hI.1 ha, NS_hi hI.1 ha, hh a i ha])
/-- run -/
theorem p118 (hI : CI c C r m L pl n f ft inp len) (kk : ∀ ρ, ((0 ≤ how ∧ how < 3) ∧ 0 ≤ w ∧ w < 7 → RNS L pl inp len how ρ) → CPO Q bb (NS c C r) (o_run how w ρ) m L pl n f ft inp len) : qx sc (D + 30) 118 0 [vr 0, vi how, vi w] [] (0, 0) bb (NS c C r) Q := by
  have hc := hI.1
  have h11 := hI.2.2.2.1.1
  unfold o_run at kk
  by_cases hh : 0 ≤ how ∧ how < 3
  · simp only [if_pos hh] at kk
    by_cases hw : 0 ≤ w ∧ w < 7
    · simp only [if_pos hw] at kk
      have n1 : ¬ w < 0 := by omega
      simp only [k118_0, k118_1, k118_2, k118_5, k118_6, k118_9, k118_10, k118_12, k118_25, k118_26, k118_29, k118_30, k118_33, k118_34, d108_y hh, q_kn_n, NS_lo hc, NS_g hc, NS_f hc, NS_u hc, NS_uf hc, Nat.reduceLT, Nat.reduceLeDiff, Nat.reduceEqDiff, not_false_eq_true, true_implies, false_implies, not_true_eq_false, not_false_eq_true, true_and, and_true, implies_true, or_true, true_or, or_false, false_or, Int.reduceEq, Int.one_ne_zero, Nat.reduceEqDiff, n1, hw.2, h11, c_nn, Int.toNat_natCast]
      refine p72 (D := D + 14) hI (fun ρ h1 h2 h3 => ?_)
      have kq := CPO_h h2 h3 (kk ρ (fun _ => h1))
      simp only [q_kn_n, k118_37, k118_38, k118_41, k118_44, k118_45, k118_46, NS_lo hc, NS_g hc, NS_f hc, NS_u hc, NS_uf hc, Nat.reduceLT, Nat.reduceLeDiff, Nat.reduceEqDiff, not_false_eq_true, qt_1, ql_1, qt_2, ql_2, qt_3, ql_3, qt_6, ql_6, qt_7, ql_7, qt_8, ql_8, qt_10, ql_10, qt_11, ql_11, qt_12, ql_12, qt_13, ql_13, qt_14, ql_14, qt_15, ql_15, qt_16, ql_16, qt_17, ql_17, qt_18, ql_18, qt_19, ql_19, qt_20, ql_20, qt_21, ql_21, qt_22, ql_22, qt_23, ql_23, qt_24, ql_24, qt_25, ql_25, qt_26, ql_26, qt_28, ql_28, qt_29, ql_29, qt_30, ql_30, qt_31, ql_31, qt_32, ql_32, qt_33, ql_33, qt_34, ql_34, qt_35, ql_35, qt_36, ql_36, qt_37, ql_37, qt_38, ql_38, qt_40, ql_40, qt_41, ql_41, qt_42, ql_42, qt_43, ql_43, qt_44, ql_44, qt_45, ql_45, qt_46, ql_46, qt_47, ql_47, qt_48, ql_48, qt_49, ql_49, qt_50, ql_50, qt_51, ql_51, qt_52, ql_52, qt_53, ql_53, qt_54, ql_54, qt_56, ql_56, qt_57, ql_57, qt_58, ql_58, qt_59, ql_59, qt_60, ql_60, qt_61, ql_61, qt_62, ql_62, qt_63, ql_63, qt_64, ql_64, qt_65, ql_65, qt_67, ql_67, qt_68, ql_68, qt_69, ql_69, qt_70, ql_70, qt_71, ql_71, qt_73, ql_73, qt_74, ql_74, qt_75, ql_75, qt_76, ql_76, qt_78, ql_78, qt_79, ql_79, qt_80, ql_80, qt_81, ql_81, qt_82, ql_82, qt_83, ql_83, qt_84, ql_84, qt_85, ql_85, qt_86, ql_86, qt_87, ql_87, qt_89, ql_89, qt_90, ql_90, qt_91, ql_91, qt_92, ql_92, qt_93, ql_93, qt_94, ql_94, qt_95, ql_95, qt_96, ql_96, qt_97, ql_97, qt_98, ql_98, qt_99, ql_99, qt_100, ql_100, qt_101, ql_101, qt_102, ql_102, qt_103, ql_103, qt_105, ql_105, qt_106, ql_106, qt_107, ql_107, qt_108, ql_108, qt_109, ql_109, qt_110, ql_110, qt_111, ql_111, qt_113, ql_113, qt_114, ql_114, qt_115, ql_115, qt_116, ql_116, qt_117, ql_117, qt_118, ql_118, qt_119, ql_119, qt_120, ql_120, qt_121, ql_121, qt_122, ql_122, qt_123, ql_123, qt_124, ql_124, qt_125, ql_125, qt_126, ql_126, qt_127, ql_127, qt_129, ql_129, qt_130, ql_130, qt_131, ql_131, qt_132, ql_132, qt_133, ql_133, qt_134, ql_134, qt_135, ql_135, qt_137, ql_137, qt_138, ql_138, qt_139, ql_139, qt_140, ql_140, qt_141, ql_141, qt_142, ql_142, qt_143, ql_143, qt_144, ql_144, qt_145, ql_145, qt_146, ql_146, qt_147, ql_147, qt_148, ql_148, qt_149, ql_149, qt_150, ql_150, qt_151, ql_151, qt_152, ql_152, qt_153, ql_153, qt_154, ql_154, qt_155, ql_155, qt_156, ql_156, qt_157, ql_157, qt_158, ql_158, qt_159, ql_159, qt_160, ql_160, qt_161, ql_161, qt_162, ql_162, qt_163, ql_163, qt_164, ql_164, qt_165, ql_165, qt_166, ql_166, qt_167, ql_167, qt_168, ql_168, qt_169, ql_169, qt_170, ql_170, qt_171, ql_171, qt_172, ql_172, qt_173, ql_173, qt_174, ql_174, qt_175, ql_175, qt_176, ql_176, qt_177, ql_177, qt_178, ql_178, qt_179, ql_179, qt_180, ql_180, qt_181, ql_181, qt_182, ql_182, qt_183, ql_183, qt_184, ql_184, qt_185, ql_185, qt_186, ql_186, qt_187, ql_187, qt_188, ql_188, true_implies, false_implies, not_true_eq_false, not_false_eq_true, true_and, and_true, implies_true, or_true, true_or, or_false, false_or, Int.reduceEq, Int.one_ne_zero, Nat.reduceEqDiff, hw.1, hw.2]
      exact kq
    · simp only [if_neg hw] at kk
      have kq := CPO_s hI (kk r (fun q => absurd q.2 hw))
      by_cases n1 : w < 0
      · simp only [k118_0, k118_1, k118_2, k118_5, k118_6, k118_9, k118_10, k118_12, k118_15, d108_y hh, q_kn_n, true_implies, false_implies, not_true_eq_false, not_false_eq_true, true_and, and_true, implies_true, or_true, true_or, or_false, false_or, Int.reduceEq, Int.one_ne_zero, Nat.reduceEqDiff, n1]
        exact kq
      · have n2 : ¬ w < 7 := by omega
        simp only [k118_0, k118_1, k118_2, k118_5, k118_6, k118_9, k118_10, k118_12, k118_15, d108_y hh, q_kn_n, true_implies, false_implies, not_true_eq_false, not_false_eq_true, true_and, and_true, implies_true, or_true, true_or, or_false, false_or, Int.reduceEq, Int.one_ne_zero, Nat.reduceEqDiff, n1, n2]
        exact kq
  · simp only [if_neg hh] at kk
    have kq := CPO_s hI (kk r (fun q => absurd q.1 hh))
    simp only [k118_0, k118_1, k118_2, d108_n hh, q_kn_e]
    exact kq
/-- out -/
theorem p115 (hI : CI c C r m L pl n f ft inp len) (kk : ∀ ρ, (0 ≤ how ∧ how < 3 → RNS L pl inp len how ρ) → CPO Q bb (NS c C r) (o_out how i ρ) m L pl n f ft inp len) : qx sc (D + 30) 115 0 [vr 0, vi how, vi i] [] (0, 0) bb (NS c C r) Q := by
  have hc := hI.1
  have h11 := hI.2.2.2.1.1
  unfold o_out at kk
  by_cases hh : 0 ≤ how ∧ how < 3
  · simp only [if_pos hh] at kk
    simp only [k115_0, k115_1, k115_2, k115_5, k115_6, k115_9, k115_10, k115_13, k115_14, d108_y hh, q_kn_n, NS_lo hc, NS_g hc, NS_f hc, NS_u hc, NS_uf hc, Nat.reduceLT, Nat.reduceLeDiff, Nat.reduceEqDiff, not_false_eq_true, true_implies, false_implies, not_true_eq_false, not_false_eq_true, true_and, and_true, implies_true, or_true, true_or, or_false, false_or, Int.reduceEq, Int.one_ne_zero, Nat.reduceEqDiff, h11, c_nn, Int.toNat_natCast]
    refine p72 (D := D + 14) hI (fun ρ h1 h2 h3 => ?_)
    have kq := CPO_h h2 h3 (kk ρ (fun _ => h1))
    have hb := (RNS_b hI.2.1 hI.2.2.1.1 (CI_IOK hI) h1).1
    by_cases hi : 0 ≤ i ∧ i < ρ 87 3
    · simp only [if_pos hi] at kq
      have n1 : ¬ i < 0 := by omega
      have i3 : i < 300 := by omega
      simp only [q_kn_n, k115_17, k115_18, k115_21, k115_22, k115_23, k115_26, k115_29, k115_30, k115_31, k115_45, k115_46, k115_49, k115_52, k115_53, k115_54, NS_lo hc, NS_g hc, NS_f hc, NS_u hc, NS_uf hc, Nat.reduceLT, Nat.reduceLeDiff, Nat.reduceEqDiff, not_false_eq_true, qt_1, ql_1, qt_2, ql_2, qt_3, ql_3, qt_6, ql_6, qt_7, ql_7, qt_8, ql_8, qt_10, ql_10, qt_11, ql_11, qt_12, ql_12, qt_13, ql_13, qt_14, ql_14, qt_15, ql_15, qt_16, ql_16, qt_17, ql_17, qt_18, ql_18, qt_19, ql_19, qt_20, ql_20, qt_21, ql_21, qt_22, ql_22, qt_23, ql_23, qt_24, ql_24, qt_25, ql_25, qt_26, ql_26, qt_28, ql_28, qt_29, ql_29, qt_30, ql_30, qt_31, ql_31, qt_32, ql_32, qt_33, ql_33, qt_34, ql_34, qt_35, ql_35, qt_36, ql_36, qt_37, ql_37, qt_38, ql_38, qt_40, ql_40, qt_41, ql_41, qt_42, ql_42, qt_43, ql_43, qt_44, ql_44, qt_45, ql_45, qt_46, ql_46, qt_47, ql_47, qt_48, ql_48, qt_49, ql_49, qt_50, ql_50, qt_51, ql_51, qt_52, ql_52, qt_53, ql_53, qt_54, ql_54, qt_56, ql_56, qt_57, ql_57, qt_58, ql_58, qt_59, ql_59, qt_60, ql_60, qt_61, ql_61, qt_62, ql_62, qt_63, ql_63, qt_64, ql_64, qt_65, ql_65, qt_67, ql_67, qt_68, ql_68, qt_69, ql_69, qt_70, ql_70, qt_71, ql_71, qt_73, ql_73, qt_74, ql_74, qt_75, ql_75, qt_76, ql_76, qt_78, ql_78, qt_79, ql_79, qt_80, ql_80, qt_81, ql_81, qt_82, ql_82, qt_83, ql_83, qt_84, ql_84, qt_85, ql_85, qt_86, ql_86, qt_87, ql_87, qt_89, ql_89, qt_90, ql_90, qt_91, ql_91, qt_92, ql_92, qt_93, ql_93, qt_94, ql_94, qt_95, ql_95, qt_96, ql_96, qt_97, ql_97, qt_98, ql_98, qt_99, ql_99, qt_100, ql_100, qt_101, ql_101, qt_102, ql_102, qt_103, ql_103, qt_105, ql_105, qt_106, ql_106, qt_107, ql_107, qt_108, ql_108, qt_109, ql_109, qt_110, ql_110, qt_111, ql_111, qt_113, ql_113, qt_114, ql_114, qt_115, ql_115, qt_116, ql_116, qt_117, ql_117, qt_118, ql_118, qt_119, ql_119, qt_120, ql_120, qt_121, ql_121, qt_122, ql_122, qt_123, ql_123, qt_124, ql_124, qt_125, ql_125, qt_126, ql_126, qt_127, ql_127, qt_129, ql_129, qt_130, ql_130, qt_131, ql_131, qt_132, ql_132, qt_133, ql_133, qt_134, ql_134, qt_135, ql_135, qt_137, ql_137, qt_138, ql_138, qt_139, ql_139, qt_140, ql_140, qt_141, ql_141, qt_142, ql_142, qt_143, ql_143, qt_144, ql_144, qt_145, ql_145, qt_146, ql_146, qt_147, ql_147, qt_148, ql_148, qt_149, ql_149, qt_150, ql_150, qt_151, ql_151, qt_152, ql_152, qt_153, ql_153, qt_154, ql_154, qt_155, ql_155, qt_156, ql_156, qt_157, ql_157, qt_158, ql_158, qt_159, ql_159, qt_160, ql_160, qt_161, ql_161, qt_162, ql_162, qt_163, ql_163, qt_164, ql_164, qt_165, ql_165, qt_166, ql_166, qt_167, ql_167, qt_168, ql_168, qt_169, ql_169, qt_170, ql_170, qt_171, ql_171, qt_172, ql_172, qt_173, ql_173, qt_174, ql_174, qt_175, ql_175, qt_176, ql_176, qt_177, ql_177, qt_178, ql_178, qt_179, ql_179, qt_180, ql_180, qt_181, ql_181, qt_182, ql_182, qt_183, ql_183, qt_184, ql_184, qt_185, ql_185, qt_186, ql_186, qt_187, ql_187, qt_188, ql_188, true_implies, false_implies, not_true_eq_false, not_false_eq_true, true_and, and_true, implies_true, or_true, true_or, or_false, false_or, Int.reduceEq, Int.one_ne_zero, Nat.reduceEqDiff, n1, hi.1, hi.2, i3, Int.reduceLE, Int.reduceLT]
      exact kq
    · simp only [if_neg hi] at kq
      by_cases n1 : i < 0
      · simp only [q_kn_n, k115_17, k115_18, k115_21, k115_22, k115_23, k115_26, k115_29, k115_30, k115_31, k115_34, true_implies, false_implies, not_true_eq_false, not_false_eq_true, true_and, and_true, implies_true, or_true, true_or, or_false, false_or, Int.reduceEq, Int.one_ne_zero, Nat.reduceEqDiff, n1]
        exact kq
      · have n2 : ¬ i < ρ 87 3 := by omega
        simp only [q_kn_n, k115_17, k115_18, k115_21, k115_22, k115_23, k115_26, k115_29, k115_30, k115_31, k115_34, NS_lo hc, NS_g hc, NS_f hc, NS_u hc, NS_uf hc, Nat.reduceLT, Nat.reduceLeDiff, Nat.reduceEqDiff, not_false_eq_true, qt_1, ql_1, qt_2, ql_2, qt_3, ql_3, qt_6, ql_6, qt_7, ql_7, qt_8, ql_8, qt_10, ql_10, qt_11, ql_11, qt_12, ql_12, qt_13, ql_13, qt_14, ql_14, qt_15, ql_15, qt_16, ql_16, qt_17, ql_17, qt_18, ql_18, qt_19, ql_19, qt_20, ql_20, qt_21, ql_21, qt_22, ql_22, qt_23, ql_23, qt_24, ql_24, qt_25, ql_25, qt_26, ql_26, qt_28, ql_28, qt_29, ql_29, qt_30, ql_30, qt_31, ql_31, qt_32, ql_32, qt_33, ql_33, qt_34, ql_34, qt_35, ql_35, qt_36, ql_36, qt_37, ql_37, qt_38, ql_38, qt_40, ql_40, qt_41, ql_41, qt_42, ql_42, qt_43, ql_43, qt_44, ql_44, qt_45, ql_45, qt_46, ql_46, qt_47, ql_47, qt_48, ql_48, qt_49, ql_49, qt_50, ql_50, qt_51, ql_51, qt_52, ql_52, qt_53, ql_53, qt_54, ql_54, qt_56, ql_56, qt_57, ql_57, qt_58, ql_58, qt_59, ql_59, qt_60, ql_60, qt_61, ql_61, qt_62, ql_62, qt_63, ql_63, qt_64, ql_64, qt_65, ql_65, qt_67, ql_67, qt_68, ql_68, qt_69, ql_69, qt_70, ql_70, qt_71, ql_71, qt_73, ql_73, qt_74, ql_74, qt_75, ql_75, qt_76, ql_76, qt_78, ql_78, qt_79, ql_79, qt_80, ql_80, qt_81, ql_81, qt_82, ql_82, qt_83, ql_83, qt_84, ql_84, qt_85, ql_85, qt_86, ql_86, qt_87, ql_87, qt_89, ql_89, qt_90, ql_90, qt_91, ql_91, qt_92, ql_92, qt_93, ql_93, qt_94, ql_94, qt_95, ql_95, qt_96, ql_96, qt_97, ql_97, qt_98, ql_98, qt_99, ql_99, qt_100, ql_100, qt_101, ql_101, qt_102, ql_102, qt_103, ql_103, qt_105, ql_105, qt_106, ql_106, qt_107, ql_107, qt_108, ql_108, qt_109, ql_109, qt_110, ql_110, qt_111, ql_111, qt_113, ql_113, qt_114, ql_114, qt_115, ql_115, qt_116, ql_116, qt_117, ql_117, qt_118, ql_118, qt_119, ql_119, qt_120, ql_120, qt_121, ql_121, qt_122, ql_122, qt_123, ql_123, qt_124, ql_124, qt_125, ql_125, qt_126, ql_126, qt_127, ql_127, qt_129, ql_129, qt_130, ql_130, qt_131, ql_131, qt_132, ql_132, qt_133, ql_133, qt_134, ql_134, qt_135, ql_135, qt_137, ql_137, qt_138, ql_138, qt_139, ql_139, qt_140, ql_140, qt_141, ql_141, qt_142, ql_142, qt_143, ql_143, qt_144, ql_144, qt_145, ql_145, qt_146, ql_146, qt_147, ql_147, qt_148, ql_148, qt_149, ql_149, qt_150, ql_150, qt_151, ql_151, qt_152, ql_152, qt_153, ql_153, qt_154, ql_154, qt_155, ql_155, qt_156, ql_156, qt_157, ql_157, qt_158, ql_158, qt_159, ql_159, qt_160, ql_160, qt_161, ql_161, qt_162, ql_162, qt_163, ql_163, qt_164, ql_164, qt_165, ql_165, qt_166, ql_166, qt_167, ql_167, qt_168, ql_168, qt_169, ql_169, qt_170, ql_170, qt_171, ql_171, qt_172, ql_172, qt_173, ql_173, qt_174, ql_174, qt_175, ql_175, qt_176, ql_176, qt_177, ql_177, qt_178, ql_178, qt_179, ql_179, qt_180, ql_180, qt_181, ql_181, qt_182, ql_182, qt_183, ql_183, qt_184, ql_184, qt_185, ql_185, qt_186, ql_186, qt_187, ql_187, qt_188, ql_188, true_implies, false_implies, not_true_eq_false, not_false_eq_true, true_and, and_true, implies_true, or_true, true_or, or_false, false_or, Int.reduceEq, Int.one_ne_zero, Nat.reduceEqDiff, n1, n2, Int.reduceLE, Int.reduceLT]
        exact kq
  · simp only [if_neg hh] at kk
    have kq := CPO_s hI (kk r (fun q => absurd q hh))
    simp only [k115_0, k115_1, k115_2, d108_n hh, q_kn_e]
    exact kq
/-- place -/
theorem p116 (hI : CI c C r m L pl n f ft inp len) (kk : ∀ ρ, ((0 ≤ b ∧ b < 3) ∧ 0 ≤ how ∧ how < 3 → RNS L pl inp len how ρ) → CPO Q bb (NS c C r) (o_pla pl how b i ρ) m L pl n f ft inp len) : qx sc (D + 30) 116 0 [vr 0, vi how, vi b, vi i] [] (0, 0) bb (NS c C r) Q := by
  have hc := hI.1
  have h11 := hI.2.2.2.1.1
  unfold o_pla at kk
  by_cases hbb : 0 ≤ b ∧ b < 3
  · simp only [o_in_y hbb] at kk
    by_cases hh : 0 ≤ how ∧ how < 3
    · simp only [if_pos hh] at kk
      simp only [k116_0, k116_1, k116_2, k116_5, k116_6, k116_7, k116_10, k116_11, k116_14, k116_15, k116_18, k116_19, d112_y hbb, d108_y hh, q_kn_n, NS_lo hc, NS_g hc, NS_f hc, NS_u hc, NS_uf hc, Nat.reduceLT, Nat.reduceLeDiff, Nat.reduceEqDiff, not_false_eq_true, true_implies, false_implies, not_true_eq_false, not_false_eq_true, true_and, and_true, implies_true, or_true, true_or, or_false, false_or, Int.reduceEq, Int.one_ne_zero, Nat.reduceEqDiff, h11, c_nn, Int.toNat_natCast]
      refine p72 (D := D + 14) hI (fun ρ h1 h2 h3 => ?_)
      have kq := CPO_h h2 h3 (kk ρ (fun _ => h1))
      obtain ⟨-, -, hb⟩ := RNS_b hI.2.1 hI.2.2.1.1 (CI_IOK hI) h1
      have hb2 := hb b hbb.1 (by omega)
      have g11 := h2.2.2.2.1.1
      have hp := ((CI_fs h2).2.2.2.1 b (by omega)).1
      simp only [q_kn_n, k116_22, k116_23, k116_26 hc, k116_29, k116_30, k116_31, k116_32, NS_lo hc, NS_g hc, NS_f hc, NS_u hc, NS_uf hc, Nat.reduceLT, Nat.reduceLeDiff, Nat.reduceEqDiff, not_false_eq_true, qtc_1 hc, qlc_1 hc, qtc_2 hc, qlc_2 hc, qtc_3 hc, qlc_3 hc, qtc_4 hc, qlc_4 hc, qtc_5 hc, qlc_5 hc, qtc_6 hc, qlc_6 hc, qtc_7 hc, qlc_7 hc, qtc_8 hc, qlc_8 hc, qtc_9 hc, qlc_9 hc, qtc_10 hc, qlc_10 hc, qtc_11 hc, qlc_11 hc, qtc_12 hc, qlc_12 hc, qtc_13 hc, qlc_13 hc, qtc_14 hc, qlc_14 hc, qtc_15 hc, qlc_15 hc, qtc_17 hc, qlc_17 hc, qtc_19 hc, qlc_19 hc, qtc_20 hc, qlc_20 hc, qtc_22 hc, qlc_22 hc, qtc_23 hc, qlc_23 hc, qtc_18 hc, qlc_18 hc, qtc_21 hc, qlc_21 hc, c18_0, c18_1, c21_0, c21_1, true_implies, false_implies, not_true_eq_false, not_false_eq_true, true_and, and_true, implies_true, or_true, true_or, or_false, false_or, Int.reduceEq, Int.one_ne_zero, Nat.reduceEqDiff, g11, c_nn, Int.toNat_natCast, hbb.1, hbb.2, hp]
      by_cases h4 : pl b = -1
      · rw [if_neg (by omega)] at kq
        simp only [h4, true_implies, false_implies, not_true_eq_false, not_false_eq_true, true_and, and_true, implies_true, or_true, true_or, or_false, false_or, Int.reduceEq, Int.one_ne_zero, Nat.reduceEqDiff, k116_52]
        exact kq
      · simp only [h4, true_implies, false_implies, not_true_eq_false, not_false_eq_true, true_and, and_true, implies_true, or_true, true_or, or_false, false_or, Int.reduceEq, Int.one_ne_zero, Nat.reduceEqDiff]
        by_cases hi : 0 ≤ i ∧ i < ρ 85 b
        · rw [if_pos ⟨h4, hi.1, hi.2⟩] at kq
          have n1 : ¬ i < 0 := by omega
          have i40 : i < 40 := by omega
          have T1 : q_ty (81 + 1 + b.toNat) = 0 ∧ q_ln (81 + 1 + b.toNat) = 40 := by
            rcases (show b = 0 ∨ b = 1 ∨ b = 2 by omega) with rfl | rfl | rfl
            · exact ⟨qt_82, ql_82⟩
            · exact ⟨qt_83, ql_83⟩
            · exact ⟨qt_84, ql_84⟩
          have e : NS c C ρ (81 + 1 + b.toNat) i = ρ (82 + b.toNat) i := by rw [NS_lo hc (by omega) (by omega)]
          simp only [k116_35, k116_36, k116_39, k116_40, k116_41, k116_44, k116_47, k116_48, k116_49, k116_63, k116_64, k116_67, k116_70, k116_71, k116_72, k116_73, k116_74, NS_lo hc, NS_g hc, NS_f hc, NS_u hc, NS_uf hc, Nat.reduceLT, Nat.reduceLeDiff, Nat.reduceEqDiff, not_false_eq_true, qt_1, ql_1, qt_2, ql_2, qt_3, ql_3, qt_6, ql_6, qt_7, ql_7, qt_8, ql_8, qt_10, ql_10, qt_11, ql_11, qt_12, ql_12, qt_13, ql_13, qt_14, ql_14, qt_15, ql_15, qt_16, ql_16, qt_17, ql_17, qt_18, ql_18, qt_19, ql_19, qt_20, ql_20, qt_21, ql_21, qt_22, ql_22, qt_23, ql_23, qt_24, ql_24, qt_25, ql_25, qt_26, ql_26, qt_28, ql_28, qt_29, ql_29, qt_30, ql_30, qt_31, ql_31, qt_32, ql_32, qt_33, ql_33, qt_34, ql_34, qt_35, ql_35, qt_36, ql_36, qt_37, ql_37, qt_38, ql_38, qt_40, ql_40, qt_41, ql_41, qt_42, ql_42, qt_43, ql_43, qt_44, ql_44, qt_45, ql_45, qt_46, ql_46, qt_47, ql_47, qt_48, ql_48, qt_49, ql_49, qt_50, ql_50, qt_51, ql_51, qt_52, ql_52, qt_53, ql_53, qt_54, ql_54, qt_56, ql_56, qt_57, ql_57, qt_58, ql_58, qt_59, ql_59, qt_60, ql_60, qt_61, ql_61, qt_62, ql_62, qt_63, ql_63, qt_64, ql_64, qt_65, ql_65, qt_67, ql_67, qt_68, ql_68, qt_69, ql_69, qt_70, ql_70, qt_71, ql_71, qt_73, ql_73, qt_74, ql_74, qt_75, ql_75, qt_76, ql_76, qt_78, ql_78, qt_79, ql_79, qt_80, ql_80, qt_81, ql_81, qt_82, ql_82, qt_83, ql_83, qt_84, ql_84, qt_85, ql_85, qt_86, ql_86, qt_87, ql_87, qt_89, ql_89, qt_90, ql_90, qt_91, ql_91, qt_92, ql_92, qt_93, ql_93, qt_94, ql_94, qt_95, ql_95, qt_96, ql_96, qt_97, ql_97, qt_98, ql_98, qt_99, ql_99, qt_100, ql_100, qt_101, ql_101, qt_102, ql_102, qt_103, ql_103, qt_105, ql_105, qt_106, ql_106, qt_107, ql_107, qt_108, ql_108, qt_109, ql_109, qt_110, ql_110, qt_111, ql_111, qt_113, ql_113, qt_114, ql_114, qt_115, ql_115, qt_116, ql_116, qt_117, ql_117, qt_118, ql_118, qt_119, ql_119, qt_120, ql_120, qt_121, ql_121, qt_122, ql_122, qt_123, ql_123, qt_124, ql_124, qt_125, ql_125, qt_126, ql_126, qt_127, ql_127, qt_129, ql_129, qt_130, ql_130, qt_131, ql_131, qt_132, ql_132, qt_133, ql_133, qt_134, ql_134, qt_135, ql_135, qt_137, ql_137, qt_138, ql_138, qt_139, ql_139, qt_140, ql_140, qt_141, ql_141, qt_142, ql_142, qt_143, ql_143, qt_144, ql_144, qt_145, ql_145, qt_146, ql_146, qt_147, ql_147, qt_148, ql_148, qt_149, ql_149, qt_150, ql_150, qt_151, ql_151, qt_152, ql_152, qt_153, ql_153, qt_154, ql_154, qt_155, ql_155, qt_156, ql_156, qt_157, ql_157, qt_158, ql_158, qt_159, ql_159, qt_160, ql_160, qt_161, ql_161, qt_162, ql_162, qt_163, ql_163, qt_164, ql_164, qt_165, ql_165, qt_166, ql_166, qt_167, ql_167, qt_168, ql_168, qt_169, ql_169, qt_170, ql_170, qt_171, ql_171, qt_172, ql_172, qt_173, ql_173, qt_174, ql_174, qt_175, ql_175, qt_176, ql_176, qt_177, ql_177, qt_178, ql_178, qt_179, ql_179, qt_180, ql_180, qt_181, ql_181, qt_182, ql_182, qt_183, ql_183, qt_184, ql_184, qt_185, ql_185, qt_186, ql_186, qt_187, ql_187, qt_188, ql_188, true_implies, false_implies, not_true_eq_false, not_false_eq_true, true_and, and_true, implies_true, or_true, true_or, or_false, false_or, Int.reduceEq, Int.one_ne_zero, Nat.reduceEqDiff, n1, hi.1, hi.2, i40, hbb.1, hbb.2, T1.1, T1.2, e]
          exact kq
        · rw [if_neg (by omega)] at kq
          by_cases n1 : i < 0
          · simp only [k116_35, k116_36, k116_52, true_implies, false_implies, not_true_eq_false, not_false_eq_true, true_and, and_true, implies_true, or_true, true_or, or_false, false_or, Int.reduceEq, Int.one_ne_zero, Nat.reduceEqDiff, n1]
            exact kq
          · have n2 : ¬ i < ρ 85 b := by omega
            simp only [k116_35, k116_36, k116_39, k116_40, k116_41, k116_44, k116_47, k116_48, k116_49, k116_52, NS_lo hc, NS_g hc, NS_f hc, NS_u hc, NS_uf hc, Nat.reduceLT, Nat.reduceLeDiff, Nat.reduceEqDiff, not_false_eq_true, qt_1, ql_1, qt_2, ql_2, qt_3, ql_3, qt_6, ql_6, qt_7, ql_7, qt_8, ql_8, qt_10, ql_10, qt_11, ql_11, qt_12, ql_12, qt_13, ql_13, qt_14, ql_14, qt_15, ql_15, qt_16, ql_16, qt_17, ql_17, qt_18, ql_18, qt_19, ql_19, qt_20, ql_20, qt_21, ql_21, qt_22, ql_22, qt_23, ql_23, qt_24, ql_24, qt_25, ql_25, qt_26, ql_26, qt_28, ql_28, qt_29, ql_29, qt_30, ql_30, qt_31, ql_31, qt_32, ql_32, qt_33, ql_33, qt_34, ql_34, qt_35, ql_35, qt_36, ql_36, qt_37, ql_37, qt_38, ql_38, qt_40, ql_40, qt_41, ql_41, qt_42, ql_42, qt_43, ql_43, qt_44, ql_44, qt_45, ql_45, qt_46, ql_46, qt_47, ql_47, qt_48, ql_48, qt_49, ql_49, qt_50, ql_50, qt_51, ql_51, qt_52, ql_52, qt_53, ql_53, qt_54, ql_54, qt_56, ql_56, qt_57, ql_57, qt_58, ql_58, qt_59, ql_59, qt_60, ql_60, qt_61, ql_61, qt_62, ql_62, qt_63, ql_63, qt_64, ql_64, qt_65, ql_65, qt_67, ql_67, qt_68, ql_68, qt_69, ql_69, qt_70, ql_70, qt_71, ql_71, qt_73, ql_73, qt_74, ql_74, qt_75, ql_75, qt_76, ql_76, qt_78, ql_78, qt_79, ql_79, qt_80, ql_80, qt_81, ql_81, qt_82, ql_82, qt_83, ql_83, qt_84, ql_84, qt_85, ql_85, qt_86, ql_86, qt_87, ql_87, qt_89, ql_89, qt_90, ql_90, qt_91, ql_91, qt_92, ql_92, qt_93, ql_93, qt_94, ql_94, qt_95, ql_95, qt_96, ql_96, qt_97, ql_97, qt_98, ql_98, qt_99, ql_99, qt_100, ql_100, qt_101, ql_101, qt_102, ql_102, qt_103, ql_103, qt_105, ql_105, qt_106, ql_106, qt_107, ql_107, qt_108, ql_108, qt_109, ql_109, qt_110, ql_110, qt_111, ql_111, qt_113, ql_113, qt_114, ql_114, qt_115, ql_115, qt_116, ql_116, qt_117, ql_117, qt_118, ql_118, qt_119, ql_119, qt_120, ql_120, qt_121, ql_121, qt_122, ql_122, qt_123, ql_123, qt_124, ql_124, qt_125, ql_125, qt_126, ql_126, qt_127, ql_127, qt_129, ql_129, qt_130, ql_130, qt_131, ql_131, qt_132, ql_132, qt_133, ql_133, qt_134, ql_134, qt_135, ql_135, qt_137, ql_137, qt_138, ql_138, qt_139, ql_139, qt_140, ql_140, qt_141, ql_141, qt_142, ql_142, qt_143, ql_143, qt_144, ql_144, qt_145, ql_145, qt_146, ql_146, qt_147, ql_147, qt_148, ql_148, qt_149, ql_149, qt_150, ql_150, qt_151, ql_151, qt_152, ql_152, qt_153, ql_153, qt_154, ql_154, qt_155, ql_155, qt_156, ql_156, qt_157, ql_157, qt_158, ql_158, qt_159, ql_159, qt_160, ql_160, qt_161, ql_161, qt_162, ql_162, qt_163, ql_163, qt_164, ql_164, qt_165, ql_165, qt_166, ql_166, qt_167, ql_167, qt_168, ql_168, qt_169, ql_169, qt_170, ql_170, qt_171, ql_171, qt_172, ql_172, qt_173, ql_173, qt_174, ql_174, qt_175, ql_175, qt_176, ql_176, qt_177, ql_177, qt_178, ql_178, qt_179, ql_179, qt_180, ql_180, qt_181, ql_181, qt_182, ql_182, qt_183, ql_183, qt_184, ql_184, qt_185, ql_185, qt_186, ql_186, qt_187, ql_187, qt_188, ql_188, true_implies, false_implies, not_true_eq_false, not_false_eq_true, true_and, and_true, implies_true, or_true, true_or, or_false, false_or, Int.reduceEq, Int.one_ne_zero, Nat.reduceEqDiff, n1, n2, hbb.1, hbb.2]
            exact kq
    · simp only [if_neg hh] at kk
      have kq := CPO_s hI (kk r (fun q => absurd q.2 hh))
      simp only [k116_0, k116_1, k116_2, k116_5, k116_6, k116_7, d112_y hbb, d108_n hh, q_kn_n, q_kn_e]
      exact kq
  · simp only [o_in_n hbb] at kk
    have kq := CPO_s hI (kk r (fun q => absurd q.1 hbb))
    simp only [k116_0, k116_1, k116_2, d112_n hbb, q_kn_e]
    exact kq
/-- was -/
theorem p124 (hI : CI c C r m L pl n f ft inp len) (kk : ∀ ρ, ((0 ≤ v ∧ v < nV L) ∧ 0 ≤ how ∧ how < 3 → RNS L pl inp len how ρ) → CPO Q bb (NS c C r) (o_was L how v ρ) m L pl n f ft inp len) : qx sc (D + 30) 124 0 [vr 0, vi how, vi v] [] (0, 0) bb (NS c C r) Q := by
  have hc := hI.1
  obtain ⟨h11, h9, -, -, hb⟩ := CI_fs hI
  unfold o_was at kk
  by_cases hv : 0 ≤ v ∧ v < nV L
  · simp only [o_in_y hv] at kk
    have hv' : 0 ≤ v ∧ v < r 9 0 := by rw [h9]; exact hv
    have v240 : v < 240 := by omega
    by_cases hh : 0 ≤ how ∧ how < 3
    · simp only [if_pos hh] at kk
      simp only [k124_0, k124_1, k124_2, k124_5, k124_6, k124_7, k124_10, k124_11, k124_14, k124_15, k124_18, k124_19, d114_y hc hv', d108_y hh, q_kn_n, NS_lo hc, NS_g hc, NS_f hc, NS_u hc, NS_uf hc, Nat.reduceLT, Nat.reduceLeDiff, Nat.reduceEqDiff, not_false_eq_true, true_implies, false_implies, not_true_eq_false, not_false_eq_true, true_and, and_true, implies_true, or_true, true_or, or_false, false_or, Int.reduceEq, Int.one_ne_zero, Nat.reduceEqDiff, h11, c_nn, Int.toNat_natCast]
      refine p72 (D := D + 14) hI (fun ρ h1 h2 h3 => ?_)
      have kq := CPO_h h2 h3 (kk ρ (fun _ => h1))
      simp only [q_kn_n, k124_22, k124_23, k124_26, k124_29, k124_30, k124_31, NS_lo hc, NS_g hc, NS_f hc, NS_u hc, NS_uf hc, Nat.reduceLT, Nat.reduceLeDiff, Nat.reduceEqDiff, not_false_eq_true, qt_1, ql_1, qt_2, ql_2, qt_3, ql_3, qt_6, ql_6, qt_7, ql_7, qt_8, ql_8, qt_10, ql_10, qt_11, ql_11, qt_12, ql_12, qt_13, ql_13, qt_14, ql_14, qt_15, ql_15, qt_16, ql_16, qt_17, ql_17, qt_18, ql_18, qt_19, ql_19, qt_20, ql_20, qt_21, ql_21, qt_22, ql_22, qt_23, ql_23, qt_24, ql_24, qt_25, ql_25, qt_26, ql_26, qt_28, ql_28, qt_29, ql_29, qt_30, ql_30, qt_31, ql_31, qt_32, ql_32, qt_33, ql_33, qt_34, ql_34, qt_35, ql_35, qt_36, ql_36, qt_37, ql_37, qt_38, ql_38, qt_40, ql_40, qt_41, ql_41, qt_42, ql_42, qt_43, ql_43, qt_44, ql_44, qt_45, ql_45, qt_46, ql_46, qt_47, ql_47, qt_48, ql_48, qt_49, ql_49, qt_50, ql_50, qt_51, ql_51, qt_52, ql_52, qt_53, ql_53, qt_54, ql_54, qt_56, ql_56, qt_57, ql_57, qt_58, ql_58, qt_59, ql_59, qt_60, ql_60, qt_61, ql_61, qt_62, ql_62, qt_63, ql_63, qt_64, ql_64, qt_65, ql_65, qt_67, ql_67, qt_68, ql_68, qt_69, ql_69, qt_70, ql_70, qt_71, ql_71, qt_73, ql_73, qt_74, ql_74, qt_75, ql_75, qt_76, ql_76, qt_78, ql_78, qt_79, ql_79, qt_80, ql_80, qt_81, ql_81, qt_82, ql_82, qt_83, ql_83, qt_84, ql_84, qt_85, ql_85, qt_86, ql_86, qt_87, ql_87, qt_89, ql_89, qt_90, ql_90, qt_91, ql_91, qt_92, ql_92, qt_93, ql_93, qt_94, ql_94, qt_95, ql_95, qt_96, ql_96, qt_97, ql_97, qt_98, ql_98, qt_99, ql_99, qt_100, ql_100, qt_101, ql_101, qt_102, ql_102, qt_103, ql_103, qt_105, ql_105, qt_106, ql_106, qt_107, ql_107, qt_108, ql_108, qt_109, ql_109, qt_110, ql_110, qt_111, ql_111, qt_113, ql_113, qt_114, ql_114, qt_115, ql_115, qt_116, ql_116, qt_117, ql_117, qt_118, ql_118, qt_119, ql_119, qt_120, ql_120, qt_121, ql_121, qt_122, ql_122, qt_123, ql_123, qt_124, ql_124, qt_125, ql_125, qt_126, ql_126, qt_127, ql_127, qt_129, ql_129, qt_130, ql_130, qt_131, ql_131, qt_132, ql_132, qt_133, ql_133, qt_134, ql_134, qt_135, ql_135, qt_137, ql_137, qt_138, ql_138, qt_139, ql_139, qt_140, ql_140, qt_141, ql_141, qt_142, ql_142, qt_143, ql_143, qt_144, ql_144, qt_145, ql_145, qt_146, ql_146, qt_147, ql_147, qt_148, ql_148, qt_149, ql_149, qt_150, ql_150, qt_151, ql_151, qt_152, ql_152, qt_153, ql_153, qt_154, ql_154, qt_155, ql_155, qt_156, ql_156, qt_157, ql_157, qt_158, ql_158, qt_159, ql_159, qt_160, ql_160, qt_161, ql_161, qt_162, ql_162, qt_163, ql_163, qt_164, ql_164, qt_165, ql_165, qt_166, ql_166, qt_167, ql_167, qt_168, ql_168, qt_169, ql_169, qt_170, ql_170, qt_171, ql_171, qt_172, ql_172, qt_173, ql_173, qt_174, ql_174, qt_175, ql_175, qt_176, ql_176, qt_177, ql_177, qt_178, ql_178, qt_179, ql_179, qt_180, ql_180, qt_181, ql_181, qt_182, ql_182, qt_183, ql_183, qt_184, ql_184, qt_185, ql_185, qt_186, ql_186, qt_187, ql_187, qt_188, ql_188, true_implies, false_implies, not_true_eq_false, not_false_eq_true, true_and, and_true, implies_true, or_true, true_or, or_false, false_or, Int.reduceEq, Int.one_ne_zero, Nat.reduceEqDiff, hv.1, v240]
      exact kq
    · simp only [if_neg hh] at kk
      have kq := CPO_s hI (kk r (fun q => absurd q.2 hh))
      simp only [k124_0, k124_1, k124_2, k124_5, k124_6, k124_7, d114_y hc hv', d108_n hh, q_kn_n, q_kn_e]
      exact kq
  · simp only [o_in_n hv] at kk
    have hv' : ¬ (0 ≤ v ∧ v < r 9 0) := by rw [h9]; exact hv
    have kq := CPO_s hI (kk r (fun q => absurd q.1 hv))
    simp only [k124_0, k124_1, k124_2, d114_n hc hv', q_kn_e]
    exact kq
end CRN
