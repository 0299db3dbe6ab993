section NUQ
variable {sc : Nat × (Nat → Int32)} {D : Nat} {bb : Bool} {Q : QP} {c : Nat} {C r r' : St} {v s k l x n fr too pls root shift f how set q' : Int} {dep dp a : Nat} {up dn : Int × Int × Int} {now : Int → Int}
theorem RAW_f (h : RAW r v x how s fr too pls up dn root shift) : RAW (q_up r 13 v f) v x how s f too pls up dn root shift := by
  unfold RAW at *
  simp only [q_up_eq, q_up_ne, q_up_ne2, q_upf_ne, q_upf_eq, not_false_eq_true, Nat.reduceEqDiff]
  grind
/-- a ROUND version, its end not told yet -/
theorem VOC_ro (h : INN r v) (hx0 : 0 ≤ x) (hx1 : x ≤ 7) : VOC r (q_up (q_up (C_add r v x 6 s) 13 v f) 40 x v) v q' k dep (un (nz (r 40)) x v, [v_mk x 6 s f (-1)], [], [], [], []) := by
  have q := RAW_f (f := f) (RAW_add (r := r) (v := v) (x := x) (how := 6) (s := s))
  refine VOC_one h ?_ ?_ (fun i => ?_) trivial trivial (fun a i n1 n2 n3 n4 n5 => ?_) ?_
  · unfold VRokC v_mk
    have hf : ¬ v_fol ((x, 6, s, f, -1), (0, -1, 0), (0, t0, t0)) := by unfold v_fol; dsimp only; omega
    rw [if_neg hf, if_neg hf]
    exact ⟨RAW_of q (fun a ha => q_up_ne _ _ _ _ (by omega)), fun g => absurd g hf⟩
  · rw [q_up_ne _ _ _ _ (by decide), q_up_ne _ _ _ _ (by decide), C_add_9]
  · by_cases hi : i = x
    · rw [if_pos hi, hi, q_up_eq]
    · rw [if_neg hi, q_up_ne2 _ _ _ hi, q_up_ne _ _ _ _ (by decide), C_add_ne (by omega) (by omega)]
  · rw [q_up_ne _ _ _ _ n3, q_up, if_neg (by omega), C_add_ne (by omega) n2]
  · intro g
    unfold v_mk v_fol at g
    dsimp only at g
    omega
theorem n30_r (hc : q_C c) (s0 : 0 ≤ s) (s1 : s < 40) {l2 l4 : V2} : ∀ (n : Nat) (x : Int) (r : St) (v : Int) (l6 : V2), x + n = 8 → 0 ≤ x → INN r v → (∀ j, x ≤ j → j ≤ 7 → r 40 j = now j) → v + (v_many set n x : Nat) ≤ 240 →
    (∀ r' l5 l6, VOC r r' v q' k dp (v_now set n x v (nz (r 40)), v_round set now (fun _ => -1) s n x, [], [], [], []) → qx sc (D + 2) 30 84 [vr 39, vi s, l2, vi set, l4, l5, l6] [] (0, 0) bb (NS c C r') Q) →
    qx sc (D + 2) 30 21 [vr 39, vi s, l2, vi set, l4, vi x, l6] [] (0, 0) bb (NS c C r) Q := by
  intro n
  induction n with
  | zero =>
    intro x r v l6 hx x0 hi ho hv kk
    have k0 := kk r (vi x) l6 (by unfold v_now v_round; exact VOC_nil hi)
    rw [k30_21]
    simp only [k30_23, k30_25]
    exact ⟨fun h => by omega, fun _ => k0⟩
  | succ n ih =>
    intro x r v l6 hx x0 hi ho hv kk
    have x8 : x < 8 := by omega
    have b1 := hi.1
    have b2 := hi.2.1
    have e40 : ∀ r j, NS c C r 40 j = r 40 j := fun r j => NS_lo hc (by decide) (by decide)
    have u40 : ∀ r i x, q_up (NS c C r) 40 i x = NS c C (q_up r 40 i x) := fun r i x => NS_u hc (by decide) (by decide)
    have u13 : ∀ r i x, q_up (NS c C r) 13 i x = NS c C (q_up r 13 i x) := fun r i x => NS_u hc (by decide) (by decide)
    rw [k30_21]
    by_cases g : q_bit set x = 0
    · simp only [k30_23, k30_25, k30_28, k30_29, k30_31, k30_32, k30_33, k30_34, k30_35, k30_78, k30_81, true_implies, false_implies, not_true_eq_false, not_false_eq_true, true_and, and_true, implies_true, or_true, true_or, or_false, false_or, Int.reduceEq, Int.one_ne_zero, Nat.reduceEqDiff, q_bit_fold, g, Int.zero_ne_one, x8]
      rw [v_many, if_pos g] at hv
      refine ⟨by omega, ih (x + 1) r v _ (by omega) (by omega) hi (fun j j0 j1 => ho j (by omega) j1) hv (fun r' l5 l6 hV => kk r' l5 l6 ?_)⟩
      rw [v_now, if_pos g, v_round, if_pos g]
      exact hV
    · have g1 : q_bit set x = 1 := by
        have := q_bit_01 set x
        omega
      rw [v_many, if_neg g] at hv
      have hv0 : v < 240 := by omega
      have v0 : 0 ≤ v := by omega
      simp only [k30_23, k30_25, k30_28, k30_29, k30_31, k30_32, k30_33, k30_34, k30_35, k30_38, k30_39, k30_42, k30_44, k30_46, k30_47, true_implies, false_implies, not_true_eq_false, not_false_eq_true, true_and, and_true, implies_true, or_true, true_or, or_false, false_or, Int.reduceEq, Int.one_ne_zero, Nat.reduceEqDiff, q_bit_fold, g1, x8]
      refine n88 (v := v) (by rw [NS_lo hc (by decide) (by decide), b1]) v0 hv0 ?_
      rw [NS_add hc]
      have a40 : C_add r v x 6 s 40 x = r 40 x := C_add_ne (by omega) (by omega)
      simp only [q_kn_v, k30_50, k30_52, k30_53, k30_56, k30_59, k30_61, k30_62, k30_65, k30_67, k30_68, k30_69, k30_70, k30_73, k30_75, k30_77, k30_78, k30_81, true_implies, false_implies, not_true_eq_false, not_false_eq_true, true_and, and_true, implies_true, or_true, true_or, or_false, false_or, Int.reduceEq, Int.one_ne_zero, Nat.reduceEqDiff, qt_1, ql_1, qt_2, ql_2, qt_3, ql_3, qt_6, ql_6, qt_7, ql_7, qt_8, ql_8, qt_10, ql_10, qt_11, ql_11, qt_12, ql_12, qt_13, ql_13, qt_14, ql_14, qt_15, ql_15, qt_16, ql_16, qt_17, ql_17, qt_18, ql_18, qt_19, ql_19, qt_20, ql_20, qt_21, ql_21, qt_22, ql_22, qt_23, ql_23, qt_24, ql_24, qt_25, ql_25, qt_26, ql_26, qt_28, ql_28, qt_29, ql_29, qt_30, ql_30, qt_31, ql_31, qt_32, ql_32, qt_33, ql_33, qt_34, ql_34, qt_35, ql_35, qt_36, ql_36, qt_37, ql_37, qt_38, ql_38, qt_40, ql_40, qt_41, ql_41, qt_42, ql_42, qt_43, ql_43, qt_44, ql_44, qt_45, ql_45, qt_46, ql_46, qt_47, ql_47, qt_48, ql_48, qt_49, ql_49, qt_50, ql_50, qt_51, ql_51, qt_52, ql_52, qt_53, ql_53, qt_54, ql_54, qt_56, ql_56, qt_57, ql_57, qt_58, ql_58, qt_59, ql_59, qt_60, ql_60, qt_61, ql_61, qt_62, ql_62, qt_63, ql_63, qt_64, ql_64, qt_65, ql_65, qt_67, ql_67, qt_68, ql_68, qt_69, ql_69, qt_70, ql_70, qt_71, ql_71, qt_73, ql_73, qt_74, ql_74, qt_75, ql_75, qt_76, ql_76, qt_78, ql_78, qt_79, ql_79, qt_80, ql_80, qt_81, ql_81, qt_82, ql_82, qt_83, ql_83, qt_84, ql_84, qt_85, ql_85, qt_86, ql_86, qt_87, ql_87, qt_89, ql_89, qt_90, ql_90, qt_91, ql_91, qt_92, ql_92, qt_93, ql_93, qt_94, ql_94, qt_95, ql_95, qt_96, ql_96, qt_97, ql_97, qt_98, ql_98, qt_99, ql_99, qt_100, ql_100, qt_101, ql_101, qt_102, ql_102, qt_103, ql_103, qt_105, ql_105, qt_106, ql_106, qt_107, ql_107, qt_108, ql_108, qt_109, ql_109, qt_110, ql_110, qt_111, ql_111, qt_113, ql_113, qt_114, ql_114, qt_115, ql_115, qt_116, ql_116, qt_117, ql_117, qt_118, ql_118, qt_119, ql_119, qt_120, ql_120, qt_121, ql_121, qt_122, ql_122, qt_123, ql_123, qt_124, ql_124, qt_125, ql_125, qt_126, ql_126, qt_127, ql_127, qt_129, ql_129, qt_130, ql_130, qt_131, ql_131, qt_132, ql_132, qt_133, ql_133, qt_134, ql_134, qt_135, ql_135, qt_137, ql_137, qt_138, ql_138, qt_139, ql_139, qt_140, ql_140, qt_141, ql_141, qt_142, ql_142, qt_143, ql_143, qt_144, ql_144, qt_145, ql_145, qt_146, ql_146, qt_147, ql_147, qt_148, ql_148, qt_149, ql_149, qt_150, ql_150, qt_151, ql_151, qt_152, ql_152, qt_153, ql_153, qt_154, ql_154, qt_155, ql_155, qt_156, ql_156, qt_157, ql_157, qt_158, ql_158, qt_159, ql_159, qt_160, ql_160, qt_161, ql_161, qt_162, ql_162, qt_163, ql_163, qt_164, ql_164, qt_165, ql_165, qt_166, ql_166, qt_167, ql_167, qt_168, ql_168, qt_169, ql_169, qt_170, ql_170, qt_171, ql_171, qt_172, ql_172, qt_173, ql_173, qt_174, ql_174, qt_175, ql_175, qt_176, ql_176, qt_177, ql_177, qt_178, ql_178, qt_179, ql_179, qt_180, ql_180, qt_181, ql_181, qt_182, ql_182, qt_183, ql_183, qt_184, ql_184, qt_185, ql_185, qt_186, ql_186, qt_187, ql_187, qt_188, ql_188, x0, x8, v0, hv0, e40, u13, u40, a40]
      have hV1 := VOC_ro (k := k) (q' := q') (s := s) (dep := dp) (f := r 40 x) (x := x) hi x0 (by omega)
      have f40 : ∀ j, ¬ j = x → q_up (q_up (C_add r v x 6 s) 13 v (r 40 x)) 40 x v 40 j = r 40 j := fun j hj => by
        rw [q_up_ne2 _ _ _ hj, q_up_ne _ _ _ _ (by omega), C_add_ne (by omega) (by omega)]
      have hz : nz (q_up (q_up (C_add r v x 6 s) 13 v (r 40 x)) 40 x v 40) = un (nz (r 40)) x v := hV1.2.2.2.1
      refine ⟨by omega, ih (x + 1) _ (v + 1) _ (by omega) (by omega) hV1.2.2.2.2.2 (fun j j0 j1 => ?_) (by omega) (fun r' l5 l6 hV => kk r' l5 l6 ?_)⟩
      · rw [f40 j (by omega)]; exact ho j (by omega) j1
      · rw [v_now, if_neg g, v_round, if_neg g]
        rw [hz] at hV
        rw [ho x (Int.le_refl _) (by omega)] at hV1 hV
        exact VOC_app' hV1 hV (by simp) (by simp) (by simp)
end NUQ
