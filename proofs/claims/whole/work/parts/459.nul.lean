theorem q_bit_01 (m k : Int) : q_bit m k = 0 ∨ q_bit m k = 1 := by
  unfold q_bit
  generalize q_I (q_I m >>> (q_I k &&& 31)).toInt = a
  have e : (a &&& q_I 1).toInt = ((a.toBitVec &&& 1#32)).toInt := rfl
  rw [e, BitVec.and_one_eq_setWidth_ofBool_getLsbD]
  cases a.toBitVec.getLsbD 0
  · exact Or.inl rfl
  · exact Or.inr rfl
section NUJ
variable {sc : Nat × (Nat → Int32)} {D : Nat} {bb : Bool} {Q : QP} {c : Nat} {C r r' r1 r2 : St} {i v s k l x n fr how ar cc af set f t too pls root shift q' : Int} {dep dp a : Nat} {pl : Int → Int} {lf le ld l4 l5 : V2} {up dn : Int × Int × Int} {one other : Int → Int}
theorem qt_ah (h : dep ≤ 5) : q_ty (41 + 1 + dep) = 0 ∧ q_ln (41 + 1 + dep) = 8 := by
  have : dep = 0 ∨ dep = 1 ∨ dep = 2 ∨ dep = 3 ∨ dep = 4 ∨ dep = 5 := by omega
  rcases this with rfl | rfl | rfl | rfl | rfl | rfl
  · exact ⟨qt_42, ql_42⟩
  · exact ⟨qt_43, ql_43⟩
  · exact ⟨qt_44, ql_44⟩
  · exact ⟨qt_45, ql_45⟩
  · exact ⟨qt_46, ql_46⟩
  · exact ⟨qt_47, ql_47⟩
theorem qt_en (h : dep ≤ 5) : q_ty (48 + 1 + dep) = 0 ∧ q_ln (48 + 1 + dep) = 8 := by
  have : dep = 0 ∨ dep = 1 ∨ dep = 2 ∨ dep = 3 ∨ dep = 4 ∨ dep = 5 := by omega
  rcases this with rfl | rfl | rfl | rfl | rfl | rfl
  · exact ⟨qt_49, ql_49⟩
  · exact ⟨qt_50, ql_50⟩
  · exact ⟨qt_51, ql_51⟩
  · exact ⟨qt_52, ql_52⟩
  · exact ⟨qt_53, ql_53⟩
  · exact ⟨qt_54, ql_54⟩
theorem RAW_ft (h : RAW r v x how s fr too pls up dn root shift) : RAW (q_up (q_up r 13 v f) 14 v t) v x how s f t pls up dn root shift := by
  unfold RAW at *
  simp only [q_up_eq, q_up_ne, q_up_ne2, q_upf_ne, q_upf_eq, not_false_eq_true, Nat.reduceEqDiff]
  grind
theorem VOC_cur (h : INN r' v) (hf : ∀ a i, ¬ a = 40 → r' a i = r a i) : VOC r r' v s k dep (nz (r' 40), [], [], [], [], []) := by
  refine ⟨trivial, trivial, trivial, rfl, fun a i hb => hf a i ?_, by simpa using h⟩
  unfold NBl at hb
  omega
/-- a JOINED or ROUND version -/
theorem VOC_met (h : INN r v) (hh : how = 5 ∨ how = 6) (hx0 : 0 ≤ x) (hx1 : x ≤ 7) : VOC r (q_up (q_up (q_up (C_add r v x how s) 13 v f) 14 v t) 40 x v) v q' k dep (un (nz (r 40)) x v, [v_mk x how s f t], [], [], [], []) := by
  have q := RAW_ft (f := f) (t := t) (RAW_add (r := r) (v := v) (x := x) (how := how) (s := s))
  refine VOC_one h ?_ ?_ (fun i => ?_) trivial trivial (fun a i n1 n2 n3 n4 n5 => ?_) ?_
  · unfold VRokC v_mk
    have hf : ¬ v_fol ((x, how, s, f, t), (0, -1, 0), (0, t0, t0)) := by unfold v_fol; dsimp only; omega
    rw [if_neg hf, if_neg hf]
    exact ⟨RAW_of q (fun a ha => q_up_ne _ _ _ _ (by omega)), fun g => absurd g hf⟩
  · rw [q_up_ne _ _ _ _ (by decide), q_up_ne _ _ _ _ (by decide), q_up_ne _ _ _ _ (by decide), C_add_9]
  · by_cases hi : i = x
    · rw [if_pos hi, hi, q_up_eq]
    · rw [if_neg hi, q_up_ne2 _ _ _ hi, q_up_ne _ _ _ _ (by decide), q_up_ne _ _ _ _ (by decide), C_add_ne (by omega) (by omega)]
  · rw [q_up_ne _ _ _ _ n3, q_up, if_neg (by omega), q_up, if_neg (by omega), C_add_ne (by omega) n2]
  · intro g
    unfold v_mk v_fol at g
    dsimp only at g
    omega
theorem n29_j (hc : q_C c) (hd : dep ≤ 5) (s0 : 0 ≤ s) (s1 : s < 40) : ∀ (n : Nat) (x : Int) (r : St) (v : Int) (m : Int → Int) (l5 : V2), x + n = 8 → 0 ≤ x → INN r v → (∀ j, x ≤ j → j ≤ 7 → r 40 j = other j) → (∀ j, x ≤ j → j ≤ 7 → r (41 + 1 + dep) j = m j ∧ 0 ≤ m j ∧ m j < v) → (∀ j, 0 ≤ j → j < x → r 40 j = m j) → nz m = m → (∀ j, 0 ≤ j → j ≤ 7 → r (48 + 1 + dep) j = one j) → v + (v_many set n x : Nat) ≤ 240 →
    (∀ r' l4 l5, VOC r r' v q' k dp (v_now set n x v m, v_join set one other s n x, [], [], [], []) → qx sc (D + 2) 29 258 [vr 39, vi s, vi dep, vi set, l4, l5] [] (0, 0) bb (NS c C r') Q) →
    qx sc (D + 2) 29 158 [vr 39, vi s, vi dep, vi set, vi x, l5] [] (0, 0) bb (NS c C r) Q := by
  intro n
  induction n with
  | zero =>
    intro x r v m l5 hx x0 hi ho hm hl hz he hv kk
    have e : nz (r 40) = m := by
      funext j
      by_cases hj : 0 ≤ j ∧ j ≤ 7
      · rw [nz_at hj.1 hj.2]; exact hl j hj.1 (by omega)
      · rw [← hz]; unfold nz; rw [if_neg hj, if_neg hj]
    have k0 := kk r (vi x) l5 (by unfold v_now v_join; rw [← e]; exact VOC_nil hi)
    rw [k29_158]
    simp only [k29_160, k29_162]
    exact ⟨fun h => by omega, fun _ => k0⟩
  | succ n ih =>
    intro x r v m l5 hx x0 hi ho hm hl hz he hv kk
    have x8 : x < 8 := by omega
    obtain ⟨b1, b2, b3, b4⟩ := hi
    obtain ⟨m1, m2, m3⟩ := hm x (Int.le_refl _) (by omega)
    have eA : ∀ r j, NS c C r (41 + 1 + dep) j = r (41 + 1 + dep) j := fun r j => NS_lo hc (by omega) (by omega)
    have eE : ∀ r j, NS c C r (48 + 1 + dep) j = r (48 + 1 + dep) j := fun r j => NS_lo hc (by omega) (by omega)
    have e40 : ∀ r j, NS c C r 40 j = r 40 j := fun r j => NS_lo hc (by decide) (by decide)
    have u40 : ∀ r i x, q_up (NS c C r) 40 i x = NS c C (q_up r 40 i x) := fun r i x => NS_u hc (by decide) (by decide)
    have u13 : ∀ r i x, q_up (NS c C r) 13 i x = NS c C (q_up r 13 i x) := fun r i x => NS_u hc (by decide) (by decide)
    have u14 : ∀ r i x, q_up (NS c C r) 14 i x = NS c C (q_up r 14 i x) := fun r i x => NS_u hc (by decide) (by decide)
    have hd0 : (0 : Int) ≤ (dep : Int) := by omega
    have hd6 : (dep : Int) < 6 := by omega
    rw [k29_158]
    by_cases g : q_bit set x = 0
    · have gn : ¬ q_bit set x = 1 := by omega
      simp only [k29_160, k29_162, k29_165, k29_166, k29_168, k29_169, k29_170, k29_171, k29_172, k29_236, k29_237, k29_240, k29_242, k29_243, k29_246, k29_247, k29_248, k29_250, k29_251, k29_252, k29_255, true_implies, false_implies, not_true_eq_false, not_false_eq_true, true_and, and_true, implies_true, or_true, true_or, or_false, false_or, Int.reduceEq, Int.one_ne_zero, Nat.reduceEqDiff, qt_1, ql_1, qt_2, ql_2, qt_3, ql_3, qt_6, ql_6, qt_7, ql_7, qt_8, ql_8, qt_10, ql_10, qt_11, ql_11, qt_12, ql_12, qt_13, ql_13, qt_14, ql_14, qt_15, ql_15, qt_16, ql_16, qt_17, ql_17, qt_18, ql_18, qt_19, ql_19, qt_20, ql_20, qt_21, ql_21, qt_22, ql_22, qt_23, ql_23, qt_24, ql_24, qt_25, ql_25, qt_26, ql_26, qt_28, ql_28, qt_29, ql_29, qt_30, ql_30, qt_31, ql_31, qt_32, ql_32, qt_33, ql_33, qt_34, ql_34, qt_35, ql_35, qt_36, ql_36, qt_37, ql_37, qt_38, ql_38, qt_40, ql_40, qt_41, ql_41, qt_42, ql_42, qt_43, ql_43, qt_44, ql_44, qt_45, ql_45, qt_46, ql_46, qt_47, ql_47, qt_48, ql_48, qt_49, ql_49, qt_50, ql_50, qt_51, ql_51, qt_52, ql_52, qt_53, ql_53, qt_54, ql_54, qt_56, ql_56, qt_57, ql_57, qt_58, ql_58, qt_59, ql_59, qt_60, ql_60, qt_61, ql_61, qt_62, ql_62, qt_63, ql_63, qt_64, ql_64, qt_65, ql_65, qt_67, ql_67, qt_68, ql_68, qt_69, ql_69, qt_70, ql_70, qt_71, ql_71, qt_73, ql_73, qt_74, ql_74, qt_75, ql_75, qt_76, ql_76, qt_78, ql_78, qt_79, ql_79, qt_80, ql_80, qt_81, ql_81, qt_82, ql_82, qt_83, ql_83, qt_84, ql_84, qt_85, ql_85, qt_86, ql_86, qt_87, ql_87, qt_89, ql_89, qt_90, ql_90, qt_91, ql_91, qt_92, ql_92, qt_93, ql_93, qt_94, ql_94, qt_95, ql_95, qt_96, ql_96, qt_97, ql_97, qt_98, ql_98, qt_99, ql_99, qt_100, ql_100, qt_101, ql_101, qt_102, ql_102, qt_103, ql_103, qt_105, ql_105, qt_106, ql_106, qt_107, ql_107, qt_108, ql_108, qt_109, ql_109, qt_110, ql_110, qt_111, ql_111, qt_113, ql_113, qt_114, ql_114, qt_115, ql_115, qt_116, ql_116, qt_117, ql_117, qt_118, ql_118, qt_119, ql_119, qt_120, ql_120, qt_121, ql_121, qt_122, ql_122, qt_123, ql_123, qt_124, ql_124, qt_125, ql_125, qt_126, ql_126, qt_127, ql_127, qt_129, ql_129, qt_130, ql_130, qt_131, ql_131, qt_132, ql_132, qt_133, ql_133, qt_134, ql_134, qt_135, ql_135, qt_137, ql_137, qt_138, ql_138, qt_139, ql_139, qt_140, ql_140, qt_141, ql_141, qt_142, ql_142, qt_143, ql_143, qt_144, ql_144, qt_145, ql_145, qt_146, ql_146, qt_147, ql_147, qt_148, ql_148, qt_149, ql_149, qt_150, ql_150, qt_151, ql_151, qt_152, ql_152, qt_153, ql_153, qt_154, ql_154, qt_155, ql_155, qt_156, ql_156, qt_157, ql_157, qt_158, ql_158, qt_159, ql_159, qt_160, ql_160, qt_161, ql_161, qt_162, ql_162, qt_163, ql_163, qt_164, ql_164, qt_165, ql_165, qt_166, ql_166, qt_167, ql_167, qt_168, ql_168, qt_169, ql_169, qt_170, ql_170, qt_171, ql_171, qt_172, ql_172, qt_173, ql_173, qt_174, ql_174, qt_175, ql_175, qt_176, ql_176, qt_177, ql_177, qt_178, ql_178, qt_179, ql_179, qt_180, ql_180, qt_181, ql_181, qt_182, ql_182, qt_183, ql_183, qt_184, ql_184, qt_185, ql_185, qt_186, ql_186, qt_187, ql_187, qt_188, ql_188, (qt_ah hd).1, (qt_ah hd).2, q_bit_fold, g, Int.zero_ne_one, x0, x8, hd0, hd6, Int.toNat_natCast, eA, u40]
      refine ⟨by omega, ih (x + 1) _ v m _ (by omega) (by omega) ⟨?_, b2, fun i i0 i1 => ?_, fun i i0 i1 => ?_⟩ (fun j j0 j1 => ?_) (fun j j0 j1 => ?_) (fun j j0 j1 => ?_) hz (fun j j0 j1 => ?_) ?_ ?_⟩
      · rw [q_up_ne _ _ _ _ (by decide)]; exact b1
      · by_cases hix : i = x
        · rw [hix, q_up_eq, m1]; exact ⟨m2, m3⟩
        · rw [q_up_ne2 _ _ _ hix]; exact b3 i i0 i1
      · rw [q_up_ne _ _ _ _ (by decide)]; exact b4 i i0 i1
      · rw [q_up_ne2 _ _ _ (by omega)]; exact ho j (by omega) j1
      · rw [q_up_ne _ _ _ _ (by omega)]; exact hm j (by omega) j1
      · by_cases hix : j = x
        · rw [hix, q_up_eq, m1]
        · rw [q_up_ne2 _ _ _ hix]; exact hl j j0 (by omega)
      · rw [q_up_ne _ _ _ _ (by omega)]; exact he j j0 j1
      · rw [v_many, if_pos g] at hv; exact hv
      · intro r' l4 l5 hV
        refine kk r' l4 l5 ?_
        rw [v_now, if_pos g, v_join, if_pos g]
        have st : VOC r (q_up r 40 x (r (41 + 1 + dep) x)) v q' k dp (nz (q_up r 40 x (r (41 + 1 + dep) x) 40), [], [], [], [], []) := by
          refine VOC_cur ⟨?_, b2, fun i i0 i1 => ?_, fun i i0 i1 => ?_⟩ (fun a i ha => q_up_ne _ _ _ _ ha)
          · rw [q_up_ne _ _ _ _ (by decide)]; exact b1
          · by_cases hix : i = x
            · rw [hix, q_up_eq, m1]; exact ⟨m2, m3⟩
            · rw [q_up_ne2 _ _ _ hix]; exact b3 i i0 i1
          · rw [q_up_ne _ _ _ _ (by decide)]; exact b4 i i0 i1
        exact VOC_app' st hV (by simp) (by simp) (by simp)
    · have g1 : q_bit set x = 1 := by
        have := q_bit_01 set x
        omega
      rw [v_many, if_neg g] at hv
      have hv0 : v < 240 := by omega
      simp only [k29_160, k29_162, k29_165, k29_166, k29_168, k29_169, k29_170, k29_171, k29_172, k29_175, k29_176, k29_179, k29_181, k29_182, k29_183, true_implies, false_implies, not_true_eq_false, not_false_eq_true, true_and, and_true, implies_true, or_true, true_or, or_false, false_or, Int.reduceEq, Int.one_ne_zero, Nat.reduceEqDiff, q_bit_fold, g1, x8]
      refine n88 (v := v) (by rw [NS_lo hc (by decide) (by decide), b1]) (by omega) hv0 ?_
      rw [NS_add hc]
      have a40 : ∀ f, q_up (C_add r v x 5 s) 13 v f 40 x = r 40 x := fun f => by rw [q_up_ne _ _ _ _ (by decide), C_add_ne (by omega) (by omega)]
      have aE : C_add r v x 5 s (48 + 1 + dep) x = r (48 + 1 + dep) x := C_add_ne (by omega) (by omega)
      have v0 : 0 ≤ v := by omega
      simp only [q_kn_v, k29_186, k29_188, k29_189, k29_192, k29_195, k29_197, k29_198, k29_201, k29_202, k29_203, k29_205, k29_206, k29_207, k29_208, k29_211, k29_214, k29_216, k29_217, k29_220, k29_222, k29_223, k29_224, k29_225, k29_228, k29_230, k29_232, k29_233, k29_252, k29_255, true_implies, false_implies, not_true_eq_false, not_false_eq_true, true_and, and_true, implies_true, or_true, true_or, or_false, false_or, Int.reduceEq, Int.one_ne_zero, Nat.reduceEqDiff, qt_1, ql_1, qt_2, ql_2, qt_3, ql_3, qt_6, ql_6, qt_7, ql_7, qt_8, ql_8, qt_10, ql_10, qt_11, ql_11, qt_12, ql_12, qt_13, ql_13, qt_14, ql_14, qt_15, ql_15, qt_16, ql_16, qt_17, ql_17, qt_18, ql_18, qt_19, ql_19, qt_20, ql_20, qt_21, ql_21, qt_22, ql_22, qt_23, ql_23, qt_24, ql_24, qt_25, ql_25, qt_26, ql_26, qt_28, ql_28, qt_29, ql_29, qt_30, ql_30, qt_31, ql_31, qt_32, ql_32, qt_33, ql_33, qt_34, ql_34, qt_35, ql_35, qt_36, ql_36, qt_37, ql_37, qt_38, ql_38, qt_40, ql_40, qt_41, ql_41, qt_42, ql_42, qt_43, ql_43, qt_44, ql_44, qt_45, ql_45, qt_46, ql_46, qt_47, ql_47, qt_48, ql_48, qt_49, ql_49, qt_50, ql_50, qt_51, ql_51, qt_52, ql_52, qt_53, ql_53, qt_54, ql_54, qt_56, ql_56, qt_57, ql_57, qt_58, ql_58, qt_59, ql_59, qt_60, ql_60, qt_61, ql_61, qt_62, ql_62, qt_63, ql_63, qt_64, ql_64, qt_65, ql_65, qt_67, ql_67, qt_68, ql_68, qt_69, ql_69, qt_70, ql_70, qt_71, ql_71, qt_73, ql_73, qt_74, ql_74, qt_75, ql_75, qt_76, ql_76, qt_78, ql_78, qt_79, ql_79, qt_80, ql_80, qt_81, ql_81, qt_82, ql_82, qt_83, ql_83, qt_84, ql_84, qt_85, ql_85, qt_86, ql_86, qt_87, ql_87, qt_89, ql_89, qt_90, ql_90, qt_91, ql_91, qt_92, ql_92, qt_93, ql_93, qt_94, ql_94, qt_95, ql_95, qt_96, ql_96, qt_97, ql_97, qt_98, ql_98, qt_99, ql_99, qt_100, ql_100, qt_101, ql_101, qt_102, ql_102, qt_103, ql_103, qt_105, ql_105, qt_106, ql_106, qt_107, ql_107, qt_108, ql_108, qt_109, ql_109, qt_110, ql_110, qt_111, ql_111, qt_113, ql_113, qt_114, ql_114, qt_115, ql_115, qt_116, ql_116, qt_117, ql_117, qt_118, ql_118, qt_119, ql_119, qt_120, ql_120, qt_121, ql_121, qt_122, ql_122, qt_123, ql_123, qt_124, ql_124, qt_125, ql_125, qt_126, ql_126, qt_127, ql_127, qt_129, ql_129, qt_130, ql_130, qt_131, ql_131, qt_132, ql_132, qt_133, ql_133, qt_134, ql_134, qt_135, ql_135, qt_137, ql_137, qt_138, ql_138, qt_139, ql_139, qt_140, ql_140, qt_141, ql_141, qt_142, ql_142, qt_143, ql_143, qt_144, ql_144, qt_145, ql_145, qt_146, ql_146, qt_147, ql_147, qt_148, ql_148, qt_149, ql_149, qt_150, ql_150, qt_151, ql_151, qt_152, ql_152, qt_153, ql_153, qt_154, ql_154, qt_155, ql_155, qt_156, ql_156, qt_157, ql_157, qt_158, ql_158, qt_159, ql_159, qt_160, ql_160, qt_161, ql_161, qt_162, ql_162, qt_163, ql_163, qt_164, ql_164, qt_165, ql_165, qt_166, ql_166, qt_167, ql_167, qt_168, ql_168, qt_169, ql_169, qt_170, ql_170, qt_171, ql_171, qt_172, ql_172, qt_173, ql_173, qt_174, ql_174, qt_175, ql_175, qt_176, ql_176, qt_177, ql_177, qt_178, ql_178, qt_179, ql_179, qt_180, ql_180, qt_181, ql_181, qt_182, ql_182, qt_183, ql_183, qt_184, ql_184, qt_185, ql_185, qt_186, ql_186, qt_187, ql_187, qt_188, ql_188, (qt_en hd).1, (qt_en hd).2, x0, x8, hd0, hd6, v0, hv0, Int.toNat_natCast, eE, e40, u13, u14, u40, aE, a40]
      have hV1 := VOC_met (k := k) (q' := q') (s := s) (dep := dp) (f := r (48 + 1 + dep) x) (t := r 40 x) (how := 5) (x := x) ⟨b1, b2, b3, b4⟩ (Or.inl rfl) x0 (by omega)
      have fr : ∀ a j, ¬ a = 9 → ¬ (10 ≤ a ∧ a ≤ 26) → ¬ a = 40 → q_up (q_up (q_up (C_add r v x 5 s) 13 v (r (48 + 1 + dep) x)) 14 v (r 40 x)) 40 x v a j = r a j := fun a j n1 n2 n3 => by
        rw [q_up_ne _ _ _ _ n3, q_up_ne _ _ _ _ (by omega), q_up_ne _ _ _ _ (by omega), C_add_ne (by omega) (by omega)]
      have f40 : ∀ j, ¬ j = x → q_up (q_up (q_up (C_add r v x 5 s) 13 v (r (48 + 1 + dep) x)) 14 v (r 40 x)) 40 x v 40 j = r 40 j := fun j hj => by
        rw [q_up_ne2 _ _ _ hj, q_up_ne _ _ _ _ (by omega), q_up_ne _ _ _ _ (by omega), C_add_ne (by omega) (by omega)]
      refine ⟨by omega, ih (x + 1) _ (v + 1) (un m x v) _ (by omega) (by omega) hV1.2.2.2.2.2 (fun j j0 j1 => ?_) (fun j j0 j1 => ?_) (fun j j0 j1 => ?_) nz_nz (fun j j0 j1 => ?_) (by omega) ?_⟩
      · rw [f40 j (by omega)]; exact ho j (by omega) j1
      · rw [fr _ _ (by omega) (by omega) (by omega)]
        obtain ⟨q1, q2, q3⟩ := hm j (by omega) j1
        have : un m x v j = m j := by
          unfold un
          rw [nz_at (by omega) j1]
          unfold p_up
          rw [if_neg (by omega)]
        rw [this]
        exact ⟨q1, q2, by omega⟩
      · unfold un
        rw [nz_at j0 (by omega)]
        unfold p_up
        by_cases hj : j = x
        · rw [if_pos hj, hj, q_up_eq]
        · rw [if_neg hj, f40 j hj]; exact hl j j0 (by omega)
      · rw [fr _ _ (by omega) (by omega) (by omega)]; exact he j j0 j1
      · intro r' l4 l5 hV
        refine kk r' l4 l5 ?_
        rw [v_now, if_neg g, v_join, if_neg g]
        rw [he x x0 (by omega), ho x (Int.le_refl _) (by omega)] at hV1 hV
        exact VOC_app' hV1 hV (by simp) (by simp) (by simp)
end NUJ
