/-! the class begins a numbering -/
def v_beg : Nat → Int → List VR
  | 0, _ => []
  | k + 1, x => ((x, 0, -1, -1, -1), (0, -1, 0), (0, (1, 0, 0), (1, 0, 0))) :: v_beg k (x + 1)
theorem v_beg_len : ∀ (k : Nat) (x : Int), (v_beg k x).length = k := by
  intro k
  induction k with
  | zero => intro x; rfl
  | succ k ih => intro x; rw [v_beg, List.length_cons, ih]
def C_bg1 (r : St) (x : Int) : St := C_tt (C_tt (q_up (C_add r x x 0 (-1)) 40 x x) 0 x 1 0 0) 1 x 1 0 0
section BGN
variable {sc : Nat × (Nat → Int32)} {D : Nat} {bb : Bool} {Q : QP} {c a : Nat} {σ C r : St} {i x : Int}
theorem NS_eta (hc : q_C c) : q_up σ 39 5 (c : Int) = NS c (COD c σ) σ := by
  have := q_C_ge hc
  funext a i
  unfold NS COD
  rw [q_up_app]
  by_cases e : a = 39 ∧ i = 5
  · rw [if_pos e, if_pos e]
  · rw [if_neg e, if_neg e]
    split
    · rename_i h
      rw [show c + (a - c) = a by omega]
    · rfl
theorem C_bg1_ne (h : ¬ (a = 9 ∧ i = 0)) (h' : ¬ (i = x ∧ 10 ≤ a ∧ a ≤ 26)) (h2 : ¬ (a = 40 ∧ i = x)) : C_bg1 r x a i = r a i := by
  unfold C_bg1
  rw [C_tt_ne (by omega), C_tt_ne (by omega), q_up_app, if_neg h2, C_add_ne h h']
theorem C_bg1_40 : C_bg1 r x 40 x = x := by
  unfold C_bg1
  rw [C_tt_ne (by omega), C_tt_ne (by omega), q_up_eq]
theorem C_bg1_9 : C_bg1 r x 9 0 = x + 1 := by
  unfold C_bg1
  rw [C_tt_ne (by omega), C_tt_ne (by omega), q_up_ne _ _ _ _ (by decide), C_add_9]
theorem C_bg1_ok : VRokC (C_bg1 r x) x ((x, 0, -1, -1, -1), (0, -1, 0), (0, (1, 0, 0), (1, 0, 0))) := by
  unfold VRokC C_bg1
  simp only [v_fol, Int.reduceEq, if_true, if_false, false_or, or_false, false_and, and_false, false_implies, and_true]
  exact RAW_t1 (RAW_t0 (RAW_of (RAW_add (r := r) (v := x) (x := x) (how := 0) (s := -1)) (fun a ha => q_up_ne _ _ _ _ (by omega))))
theorem n22_l (hc : q_C c) : ∀ (k : Nat) (x : Int) (r : St) (l1 : V2), x + k = 8 → 0 ≤ x → r 9 0 = x →
    (∀ r', TAB (VRokC r') x (v_beg k x) → r' 9 0 = 8 → (∀ i, x ≤ i → i < 8 → r' 40 i = i ∧ r' 17 i = 0) → (∀ a i, ¬ (a = 9 ∧ i = 0) → ¬ (10 ≤ a ∧ a ≤ 26 ∧ x ≤ i ∧ i < 8) → ¬ (a = 40 ∧ x ≤ i ∧ i < 8) → r' a i = r a i) → qx sc (D + 3) 22 58 [vr 39, l1, vi 8] [] (0, 0) bb (NS c C r') Q) →
    qx sc (D + 3) 22 15 [vr 39, l1, vi x] [] (0, 0) bb (NS c C r) Q := by
  intro k
  induction k with
  | zero =>
    intro x r l1 hx h0 h9 kk
    have e : x = 8 := by omega
    subst e
    rw [k22_15]
    simp only [k22_16, k22_18]
    exact ⟨fun h => absurd h (by decide), fun _ => kk r trivial h9 (fun i _ _ => by omega) (fun _ _ _ _ _ => rfl)⟩
  | succ k ih =>
    intro x r l1 hx h0 h9 kk
    have hx8 : x < 8 := by omega
    have u40 : ∀ r i x, q_up (NS c C r) 40 i x = NS c C (q_up r 40 i x) := fun r i x => NS_u hc (by decide) (by decide)
    have e40 : ∀ r i, NS c C r 40 i = r 40 i := fun r i => NS_lo hc (by decide) (by decide)
    rw [k22_15]
    simp only [k22_16, k22_18, k22_21, k22_22, k22_25, k22_26, k22_27, k22_30, k22_31, k22_32, k22_33, hx8, true_implies, false_implies, not_true_eq_false, not_false_eq_true, true_and, and_true, implies_true, or_true, true_or, or_false, false_or, Int.reduceEq, Int.one_ne_zero, Nat.reduceEqDiff]
    refine n88 (v := x) (by rw [NS_lo hc (by decide) (by decide), h9]) h0 (by omega) ?_
    rw [NS_add hc]
    simp only [q_kn_v, k22_36, k22_37, k22_38, k22_41, k22_42, k22_45, k22_46, k22_47, k22_48, k22_49, true_implies, false_implies, not_true_eq_false, not_false_eq_true, true_and, and_true, implies_true, or_true, true_or, or_false, false_or, Int.reduceEq, Int.one_ne_zero, Nat.reduceEqDiff, qt_1, ql_1, qt_2, ql_2, qt_3, ql_3, qt_6, ql_6, qt_7, ql_7, qt_8, ql_8, qt_10, ql_10, qt_11, ql_11, qt_12, ql_12, qt_13, ql_13, qt_14, ql_14, qt_15, ql_15, qt_16, ql_16, qt_17, ql_17, qt_18, ql_18, qt_19, ql_19, qt_20, ql_20, qt_21, ql_21, qt_22, ql_22, qt_23, ql_23, qt_24, ql_24, qt_25, ql_25, qt_26, ql_26, qt_28, ql_28, qt_29, ql_29, qt_30, ql_30, qt_31, ql_31, qt_32, ql_32, qt_33, ql_33, qt_34, ql_34, qt_35, ql_35, qt_36, ql_36, qt_37, ql_37, qt_38, ql_38, qt_40, ql_40, qt_41, ql_41, qt_42, ql_42, qt_43, ql_43, qt_44, ql_44, qt_45, ql_45, qt_46, ql_46, qt_47, ql_47, qt_48, ql_48, qt_49, ql_49, qt_50, ql_50, qt_51, ql_51, qt_52, ql_52, qt_53, ql_53, qt_54, ql_54, qt_56, ql_56, qt_57, ql_57, qt_58, ql_58, qt_59, ql_59, qt_60, ql_60, qt_61, ql_61, qt_62, ql_62, qt_63, ql_63, qt_64, ql_64, qt_65, ql_65, qt_67, ql_67, qt_68, ql_68, qt_69, ql_69, qt_70, ql_70, qt_71, ql_71, qt_73, ql_73, qt_74, ql_74, qt_75, ql_75, qt_76, ql_76, qt_78, ql_78, qt_79, ql_79, qt_80, ql_80, qt_81, ql_81, qt_82, ql_82, qt_83, ql_83, qt_84, ql_84, qt_85, ql_85, qt_86, ql_86, qt_87, ql_87, qt_89, ql_89, qt_90, ql_90, qt_91, ql_91, qt_92, ql_92, qt_93, ql_93, qt_94, ql_94, qt_95, ql_95, qt_96, ql_96, qt_97, ql_97, qt_98, ql_98, qt_99, ql_99, qt_100, ql_100, qt_101, ql_101, qt_102, ql_102, qt_103, ql_103, qt_105, ql_105, qt_106, ql_106, qt_107, ql_107, qt_108, ql_108, qt_109, ql_109, qt_110, ql_110, qt_111, ql_111, qt_113, ql_113, qt_114, ql_114, qt_115, ql_115, qt_116, ql_116, qt_117, ql_117, qt_118, ql_118, qt_119, ql_119, qt_120, ql_120, qt_121, ql_121, qt_122, ql_122, qt_123, ql_123, qt_124, ql_124, qt_125, ql_125, qt_126, ql_126, qt_127, ql_127, qt_129, ql_129, qt_130, ql_130, qt_131, ql_131, qt_132, ql_132, qt_133, ql_133, qt_134, ql_134, qt_135, ql_135, qt_137, ql_137, qt_138, ql_138, qt_139, ql_139, qt_140, ql_140, qt_141, ql_141, qt_142, ql_142, qt_143, ql_143, qt_144, ql_144, qt_145, ql_145, qt_146, ql_146, qt_147, ql_147, qt_148, ql_148, qt_149, ql_149, qt_150, ql_150, qt_151, ql_151, qt_152, ql_152, qt_153, ql_153, qt_154, ql_154, qt_155, ql_155, qt_156, ql_156, qt_157, ql_157, qt_158, ql_158, qt_159, ql_159, qt_160, ql_160, qt_161, ql_161, qt_162, ql_162, qt_163, ql_163, qt_164, ql_164, qt_165, ql_165, qt_166, ql_166, qt_167, ql_167, qt_168, ql_168, qt_169, ql_169, qt_170, ql_170, qt_171, ql_171, qt_172, ql_172, qt_173, ql_173, qt_174, ql_174, qt_175, ql_175, qt_176, ql_176, qt_177, ql_177, qt_178, ql_178, qt_179, ql_179, qt_180, ql_180, qt_181, ql_181, qt_182, ql_182, qt_183, ql_183, qt_184, ql_184, qt_185, ql_185, qt_186, ql_186, qt_187, ql_187, qt_188, ql_188, u40, e40, q_up_eq, h0, hx8]
    refine n91 h0 (by omega) ?_
    rw [NS_tt hc (by decide), NS_tt hc (by decide)]
    simp only [q_kn_n, k22_52, k22_55]
    refine ⟨by omega, ih (x + 1) (C_bg1 r x) l1 (by omega) (by omega) C_bg1_9 (fun r' t1 t2 t3 t4 => kk r' ⟨?_, t1⟩ t2 (fun i i0 i1 => ?_) (fun a i n1 n2 n3 => ?_))⟩
    · exact VRokC_of C_bg1_ok (fun a j ha hj => t4 a j (by omega) (by omega) (by omega))
    · by_cases e : i = x
      · subst e
        rw [t4 40 i (by omega) (by omega) (by omega), t4 17 i (by omega) (by omega) (by omega)]
        exact ⟨C_bg1_40, C_bg1_ok.1.2.2.2.2⟩
      · exact t3 i (by omega) i1
    · rw [t4 a i n1 (by omega) (by omega)]
      exact C_bg1_ne n1 (by omega) (by omega)
/-- the class begins a numbering, and walks -/
theorem n22 (hc : q_C c) (kk : ∀ r', TAB (VRokC r') 0 (v_beg 8 0) → INN r' 8 → nz (r' 40) = id8 → (∀ a i, ¬ a = 9 → ¬ (10 ≤ a ∧ a ≤ 26) → ¬ a = 40 → r' a i = σ a i) → qx sc (D + 2) 28 0 [vr 39, vi 0, vi (COD c σ 0 0), vi 0, vn] [] (0, 0) bb (NS c (COD c σ) r') (q_kn sc (D + 3) 22 71 [vr 39, vr c, vi 8] [] (0, 0) Q)) :
    qx sc (D + 3) 22 0 [vr 39, vr c, vn] [] (0, 0) bb σ Q := by
  simp only [k22_0, k22_1, k22_2]
  refine ⟨by unfold q_C at hc; omega, ?_⟩
  rw [NS_eta hc]
  have u9 : ∀ x, q_up (NS c (COD c σ) σ) 9 0 x = NS c (COD c σ) (q_up σ 9 0 x) := fun x => NS_u hc (by decide) (by decide)
  simp only [k22_5, k22_6, k22_9, k22_10, k22_13, k22_14, u9]
  refine n22_l hc 8 0 _ _ (by decide) (by decide) (q_up_eq _ _ _ _) (fun r' t1 t2 t3 t4 => ?_)
  have e5 : NS c (COD c σ) r' 39 5 = (c : Int) := NS_co
  have e0 : ∀ i, NS c (COD c σ) r' c i = COD c σ 0 i := fun i => NS_g (j := 0) hc (by decide)
  simp only [k22_58, k22_59, k22_60, k22_61, k22_64 hc, k22_67, k22_68, e5, e0, c_nn, Int.toNat_natCast, true_implies, false_implies, not_true_eq_false, not_false_eq_true, true_and, and_true, implies_true, or_true, true_or, or_false, false_or, Int.reduceEq, Int.one_ne_zero, Nat.reduceEqDiff]
  refine kk r' t1 ⟨t2, by decide, fun i i0 i1 => ?_, fun i i0 i1 => ?_⟩ ?_ (fun a i n1 n2 n3 => ?_)
  · rw [(t3 i i0 (by omega)).1]; omega
  · rw [(t3 i i0 (by omega)).2]; omega
  · funext j
    unfold id8 nz
    by_cases hj : 0 ≤ j ∧ j ≤ 7
    · rw [if_pos hj, if_pos hj, (t3 j hj.1 (by omega)).1]
    · rw [if_neg hj, if_neg hj]
  · rw [t4 a i (by omega) (by omega) (by omega), q_up_ne _ _ _ _ n1]
end BGN
