/-! bounds in the class -/
def enC (o : Option Int) : Int := match o with
  | some a => a
  | none => 99999
def mvd (x k : Int) : Int := if x = 99999 then 99999 else x + k
/-- what is held in rows: nothing else is far -/
def XOK (V : Nat) (X : Nat → Option Int) : Prop := ∀ v, v < V → ∀ a, X v = some a → -200000 ≤ a ∧ a ≤ 90000
theorem enC_add {o : Option Int} {k : Int} (h : ∀ a, o = some a → a ≤ 90000) : mvd (enC o) k = enC (l_add o k) := by
  cases o with
  | none => rfl
  | some a =>
    have := h a rfl
    show (if a = 99999 then (99999 : Int) else a + k) = a + k
    rw [if_neg (by omega)]
theorem enC_max {a b : Option Int} (ha : ∀ x, a = some x → x ≤ 90000) (hb : ∀ x, b = some x → x ≤ 90000) : max (enC a) (enC b) = enC (l_max a b) := by
  cases a with
  | none => cases b with
    | none => rfl
    | some y => have := hb y rfl; show max (99999 : Int) y = 99999; omega
  | some x => cases b with
    | none => have := ha x rfl; show max x (99999 : Int) = 99999; omega
    | some y => rfl
theorem enC_min {a b : Option Int} (ha : ∀ x, a = some x → x ≤ 99000) (hb : ∀ x, b = some x → x ≤ 99000) : min (enC a) (enC b) = enC (l_min a b) := by
  cases a with
  | none => cases b with
    | none => rfl
    | some y => have := hb y rfl; show min (99999 : Int) y = y; omega
  | some x => cases b with
    | none => have := ha x rfl; show min x (99999 : Int) = x; omega
    | some y => rfl
section BND
variable {sc : Nat × (Nat → Int32)} {D : Nat} {bb : Bool} {Q : QP} {c a V v : Nat} {σ C r : St} {G : GT} {pl : Int → Int} {b wo x k : Int} {X : Nat → Option Int}
theorem n5 (hr : q_R (x + k)) (kk : Q (.inl (some (vi (mvd x k)))) bb σ) : qx sc D 5 0 [vr 55, vi x, vi k] [] (0, 0) bb σ Q := by
  simp only [k5_0, k5_1, k5_3, k5_6, k5_8, k5_11, k5_12, k5_13, k5_14]
  unfold mvd at kk
  refine ⟨fun h => ?_, fun h => ?_⟩
  · rw [if_pos h] at kk; exact kk
  · rw [if_neg h] at kk; exact ⟨hr, kk⟩
/-- a row of bounds -/
def ROW (a : Nat) : Prop := q_ty a = 0 ∧ q_ln a = 240 ∧ a < 88 ∧ ¬ a = 39 ∧ 55 < a
/-- the class knows its versions -/
def CV (c : Nat) (C r : St) (G : GT) (V : Nat) (pl : Int → Int) : Prop := (∀ i : Int, 0 ≤ i → i < V → VRokC r i (gV G i) ∧ WV G pl V i) ∧ r 9 0 = V ∧ V ≤ 240 ∧ (∀ k, k = 0 ∨ k = 1 ∨ k = 2 → C 1 k = pl k ∧ -1 ≤ pl k ∧ pl k ≤ 20) ∧ r 55 1 = c
def q_of (pl : Int → Int) (k : Int) : Int := if pl k = -1 then 0 else pl k
theorem q_of_t {k : Int} (h : ¬ pl k = -1) : q_of pl k = pl k := if_neg h
theorem CV_q (h : CV c C r G V pl) : QPL (q_of pl) := by
  intro k k0 k1
  have := h.2.2.2.1 k (by omega)
  unfold q_of
  split <;> omega
theorem CV_raw (h : CV c C r G V pl) (hv : v < V) : (r 11 v = (gV G v).1.2.1 ∧ r 13 v = (gV G v).1.2.2.2.1 ∧ r 14 v = (gV G v).1.2.2.2.2 ∧ r 15 v = (gV G v).2.2.1) ∧ (r 19 v, r 22 v, r 25 v) = (gV G v).2.2.2.1 ∧ (r 20 v, r 23 v, r 26 v) = (gV G v).2.2.2.2 := by
  obtain ⟨⟨⟨⟨-, a2, -, a4, a5, a6⟩, b1, b2, -⟩, -⟩, -⟩ := h.1 v (by omega) (by omega)
  exact ⟨⟨a2, a4, a5, a6⟩, b1, b2⟩
/-- meets -/
theorem n90 (hc : q_C c) (h : CV c C r G V pl) (hv : v < V) (k1 : v_meet (gV G v) → Q (.inl (some (vi 1))) bb (NS c C r)) (k0 : ¬ v_meet (gV G v) → Q (.inl (some (vi 0))) bb (NS c C r)) : qx sc D 90 0 [vr 9, vi v] [] (0, 0) bb (NS c C r) Q := by
  have e11 : NS c C r 11 v = (gV G v).1.2.1 := by rw [NS_lo hc (by decide) (by decide)]; exact (CV_raw h hv).1.1
  have h240 := h.2.2.1
  have v0 : (0 : Int) ≤ (v : Int) := by omega
  have v1 : (v : Int) < 240 := by omega
  simp only [k90_0, k90_1, k90_4, k90_5, k90_6, k90_7, k90_10, k90_11, k90_14, k90_15, k90_16, k90_18, k90_21, k90_22, k90_25, k90_26, qt_1, ql_1, qt_2, ql_2, qt_3, ql_3, qt_6, ql_6, qt_7, ql_7, qt_8, ql_8, qt_10, ql_10, qt_11, ql_11, qt_12, ql_12, qt_13, ql_13, qt_14, ql_14, qt_15, ql_15, qt_16, ql_16, qt_17, ql_17, qt_18, ql_18, qt_19, ql_19, qt_20, ql_20, qt_21, ql_21, qt_22, ql_22, qt_23, ql_23, qt_24, ql_24, qt_25, ql_25, qt_26, ql_26, qt_28, ql_28, qt_29, ql_29, qt_30, ql_30, qt_31, ql_31, qt_32, ql_32, qt_33, ql_33, qt_34, ql_34, qt_35, ql_35, qt_36, ql_36, qt_37, ql_37, qt_38, ql_38, qt_40, ql_40, qt_41, ql_41, qt_42, ql_42, qt_43, ql_43, qt_44, ql_44, qt_45, ql_45, qt_46, ql_46, qt_47, ql_47, qt_48, ql_48, qt_49, ql_49, qt_50, ql_50, qt_51, ql_51, qt_52, ql_52, qt_53, ql_53, qt_54, ql_54, qt_56, ql_56, qt_57, ql_57, qt_58, ql_58, qt_59, ql_59, qt_60, ql_60, qt_61, ql_61, qt_62, ql_62, qt_63, ql_63, qt_64, ql_64, qt_65, ql_65, qt_67, ql_67, qt_68, ql_68, qt_69, ql_69, qt_70, ql_70, qt_71, ql_71, qt_73, ql_73, qt_74, ql_74, qt_75, ql_75, qt_76, ql_76, qt_78, ql_78, qt_79, ql_79, qt_80, ql_80, qt_81, ql_81, qt_82, ql_82, qt_83, ql_83, qt_84, ql_84, qt_85, ql_85, qt_86, ql_86, qt_87, ql_87, qt_89, ql_89, qt_90, ql_90, qt_91, ql_91, qt_92, ql_92, qt_93, ql_93, qt_94, ql_94, qt_95, ql_95, qt_96, ql_96, qt_97, ql_97, qt_98, ql_98, qt_99, ql_99, qt_100, ql_100, qt_101, ql_101, qt_102, ql_102, qt_103, ql_103, qt_105, ql_105, qt_106, ql_106, qt_107, ql_107, qt_108, ql_108, qt_109, ql_109, qt_110, ql_110, qt_111, ql_111, qt_113, ql_113, qt_114, ql_114, qt_115, ql_115, qt_116, ql_116, qt_117, ql_117, qt_118, ql_118, qt_119, ql_119, qt_120, ql_120, qt_121, ql_121, qt_122, ql_122, qt_123, ql_123, qt_124, ql_124, qt_125, ql_125, qt_126, ql_126, qt_127, ql_127, qt_129, ql_129, qt_130, ql_130, qt_131, ql_131, qt_132, ql_132, qt_133, ql_133, qt_134, ql_134, qt_135, ql_135, qt_137, ql_137, qt_138, ql_138, qt_139, ql_139, qt_140, ql_140, qt_141, ql_141, qt_142, ql_142, qt_143, ql_143, qt_144, ql_144, qt_145, ql_145, qt_146, ql_146, qt_147, ql_147, qt_148, ql_148, qt_149, ql_149, qt_150, ql_150, qt_151, ql_151, qt_152, ql_152, qt_153, ql_153, qt_154, ql_154, qt_155, ql_155, qt_156, ql_156, qt_157, ql_157, qt_158, ql_158, qt_159, ql_159, qt_160, ql_160, qt_161, ql_161, qt_162, ql_162, qt_163, ql_163, qt_164, ql_164, qt_165, ql_165, qt_166, ql_166, qt_167, ql_167, qt_168, ql_168, qt_169, ql_169, qt_170, ql_170, qt_171, ql_171, qt_172, ql_172, qt_173, ql_173, qt_174, ql_174, qt_175, ql_175, qt_176, ql_176, qt_177, ql_177, qt_178, ql_178, qt_179, ql_179, qt_180, ql_180, qt_181, ql_181, qt_182, ql_182, qt_183, ql_183, qt_184, ql_184, qt_185, ql_185, qt_186, ql_186, qt_187, ql_187, qt_188, ql_188, true_implies, false_implies, not_true_eq_false, not_false_eq_true, true_and, and_true, implies_true, or_true, true_or, or_false, false_or, Int.reduceEq, Int.one_ne_zero, Nat.reduceEqDiff, e11, v0, v1]
  unfold v_meet at k1 k0
  grind
/-- lengthWorth -/
theorem n3 (hc : q_C c) (h : CV c C r G V pl) (hb : 0 ≤ b ∧ b ≤ 3) (hx : 0 ≤ x ∧ x ≤ 2) (hp : ¬ pl x = -1) (kk : Q (.inl (some (vi (if b = 3 then -q_of pl x else if b = x then 0 else 99999)))) bb (NS c C r)) : qx sc D 3 0 [vr 55, vi b, vi x] [] (0, 0) bb (NS c C r) Q := by
  have e55 : NS c C r 55 1 = c := by rw [NS_lo hc (by decide) (by decide)]; exact h.2.2.2.2
  have ep := h.2.2.2.1 x (by omega)
  simp only [k3_0, k3_1, k3_2]
  refine ⟨fun h3 => ?_, fun h3 => ?_⟩
  · rw [if_pos h3] at kk
    rw [q_of_t hp] at kk
    simp only [k3_5, k3_6, e55, c_nn, Int.toNat_natCast, k3_9 hc, k3_12, k3_13, k3_14, k3_15, true_implies, false_implies, not_true_eq_false, not_false_eq_true, true_and, and_true, implies_true, or_true, true_or, or_false, false_or, Int.reduceEq, Int.one_ne_zero, Nat.reduceEqDiff, qtc_1 hc, qlc_1 hc, NS_g (j := 1) hc (by decide), ep.1]
    exact ⟨⟨hx.1, by omega⟩, by unfold q_R; omega, kk⟩
  · rw [if_neg h3] at kk
    simp only [k3_16, k3_17, k3_18, k3_21, k3_22, k3_25, k3_27]
    refine ⟨fun h4 => ?_, fun h4 => ?_⟩
    · rw [if_pos h4] at kk; exact kk
    · rw [if_neg h4] at kk; exact kk
/-- fromAhead -/
theorem n1 (hc : q_C c) (h : CV c C r G V pl) (ha : ROW a) (hv : v < V) (hX : ∀ w : Nat, w < V → r a w = enC (X w)) (hX2 : XOK V X) (hm : ¬ v_meet (gV G v)) (kk : Q (.inl (some (vi (enC (l_fr X (e_fr b (gV G v))))))) bb (NS c C r)) : qx sc (D + 1) 1 0 [vr 55, vr a, vi b, vi v, vn] [] (0, 0) bb (NS c C r) Q := by
  obtain ⟨t1, t2, t3, t4, -⟩ := ha
  obtain ⟨⟨-, r13, -, r15⟩, -⟩ := CV_raw h hv
  have e13 : NS c C r 13 v = (gV G v).1.2.2.2.1 := by rw [NS_lo hc (by decide) (by decide)]; exact r13
  have e15 : NS c C r 15 v = (gV G v).2.2.1 := by rw [NS_lo hc (by decide) (by decide)]; exact r15
  have h240 := h.2.2.1
  have v0 : (0 : Int) ≤ (v : Int) := by omega
  have v1 : (v : Int) < 240 := by omega
  obtain ⟨f1, f2, -⟩ := WV_n (h.1 v (by omega) (by omega)).2 hm
  unfold e_fr at kk
  simp only [k1_0, k1_1, k1_4, k1_7, k1_8, k1_9, k1_11, k1_13, k1_14, qt_1, ql_1, qt_2, ql_2, qt_3, ql_3, qt_6, ql_6, qt_7, ql_7, qt_8, ql_8, qt_10, ql_10, qt_11, ql_11, qt_12, ql_12, qt_13, ql_13, qt_14, ql_14, qt_15, ql_15, qt_16, ql_16, qt_17, ql_17, qt_18, ql_18, qt_19, ql_19, qt_20, ql_20, qt_21, ql_21, qt_22, ql_22, qt_23, ql_23, qt_24, ql_24, qt_25, ql_25, qt_26, ql_26, qt_28, ql_28, qt_29, ql_29, qt_30, ql_30, qt_31, ql_31, qt_32, ql_32, qt_33, ql_33, qt_34, ql_34, qt_35, ql_35, qt_36, ql_36, qt_37, ql_37, qt_38, ql_38, qt_40, ql_40, qt_41, ql_41, qt_42, ql_42, qt_43, ql_43, qt_44, ql_44, qt_45, ql_45, qt_46, ql_46, qt_47, ql_47, qt_48, ql_48, qt_49, ql_49, qt_50, ql_50, qt_51, ql_51, qt_52, ql_52, qt_53, ql_53, qt_54, ql_54, qt_56, ql_56, qt_57, ql_57, qt_58, ql_58, qt_59, ql_59, qt_60, ql_60, qt_61, ql_61, qt_62, ql_62, qt_63, ql_63, qt_64, ql_64, qt_65, ql_65, qt_67, ql_67, qt_68, ql_68, qt_69, ql_69, qt_70, ql_70, qt_71, ql_71, qt_73, ql_73, qt_74, ql_74, qt_75, ql_75, qt_76, ql_76, qt_78, ql_78, qt_79, ql_79, qt_80, ql_80, qt_81, ql_81, qt_82, ql_82, qt_83, ql_83, qt_84, ql_84, qt_85, ql_85, qt_86, ql_86, qt_87, ql_87, qt_89, ql_89, qt_90, ql_90, qt_91, ql_91, qt_92, ql_92, qt_93, ql_93, qt_94, ql_94, qt_95, ql_95, qt_96, ql_96, qt_97, ql_97, qt_98, ql_98, qt_99, ql_99, qt_100, ql_100, qt_101, ql_101, qt_102, ql_102, qt_103, ql_103, qt_105, ql_105, qt_106, ql_106, qt_107, ql_107, qt_108, ql_108, qt_109, ql_109, qt_110, ql_110, qt_111, ql_111, qt_113, ql_113, qt_114, ql_114, qt_115, ql_115, qt_116, ql_116, qt_117, ql_117, qt_118, ql_118, qt_119, ql_119, qt_120, ql_120, qt_121, ql_121, qt_122, ql_122, qt_123, ql_123, qt_124, ql_124, qt_125, ql_125, qt_126, ql_126, qt_127, ql_127, qt_129, ql_129, qt_130, ql_130, qt_131, ql_131, qt_132, ql_132, qt_133, ql_133, qt_134, ql_134, qt_135, ql_135, qt_137, ql_137, qt_138, ql_138, qt_139, ql_139, qt_140, ql_140, qt_141, ql_141, qt_142, ql_142, qt_143, ql_143, qt_144, ql_144, qt_145, ql_145, qt_146, ql_146, qt_147, ql_147, qt_148, ql_148, qt_149, ql_149, qt_150, ql_150, qt_151, ql_151, qt_152, ql_152, qt_153, ql_153, qt_154, ql_154, qt_155, ql_155, qt_156, ql_156, qt_157, ql_157, qt_158, ql_158, qt_159, ql_159, qt_160, ql_160, qt_161, ql_161, qt_162, ql_162, qt_163, ql_163, qt_164, ql_164, qt_165, ql_165, qt_166, ql_166, qt_167, ql_167, qt_168, ql_168, qt_169, ql_169, qt_170, ql_170, qt_171, ql_171, qt_172, ql_172, qt_173, ql_173, qt_174, ql_174, qt_175, ql_175, qt_176, ql_176, qt_177, ql_177, qt_178, ql_178, qt_179, ql_179, qt_180, ql_180, qt_181, ql_181, qt_182, ql_182, qt_183, ql_183, qt_184, ql_184, qt_185, ql_185, qt_186, ql_186, qt_187, ql_187, qt_188, ql_188, true_implies, false_implies, not_true_eq_false, not_false_eq_true, true_and, and_true, implies_true, or_true, true_or, or_false, false_or, Int.reduceEq, Int.one_ne_zero, Nat.reduceEqDiff, e13, v0, v1]
  refine ⟨fun g => ?_, fun g => ?_⟩
  · rw [if_pos g] at kk
    simp only [k1_17, k1_19]
    exact kk
  · rw [if_neg g] at kk
    have hf : 0 ≤ (gV G v).1.2.2.2.1 ∧ (gV G v).1.2.2.2.1 < v := by omega
    have ex : NS c C r a (gV G v).1.2.2.2.1 = enC (X (gV G v).1.2.2.2.1.toNat) := by
      rw [NS_lo hc t3 t4, ← hX _ (by omega), Int.toNat_of_nonneg hf.1]
    have hx2 := hX2 (gV G v).1.2.2.2.1.toNat (by omega)
    have hq : ∀ k, -99 ≤ k ∧ k ≤ 99 → q_R (enC (X (gV G v).1.2.2.2.1.toNat) + k) := by
      intro k hk
      generalize X (gV G v).1.2.2.2.1.toNat = o at *
      cases o with
      | none => show q_R (99999 + k); unfold q_R; omega
      | some z => have := hx2 z rfl; show q_R (z + k); unfold q_R; omega
    have fin : ∀ k, k = (if b = 3 then -(gV G v).2.2.1 else (gV G v).2.2.1) → qx sc D 5 0 [vr 55, vi (enC (X (gV G v).1.2.2.2.1.toNat)), vi k] [] (0, 0) bb (NS c C r) (q_kn sc (D + 1) 1 55 [vr 55, vr a, vi b, vi v, vi (gV G v).1.2.2.2.1] [] (0, 0) Q) := by
      intro k hk
      refine n5 (hq k (by rw [hk]; split <;> omega)) ?_
      simp only [q_kn_v, k1_55]
      rw [enC_add (fun z hz => (hx2 z hz).2), hk]
      exact kk
    simp only [k1_20, k1_21, k1_22, k1_24, k1_25, k1_26, k1_27, t1, t2, ex, true_implies, false_implies, not_true_eq_false, not_false_eq_true, true_and, and_true, implies_true, or_true, true_or, or_false, false_or, Int.reduceEq, Int.one_ne_zero, Nat.reduceEqDiff]
    refine ⟨⟨hf.1, by omega⟩, fun g3 => ?_, fun g3 => ?_⟩
    · simp only [k1_30, k1_31, k1_34, k1_37, k1_38, k1_39, k1_40, k1_43, k1_44, k1_47, k1_50, k1_51, k1_52, qt_1, ql_1, qt_2, ql_2, qt_3, ql_3, qt_6, ql_6, qt_7, ql_7, qt_8, ql_8, qt_10, ql_10, qt_11, ql_11, qt_12, ql_12, qt_13, ql_13, qt_14, ql_14, qt_15, ql_15, qt_16, ql_16, qt_17, ql_17, qt_18, ql_18, qt_19, ql_19, qt_20, ql_20, qt_21, ql_21, qt_22, ql_22, qt_23, ql_23, qt_24, ql_24, qt_25, ql_25, qt_26, ql_26, qt_28, ql_28, qt_29, ql_29, qt_30, ql_30, qt_31, ql_31, qt_32, ql_32, qt_33, ql_33, qt_34, ql_34, qt_35, ql_35, qt_36, ql_36, qt_37, ql_37, qt_38, ql_38, qt_40, ql_40, qt_41, ql_41, qt_42, ql_42, qt_43, ql_43, qt_44, ql_44, qt_45, ql_45, qt_46, ql_46, qt_47, ql_47, qt_48, ql_48, qt_49, ql_49, qt_50, ql_50, qt_51, ql_51, qt_52, ql_52, qt_53, ql_53, qt_54, ql_54, qt_56, ql_56, qt_57, ql_57, qt_58, ql_58, qt_59, ql_59, qt_60, ql_60, qt_61, ql_61, qt_62, ql_62, qt_63, ql_63, qt_64, ql_64, qt_65, ql_65, qt_67, ql_67, qt_68, ql_68, qt_69, ql_69, qt_70, ql_70, qt_71, ql_71, qt_73, ql_73, qt_74, ql_74, qt_75, ql_75, qt_76, ql_76, qt_78, ql_78, qt_79, ql_79, qt_80, ql_80, qt_81, ql_81, qt_82, ql_82, qt_83, ql_83, qt_84, ql_84, qt_85, ql_85, qt_86, ql_86, qt_87, ql_87, qt_89, ql_89, qt_90, ql_90, qt_91, ql_91, qt_92, ql_92, qt_93, ql_93, qt_94, ql_94, qt_95, ql_95, qt_96, ql_96, qt_97, ql_97, qt_98, ql_98, qt_99, ql_99, qt_100, ql_100, qt_101, ql_101, qt_102, ql_102, qt_103, ql_103, qt_105, ql_105, qt_106, ql_106, qt_107, ql_107, qt_108, ql_108, qt_109, ql_109, qt_110, ql_110, qt_111, ql_111, qt_113, ql_113, qt_114, ql_114, qt_115, ql_115, qt_116, ql_116, qt_117, ql_117, qt_118, ql_118, qt_119, ql_119, qt_120, ql_120, qt_121, ql_121, qt_122, ql_122, qt_123, ql_123, qt_124, ql_124, qt_125, ql_125, qt_126, ql_126, qt_127, ql_127, qt_129, ql_129, qt_130, ql_130, qt_131, ql_131, qt_132, ql_132, qt_133, ql_133, qt_134, ql_134, qt_135, ql_135, qt_137, ql_137, qt_138, ql_138, qt_139, ql_139, qt_140, ql_140, qt_141, ql_141, qt_142, ql_142, qt_143, ql_143, qt_144, ql_144, qt_145, ql_145, qt_146, ql_146, qt_147, ql_147, qt_148, ql_148, qt_149, ql_149, qt_150, ql_150, qt_151, ql_151, qt_152, ql_152, qt_153, ql_153, qt_154, ql_154, qt_155, ql_155, qt_156, ql_156, qt_157, ql_157, qt_158, ql_158, qt_159, ql_159, qt_160, ql_160, qt_161, ql_161, qt_162, ql_162, qt_163, ql_163, qt_164, ql_164, qt_165, ql_165, qt_166, ql_166, qt_167, ql_167, qt_168, ql_168, qt_169, ql_169, qt_170, ql_170, qt_171, ql_171, qt_172, ql_172, qt_173, ql_173, qt_174, ql_174, qt_175, ql_175, qt_176, ql_176, qt_177, ql_177, qt_178, ql_178, qt_179, ql_179, qt_180, ql_180, qt_181, ql_181, qt_182, ql_182, qt_183, ql_183, qt_184, ql_184, qt_185, ql_185, qt_186, ql_186, qt_187, ql_187, qt_188, ql_188, true_implies, false_implies, not_true_eq_false, not_false_eq_true, true_and, and_true, implies_true, or_true, true_or, or_false, false_or, Int.reduceEq, Int.one_ne_zero, Nat.reduceEqDiff, e15, v0, v1]
      exact ⟨by unfold q_R; omega, fin _ (by rw [if_pos g3])⟩
    · simp only [k1_43, k1_44, k1_47, k1_50, k1_51, k1_52, qt_1, ql_1, qt_2, ql_2, qt_3, ql_3, qt_6, ql_6, qt_7, ql_7, qt_8, ql_8, qt_10, ql_10, qt_11, ql_11, qt_12, ql_12, qt_13, ql_13, qt_14, ql_14, qt_15, ql_15, qt_16, ql_16, qt_17, ql_17, qt_18, ql_18, qt_19, ql_19, qt_20, ql_20, qt_21, ql_21, qt_22, ql_22, qt_23, ql_23, qt_24, ql_24, qt_25, ql_25, qt_26, ql_26, qt_28, ql_28, qt_29, ql_29, qt_30, ql_30, qt_31, ql_31, qt_32, ql_32, qt_33, ql_33, qt_34, ql_34, qt_35, ql_35, qt_36, ql_36, qt_37, ql_37, qt_38, ql_38, qt_40, ql_40, qt_41, ql_41, qt_42, ql_42, qt_43, ql_43, qt_44, ql_44, qt_45, ql_45, qt_46, ql_46, qt_47, ql_47, qt_48, ql_48, qt_49, ql_49, qt_50, ql_50, qt_51, ql_51, qt_52, ql_52, qt_53, ql_53, qt_54, ql_54, qt_56, ql_56, qt_57, ql_57, qt_58, ql_58, qt_59, ql_59, qt_60, ql_60, qt_61, ql_61, qt_62, ql_62, qt_63, ql_63, qt_64, ql_64, qt_65, ql_65, qt_67, ql_67, qt_68, ql_68, qt_69, ql_69, qt_70, ql_70, qt_71, ql_71, qt_73, ql_73, qt_74, ql_74, qt_75, ql_75, qt_76, ql_76, qt_78, ql_78, qt_79, ql_79, qt_80, ql_80, qt_81, ql_81, qt_82, ql_82, qt_83, ql_83, qt_84, ql_84, qt_85, ql_85, qt_86, ql_86, qt_87, ql_87, qt_89, ql_89, qt_90, ql_90, qt_91, ql_91, qt_92, ql_92, qt_93, ql_93, qt_94, ql_94, qt_95, ql_95, qt_96, ql_96, qt_97, ql_97, qt_98, ql_98, qt_99, ql_99, qt_100, ql_100, qt_101, ql_101, qt_102, ql_102, qt_103, ql_103, qt_105, ql_105, qt_106, ql_106, qt_107, ql_107, qt_108, ql_108, qt_109, ql_109, qt_110, ql_110, qt_111, ql_111, qt_113, ql_113, qt_114, ql_114, qt_115, ql_115, qt_116, ql_116, qt_117, ql_117, qt_118, ql_118, qt_119, ql_119, qt_120, ql_120, qt_121, ql_121, qt_122, ql_122, qt_123, ql_123, qt_124, ql_124, qt_125, ql_125, qt_126, ql_126, qt_127, ql_127, qt_129, ql_129, qt_130, ql_130, qt_131, ql_131, qt_132, ql_132, qt_133, ql_133, qt_134, ql_134, qt_135, ql_135, qt_137, ql_137, qt_138, ql_138, qt_139, ql_139, qt_140, ql_140, qt_141, ql_141, qt_142, ql_142, qt_143, ql_143, qt_144, ql_144, qt_145, ql_145, qt_146, ql_146, qt_147, ql_147, qt_148, ql_148, qt_149, ql_149, qt_150, ql_150, qt_151, ql_151, qt_152, ql_152, qt_153, ql_153, qt_154, ql_154, qt_155, ql_155, qt_156, ql_156, qt_157, ql_157, qt_158, ql_158, qt_159, ql_159, qt_160, ql_160, qt_161, ql_161, qt_162, ql_162, qt_163, ql_163, qt_164, ql_164, qt_165, ql_165, qt_166, ql_166, qt_167, ql_167, qt_168, ql_168, qt_169, ql_169, qt_170, ql_170, qt_171, ql_171, qt_172, ql_172, qt_173, ql_173, qt_174, ql_174, qt_175, ql_175, qt_176, ql_176, qt_177, ql_177, qt_178, ql_178, qt_179, ql_179, qt_180, ql_180, qt_181, ql_181, qt_182, ql_182, qt_183, ql_183, qt_184, ql_184, qt_185, ql_185, qt_186, ql_186, qt_187, ql_187, qt_188, ql_188, true_implies, false_implies, not_true_eq_false, not_false_eq_true, true_and, and_true, implies_true, or_true, true_or, or_false, false_or, Int.reduceEq, Int.one_ne_zero, Nat.reduceEqDiff, e15, v0, v1]
      exact fin _ (by rw [if_neg g3])
/-- fromTerm -/
theorem n2 (hc : q_C c) (h : CV c C r G V pl) (ha : ROW a) (hv : v < V) (hX : ∀ w : Nat, w < V → r a w = enC (X w)) (hX2 : XOK V X) (hm : ¬ v_meet (gV G v)) (hb : 0 ≤ b ∧ b ≤ 3) (hp : ¬ b = 3 → ¬ pl b = -1) (kk : Q (.inl (some (vi (enC (l_tm X (e_tm (q_of pl) b (e_tt b (gV G v)))))))) bb (NS c C r)) : qx sc (D + 1) 2 0 [vr 55, vr a, vi b, vi v, vn, vn, vn] [] (0, 0) bb (NS c C r) Q := by
  obtain ⟨t1, t2, t3, t4, -⟩ := ha
  obtain ⟨-, ru, rd⟩ := CV_raw h hv
  have h240 := h.2.2.1
  have v0 : (0 : Int) ≤ (v : Int) := by omega
  have v1 : (v : Int) < 240 := by omega
  have tk := TOK_tt (b := b) (WV_n (h.1 v (by omega) (by omega)).2 hm).2.2
  have e55 : NS c C r 55 1 = c := by rw [NS_lo hc (by decide) (by decide)]; exact h.2.2.2.2
  -- behind the three looks
  have fin : ∀ (l4 : V2) (n s : Int) (k : Int), (k, n, s) = e_tt b (gV G v) → qx sc (D + 1) 2 52 [vr 55, vr a, vi b, vi v, l4, vi n, vi s] [vi k] (0, 0) bb (NS c C r) Q := by
    intro l4 n s k he
    rw [← he] at kk tk
    obtain ⟨tk0, tk⟩ := tk
    dsimp only at tk tk0
    unfold e_tm at kk
    dsimp only at kk
    rw [k2_52]
    rcases tk with g | ⟨g, g1, g2⟩ | ⟨g, g1, g2, g3⟩ | ⟨g, g1, g2⟩
    · subst g
      rw [if_pos (by decide)]
      simp only [k2_132, k2_134]
      rw [if_neg (by decide), if_neg (by decide), if_neg (by decide)] at kk
      exact kk
    · subst g
      rw [if_neg (by decide)]
      rw [if_pos rfl] at kk
      show qx sc (D + 1) 2 80 _ _ _ _ _ _
      simp only [k2_80, k2_82, k2_83, k2_84]
      refine ⟨fun q3 => ?_, fun q3 => ?_⟩
      · rw [if_pos q3] at kk
        simp only [k2_87, k2_89, k2_90, k2_105, k2_106]
        exact ⟨by unfold q_R; omega, by unfold q_R; omega, kk⟩
      · have ep := h.2.2.2.1 b (by omega)
        have hnp := hp q3
        rw [if_neg q3] at kk
        rw [q_of_t hnp] at kk
        simp only [k2_93, k2_95, k2_96, e55, c_nn, Int.toNat_natCast, k2_99 hc, k2_102, k2_103, k2_104, k2_105, k2_106, true_implies, false_implies, not_true_eq_false, not_false_eq_true, true_and, and_true, implies_true, or_true, true_or, or_false, false_or, Int.reduceEq, Int.one_ne_zero, Nat.reduceEqDiff, qtc_1 hc, qlc_1 hc, NS_g (j := 1) hc (by decide), ep.1]
        exact ⟨⟨hb.1, by omega⟩, by unfold q_R; omega, by unfold q_R; omega, kk⟩
    · subst g
      rw [if_neg (by decide)]
      rw [if_neg (by decide), if_pos rfl] at kk
      show qx sc (D + 1) 2 107 _ _ _ _ _ _
      simp only [k2_107, k2_108, k2_109, k2_110, k2_112]
      refine n3 hc h hb ⟨g1, g2⟩ g3 ?_
      simp only [q_kn_v, k2_115, k2_117]
      have hq := CV_q h n g1 g2
      refine n5 ?_ ?_
      · split
        · unfold q_R; omega
        · split <;> (unfold q_R; omega)
      · simp only [q_kn_v, k2_120]
        unfold mvd
        split
        · rename_i q3
          rw [if_pos q3] at kk
          rw [if_neg (by omega)]
          exact kk
        · rename_i q3
          rw [if_neg q3] at kk
          split
          · rename_i q4
            rw [if_pos q4] at kk
            rw [if_neg (by decide)]
            exact kk
          · rename_i q4
            rw [if_neg q4] at kk
            rw [if_pos rfl]
            exact kk
    · subst g
      rw [if_neg (by decide)]
      rw [if_neg (by decide), if_neg (by decide), if_pos rfl] at kk
      show qx sc (D + 1) 2 121 _ _ _ _ _ _
      have ex : NS c C r a n = enC (X n.toNat) := by
        rw [NS_lo hc t3 t4, ← hX _ (by omega), Int.toNat_of_nonneg g1]
      have hx2 := hX2 n.toNat (by omega)
      simp only [k2_121, k2_122, k2_123, k2_125, k2_126, k2_128, t1, t2, ex, true_implies, false_implies, not_true_eq_false, not_false_eq_true, true_and, and_true, implies_true, or_true, true_or, or_false, false_or, Int.reduceEq, Int.one_ne_zero, Nat.reduceEqDiff]
      refine ⟨⟨g1, by omega⟩, n5 ?_ ?_⟩
      · generalize X n.toNat = o at *
        cases o with
        | none => show q_R (99999 + s); unfold q_R; omega
        | some z => have := hx2 z rfl; show q_R (z + s); unfold q_R; omega
      · simp only [q_kn_v, k2_131]
        rw [enC_add (fun z hz => (hx2 z hz).2)]
        exact kk
  have e19 : NS c C r 19 v = r 19 v := NS_lo hc (by decide) (by decide)
  have e22 : NS c C r 22 v = r 22 v := NS_lo hc (by decide) (by decide)
  have e25 : NS c C r 25 v = r 25 v := NS_lo hc (by decide) (by decide)
  have e20 : NS c C r 20 v = r 20 v := NS_lo hc (by decide) (by decide)
  have e23 : NS c C r 23 v = r 23 v := NS_lo hc (by decide) (by decide)
  have e26 : NS c C r 26 v = r 26 v := NS_lo hc (by decide) (by decide)
  have z0 : (0 : Int).toNat = 0 := rfl
  have z1 : (1 : Int).toNat = 1 := rfl
  simp only [k2_0, k2_1, k2_2]
  refine ⟨fun g3 => ?_, fun g3 => ?_⟩
  · simp only [k2_5, k2_6, k2_9, k2_10, k2_12, k2_13, k2_16, k2_19, k2_21, k2_22, k2_23, k2_24, k2_26, k2_27, k2_30, k2_33, k2_35, k2_36, k2_37, k2_38, k2_40, k2_41, k2_44, k2_47, k2_49, k2_50, k2_51, z1, Nat.reduceAdd, qt_1, ql_1, qt_2, ql_2, qt_3, ql_3, qt_6, ql_6, qt_7, ql_7, qt_8, ql_8, qt_10, ql_10, qt_11, ql_11, qt_12, ql_12, qt_13, ql_13, qt_14, ql_14, qt_15, ql_15, qt_16, ql_16, qt_17, ql_17, qt_18, ql_18, qt_19, ql_19, qt_20, ql_20, qt_21, ql_21, qt_22, ql_22, qt_23, ql_23, qt_24, ql_24, qt_25, ql_25, qt_26, ql_26, qt_28, ql_28, qt_29, ql_29, qt_30, ql_30, qt_31, ql_31, qt_32, ql_32, qt_33, ql_33, qt_34, ql_34, qt_35, ql_35, qt_36, ql_36, qt_37, ql_37, qt_38, ql_38, qt_40, ql_40, qt_41, ql_41, qt_42, ql_42, qt_43, ql_43, qt_44, ql_44, qt_45, ql_45, qt_46, ql_46, qt_47, ql_47, qt_48, ql_48, qt_49, ql_49, qt_50, ql_50, qt_51, ql_51, qt_52, ql_52, qt_53, ql_53, qt_54, ql_54, qt_56, ql_56, qt_57, ql_57, qt_58, ql_58, qt_59, ql_59, qt_60, ql_60, qt_61, ql_61, qt_62, ql_62, qt_63, ql_63, qt_64, ql_64, qt_65, ql_65, qt_67, ql_67, qt_68, ql_68, qt_69, ql_69, qt_70, ql_70, qt_71, ql_71, qt_73, ql_73, qt_74, ql_74, qt_75, ql_75, qt_76, ql_76, qt_78, ql_78, qt_79, ql_79, qt_80, ql_80, qt_81, ql_81, qt_82, ql_82, qt_83, ql_83, qt_84, ql_84, qt_85, ql_85, qt_86, ql_86, qt_87, ql_87, qt_89, ql_89, qt_90, ql_90, qt_91, ql_91, qt_92, ql_92, qt_93, ql_93, qt_94, ql_94, qt_95, ql_95, qt_96, ql_96, qt_97, ql_97, qt_98, ql_98, qt_99, ql_99, qt_100, ql_100, qt_101, ql_101, qt_102, ql_102, qt_103, ql_103, qt_105, ql_105, qt_106, ql_106, qt_107, ql_107, qt_108, ql_108, qt_109, ql_109, qt_110, ql_110, qt_111, ql_111, qt_113, ql_113, qt_114, ql_114, qt_115, ql_115, qt_116, ql_116, qt_117, ql_117, qt_118, ql_118, qt_119, ql_119, qt_120, ql_120, qt_121, ql_121, qt_122, ql_122, qt_123, ql_123, qt_124, ql_124, qt_125, ql_125, qt_126, ql_126, qt_127, ql_127, qt_129, ql_129, qt_130, ql_130, qt_131, ql_131, qt_132, ql_132, qt_133, ql_133, qt_134, ql_134, qt_135, ql_135, qt_137, ql_137, qt_138, ql_138, qt_139, ql_139, qt_140, ql_140, qt_141, ql_141, qt_142, ql_142, qt_143, ql_143, qt_144, ql_144, qt_145, ql_145, qt_146, ql_146, qt_147, ql_147, qt_148, ql_148, qt_149, ql_149, qt_150, ql_150, qt_151, ql_151, qt_152, ql_152, qt_153, ql_153, qt_154, ql_154, qt_155, ql_155, qt_156, ql_156, qt_157, ql_157, qt_158, ql_158, qt_159, ql_159, qt_160, ql_160, qt_161, ql_161, qt_162, ql_162, qt_163, ql_163, qt_164, ql_164, qt_165, ql_165, qt_166, ql_166, qt_167, ql_167, qt_168, ql_168, qt_169, ql_169, qt_170, ql_170, qt_171, ql_171, qt_172, ql_172, qt_173, ql_173, qt_174, ql_174, qt_175, ql_175, qt_176, ql_176, qt_177, ql_177, qt_178, ql_178, qt_179, ql_179, qt_180, ql_180, qt_181, ql_181, qt_182, ql_182, qt_183, ql_183, qt_184, ql_184, qt_185, ql_185, qt_186, ql_186, qt_187, ql_187, qt_188, ql_188, true_implies, false_implies, not_true_eq_false, not_false_eq_true, true_and, and_true, implies_true, or_true, true_or, or_false, false_or, Int.reduceEq, Int.one_ne_zero, Nat.reduceEqDiff, v0, v1, e20, e23, e26, Int.reduceLE, Int.reduceLT]
    exact fin _ _ _ _ (by unfold e_tt; rw [if_pos g3]; exact rd)
  · simp only [k2_9, k2_10, k2_12, k2_13, k2_16, k2_19, k2_21, k2_22, k2_23, k2_24, k2_26, k2_27, k2_30, k2_33, k2_35, k2_36, k2_37, k2_38, k2_40, k2_41, k2_44, k2_47, k2_49, k2_50, k2_51, z0, Nat.reduceAdd, qt_1, ql_1, qt_2, ql_2, qt_3, ql_3, qt_6, ql_6, qt_7, ql_7, qt_8, ql_8, qt_10, ql_10, qt_11, ql_11, qt_12, ql_12, qt_13, ql_13, qt_14, ql_14, qt_15, ql_15, qt_16, ql_16, qt_17, ql_17, qt_18, ql_18, qt_19, ql_19, qt_20, ql_20, qt_21, ql_21, qt_22, ql_22, qt_23, ql_23, qt_24, ql_24, qt_25, ql_25, qt_26, ql_26, qt_28, ql_28, qt_29, ql_29, qt_30, ql_30, qt_31, ql_31, qt_32, ql_32, qt_33, ql_33, qt_34, ql_34, qt_35, ql_35, qt_36, ql_36, qt_37, ql_37, qt_38, ql_38, qt_40, ql_40, qt_41, ql_41, qt_42, ql_42, qt_43, ql_43, qt_44, ql_44, qt_45, ql_45, qt_46, ql_46, qt_47, ql_47, qt_48, ql_48, qt_49, ql_49, qt_50, ql_50, qt_51, ql_51, qt_52, ql_52, qt_53, ql_53, qt_54, ql_54, qt_56, ql_56, qt_57, ql_57, qt_58, ql_58, qt_59, ql_59, qt_60, ql_60, qt_61, ql_61, qt_62, ql_62, qt_63, ql_63, qt_64, ql_64, qt_65, ql_65, qt_67, ql_67, qt_68, ql_68, qt_69, ql_69, qt_70, ql_70, qt_71, ql_71, qt_73, ql_73, qt_74, ql_74, qt_75, ql_75, qt_76, ql_76, qt_78, ql_78, qt_79, ql_79, qt_80, ql_80, qt_81, ql_81, qt_82, ql_82, qt_83, ql_83, qt_84, ql_84, qt_85, ql_85, qt_86, ql_86, qt_87, ql_87, qt_89, ql_89, qt_90, ql_90, qt_91, ql_91, qt_92, ql_92, qt_93, ql_93, qt_94, ql_94, qt_95, ql_95, qt_96, ql_96, qt_97, ql_97, qt_98, ql_98, qt_99, ql_99, qt_100, ql_100, qt_101, ql_101, qt_102, ql_102, qt_103, ql_103, qt_105, ql_105, qt_106, ql_106, qt_107, ql_107, qt_108, ql_108, qt_109, ql_109, qt_110, ql_110, qt_111, ql_111, qt_113, ql_113, qt_114, ql_114, qt_115, ql_115, qt_116, ql_116, qt_117, ql_117, qt_118, ql_118, qt_119, ql_119, qt_120, ql_120, qt_121, ql_121, qt_122, ql_122, qt_123, ql_123, qt_124, ql_124, qt_125, ql_125, qt_126, ql_126, qt_127, ql_127, qt_129, ql_129, qt_130, ql_130, qt_131, ql_131, qt_132, ql_132, qt_133, ql_133, qt_134, ql_134, qt_135, ql_135, qt_137, ql_137, qt_138, ql_138, qt_139, ql_139, qt_140, ql_140, qt_141, ql_141, qt_142, ql_142, qt_143, ql_143, qt_144, ql_144, qt_145, ql_145, qt_146, ql_146, qt_147, ql_147, qt_148, ql_148, qt_149, ql_149, qt_150, ql_150, qt_151, ql_151, qt_152, ql_152, qt_153, ql_153, qt_154, ql_154, qt_155, ql_155, qt_156, ql_156, qt_157, ql_157, qt_158, ql_158, qt_159, ql_159, qt_160, ql_160, qt_161, ql_161, qt_162, ql_162, qt_163, ql_163, qt_164, ql_164, qt_165, ql_165, qt_166, ql_166, qt_167, ql_167, qt_168, ql_168, qt_169, ql_169, qt_170, ql_170, qt_171, ql_171, qt_172, ql_172, qt_173, ql_173, qt_174, ql_174, qt_175, ql_175, qt_176, ql_176, qt_177, ql_177, qt_178, ql_178, qt_179, ql_179, qt_180, ql_180, qt_181, ql_181, qt_182, ql_182, qt_183, ql_183, qt_184, ql_184, qt_185, ql_185, qt_186, ql_186, qt_187, ql_187, qt_188, ql_188, true_implies, false_implies, not_true_eq_false, not_false_eq_true, true_and, and_true, implies_true, or_true, true_or, or_false, false_or, Int.reduceEq, Int.one_ne_zero, Nat.reduceEqDiff, v0, v1, e19, e22, e25, Int.reduceLE, Int.reduceLT]
    exact fin _ _ _ _ (by unfold e_tt; rw [if_neg g3]; exact ru)
/-- worth -/
theorem n8 (hc : q_C c) (h : CV c C r G V pl) (ha : ROW a) (hv : v < V) (hX : ∀ w : Nat, w < V → r a w = enC (X w)) (hX2 : XOK V X) (hb : 0 ≤ b ∧ b ≤ 3) (hp : ¬ b = 3 → ¬ pl b = -1) (kk : Q (.inl (some (vi (enC (l_F (E_G G (q_of pl) b wo) X v))))) bb (NS c C r)) : qx sc (D + 2) 8 0 [vr 55, vr a, vi b, vi v, vi wo, vn] [] (0, 0) bb (NS c C r) Q := by
  have ha' := ha
  obtain ⟨t1, t2, t3, t4, -⟩ := ha'
  have h240 := h.2.2.1
  have v0 : (0 : Int) ≤ (v : Int) := by omega
  have v1 : (v : Int) < 240 := by omega
  obtain ⟨⟨-, r13, r14, -⟩, -⟩ := CV_raw h hv
  have e13 : NS c C r 13 v = (gV G v).1.2.2.2.1 := by rw [NS_lo hc (by decide) (by decide)]; exact r13
  have e14 : NS c C r 14 v = (gV G v).1.2.2.2.2 := by rw [NS_lo hc (by decide) (by decide)]; exact r14
  simp only [k8_0, k8_1, k8_4, k8_5]
  refine n90 hc h hv (fun hm => ?_) (fun hm => ?_)
  · obtain ⟨m1, m2, -⟩ := WV_m (h.1 v (by omega) (by omega)).2 hm
    have eF : l_F (E_G G (q_of pl) b wo) X v = l_max (X (gV G v).1.2.2.2.1.toNat) (X (gV G v).1.2.2.2.2.toNat) := by
      unfold l_F E_G
      rw [if_pos hm]
    rw [eF] at kk
    have ex1 : NS c C r a (gV G v).1.2.2.2.1 = enC (X (gV G v).1.2.2.2.1.toNat) := by
      rw [NS_lo hc t3 t4, ← hX _ (by omega), Int.toNat_of_nonneg m1.1]
    have ex2 : NS c C r a (gV G v).1.2.2.2.2 = enC (X (gV G v).1.2.2.2.2.toNat) := by
      rw [NS_lo hc t3 t4, ← hX _ (by omega), Int.toNat_of_nonneg m2.1]
    rw [← enC_max (fun z hz => (hX2 _ (by omega) z hz).2) (fun z hz => (hX2 _ (by omega) z hz).2)] at kk
    simp only [q_kn_v, k8_8, k8_11, k8_12, k8_13, k8_16, k8_19, k8_20, k8_21, k8_22, k8_23, k8_24, k8_27, k8_30, k8_31, k8_32, k8_33, k8_36, qt_1, ql_1, qt_2, ql_2, qt_3, ql_3, qt_6, ql_6, qt_7, ql_7, qt_8, ql_8, qt_10, ql_10, qt_11, ql_11, qt_12, ql_12, qt_13, ql_13, qt_14, ql_14, qt_15, ql_15, qt_16, ql_16, qt_17, ql_17, qt_18, ql_18, qt_19, ql_19, qt_20, ql_20, qt_21, ql_21, qt_22, ql_22, qt_23, ql_23, qt_24, ql_24, qt_25, ql_25, qt_26, ql_26, qt_28, ql_28, qt_29, ql_29, qt_30, ql_30, qt_31, ql_31, qt_32, ql_32, qt_33, ql_33, qt_34, ql_34, qt_35, ql_35, qt_36, ql_36, qt_37, ql_37, qt_38, ql_38, qt_40, ql_40, qt_41, ql_41, qt_42, ql_42, qt_43, ql_43, qt_44, ql_44, qt_45, ql_45, qt_46, ql_46, qt_47, ql_47, qt_48, ql_48, qt_49, ql_49, qt_50, ql_50, qt_51, ql_51, qt_52, ql_52, qt_53, ql_53, qt_54, ql_54, qt_56, ql_56, qt_57, ql_57, qt_58, ql_58, qt_59, ql_59, qt_60, ql_60, qt_61, ql_61, qt_62, ql_62, qt_63, ql_63, qt_64, ql_64, qt_65, ql_65, qt_67, ql_67, qt_68, ql_68, qt_69, ql_69, qt_70, ql_70, qt_71, ql_71, qt_73, ql_73, qt_74, ql_74, qt_75, ql_75, qt_76, ql_76, qt_78, ql_78, qt_79, ql_79, qt_80, ql_80, qt_81, ql_81, qt_82, ql_82, qt_83, ql_83, qt_84, ql_84, qt_85, ql_85, qt_86, ql_86, qt_87, ql_87, qt_89, ql_89, qt_90, ql_90, qt_91, ql_91, qt_92, ql_92, qt_93, ql_93, qt_94, ql_94, qt_95, ql_95, qt_96, ql_96, qt_97, ql_97, qt_98, ql_98, qt_99, ql_99, qt_100, ql_100, qt_101, ql_101, qt_102, ql_102, qt_103, ql_103, qt_105, ql_105, qt_106, ql_106, qt_107, ql_107, qt_108, ql_108, qt_109, ql_109, qt_110, ql_110, qt_111, ql_111, qt_113, ql_113, qt_114, ql_114, qt_115, ql_115, qt_116, ql_116, qt_117, ql_117, qt_118, ql_118, qt_119, ql_119, qt_120, ql_120, qt_121, ql_121, qt_122, ql_122, qt_123, ql_123, qt_124, ql_124, qt_125, ql_125, qt_126, ql_126, qt_127, ql_127, qt_129, ql_129, qt_130, ql_130, qt_131, ql_131, qt_132, ql_132, qt_133, ql_133, qt_134, ql_134, qt_135, ql_135, qt_137, ql_137, qt_138, ql_138, qt_139, ql_139, qt_140, ql_140, qt_141, ql_141, qt_142, ql_142, qt_143, ql_143, qt_144, ql_144, qt_145, ql_145, qt_146, ql_146, qt_147, ql_147, qt_148, ql_148, qt_149, ql_149, qt_150, ql_150, qt_151, ql_151, qt_152, ql_152, qt_153, ql_153, qt_154, ql_154, qt_155, ql_155, qt_156, ql_156, qt_157, ql_157, qt_158, ql_158, qt_159, ql_159, qt_160, ql_160, qt_161, ql_161, qt_162, ql_162, qt_163, ql_163, qt_164, ql_164, qt_165, ql_165, qt_166, ql_166, qt_167, ql_167, qt_168, ql_168, qt_169, ql_169, qt_170, ql_170, qt_171, ql_171, qt_172, ql_172, qt_173, ql_173, qt_174, ql_174, qt_175, ql_175, qt_176, ql_176, qt_177, ql_177, qt_178, ql_178, qt_179, ql_179, qt_180, ql_180, qt_181, ql_181, qt_182, ql_182, qt_183, ql_183, qt_184, ql_184, qt_185, ql_185, qt_186, ql_186, qt_187, ql_187, qt_188, ql_188, true_implies, false_implies, not_true_eq_false, not_false_eq_true, true_and, and_true, implies_true, or_true, true_or, or_false, false_or, Int.reduceEq, Int.one_ne_zero, Nat.reduceEqDiff, v0, v1, e13, e14, ex1, ex2, t1, t2]
    exact ⟨⟨m1.1, by omega⟩, ⟨m2.1, by omega⟩, kk⟩
  · have eF : l_F (E_G G (q_of pl) b wo) X v = l_min (l_fr X (e_fr b (gV G v))) (l_tm X (if (v : Int) = wo then .inl none else e_tm (q_of pl) b (e_tt b (gV G v)))) := by
      unfold l_F E_G
      rw [if_neg hm]
    rw [eF] at kk
    simp only [q_kn_v, k8_8, k8_37, k8_38, k8_39, k8_40, k8_41, true_implies, false_implies, not_true_eq_false, not_false_eq_true, true_and, and_true, implies_true, or_true, true_or, or_false, false_or, Int.reduceEq, Int.one_ne_zero, Nat.reduceEqDiff]
    refine n1 hc h ha hv hX hX2 hm ?_
    simp only [q_kn_v, k8_44, k8_46, k8_47, k8_49]
    obtain ⟨f1, f2, f3⟩ := WV_n (h.1 v (by omega) (by omega)).2 hm
    have bf : ∀ z, l_fr X (e_fr b (gV G v)) = some z → z ≤ 99000 := by
      intro z hz
      unfold e_fr at hz
      split at hz
      · cases hz
      · unfold l_fr at hz
        dsimp only at hz
        have hx := hX2 (gV G v).1.2.2.2.1.toNat (by omega)
        generalize X (gV G v).1.2.2.2.1.toNat = o at *
        cases o with
        | none => cases hz
        | some y =>
          have := hx y rfl
          cases hz
          split <;> omega
    refine ⟨fun g => ?_, fun g => ?_⟩
    · rw [if_pos g] at kk
      simp only [k8_52, k8_54, k8_69]
      have e : l_min (l_fr X (e_fr b (gV G v))) (l_tm X (.inl none)) = l_fr X (e_fr b (gV G v)) := by
        cases l_fr X (e_fr b (gV G v)) <;> rfl
      rw [e] at kk
      exact kk
    · rw [if_neg g] at kk
      simp only [k8_57, k8_59, k8_60, k8_61, k8_62, k8_63]
      refine n2 hc h ha hv hX hX2 hm hb hp ?_
      simp only [q_kn_v, k8_66, k8_69]
      have bt : ∀ z, l_tm X (e_tm (q_of pl) b (e_tt b (gV G v))) = some z → z ≤ 99000 := by
        intro z hz
        obtain ⟨tk0, tk⟩ := TOK_tt (b := b) f3
        generalize e_tt b (gV G v) = τ at *
        unfold e_tm at hz
        split at hz
        · unfold l_tm at hz
          dsimp only at hz
          cases hz
          split
          · omega
          · have := CV_q h b (by omega) (by omega)
            omega
        · split at hz
          · unfold l_tm at hz
            dsimp only at hz
            have := CV_q h τ.2.1 (by omega) (by omega)
            split at hz
            · cases hz; omega
            · split at hz
              · cases hz; omega
              · cases hz
          · split at hz
            · unfold l_tm at hz
              dsimp only at hz
              have hx := hX2 τ.2.1.toNat (by omega)
              generalize X τ.2.1.toNat = o at *
              cases o with
              | none => cases hz
              | some y =>
                have := hx y rfl
                cases hz
                omega
            · cases hz
      rw [enC_min bf bt]
      exact kk
end BND
