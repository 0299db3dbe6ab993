/-! chains -/
theorem l_le_anti {a b : Option Int} (h1 : l_le a b) (h2 : l_le b a) : a = b := by
  cases a with
  | none => cases b with
    | none => rfl
    | some y => obtain ⟨x, hx, -⟩ := h1 y rfl; cases hx
  | some x => cases b with
    | none => obtain ⟨y, hy, -⟩ := h2 x rfl; cases hy
    | some y =>
      obtain ⟨x', hx, h3⟩ := h1 y rfl
      obtain ⟨y', hy, h4⟩ := h2 x rfl
      cases hx
      cases hy
      have : x = y := by omega
      rw [this]
theorem l_L_fix {E : LE} {V : Nat} (hW : l_W E V) : ∀ v, v < V → l_L E V v = l_F E (l_L E V) v := by
  obtain ⟨hp, hl⟩ := l_L_ok hW
  have h2 : l_pre E V (l_F E (l_L E V)) := fun v hv => l_F_mono hW hp hv
  intro v hv
  exact l_le_anti (hl _ h2 v hv) (hp v hv)
theorem l_F_m {G : GT} {q : Int → Int} {b wo : Int} {X : Nat → Option Int} {v : Nat} (hm : v_meet (gV G v)) : l_F (E_G G q b wo) X v = l_max (X (gV G v).1.2.2.2.1.toNat) (X (gV G v).1.2.2.2.2.toNat) := by
  unfold l_F E_G
  rw [if_pos hm]
theorem l_F_n {G : GT} {q : Int → Int} {b wo : Int} {X : Nat → Option Int} {v : Nat} (hm : ¬ v_meet (gV G v)) : l_F (E_G G q b wo) X v = l_min (l_fr X (e_fr b (gV G v))) (l_tm X (if (v : Int) = wo then .inl none else e_tm q b (e_tt b (gV G v)))) := by
  unfold l_F E_G
  rw [if_neg hm]
/-- where a version's number comes from -/
noncomputable def nxr (G : GT) (pl : Int → Int) (V : Nat) (b v : Int) : Int :=
  if v_meet (gV G v) then (if l_L (E_G G (q_of pl) b (-1)) V (gV G v).1.2.2.2.1.toNat = l_L (E_G G (q_of pl) b (-1)) V v.toNat then (gV G v).1.2.2.2.1 else (gV G v).1.2.2.2.2)
  else if ¬ (gV G v).1.2.2.2.1 = -1 ∧ l_fr (l_L (E_G G (q_of pl) b (-1)) V) (e_fr b (gV G v)) = l_L (E_G G (q_of pl) b (-1)) V v.toNat then (gV G v).1.2.2.2.1
  else if (e_tt b (gV G v)).1 = 3 then (e_tt b (gV G v)).2.1 else if (e_tt b (gV G v)).1 = 2 then 1000 else 1001
section CHN
variable {sc : Nat × (Nat → Int32)} {D : Nat} {bb : Bool} {Q : QP} {c V S K Ln Cn v : Nat} {C r σ : St} {G : GT} {pl : Int → Int} {b wo k i x y : Int}
/-- what it comes from is known too -/
theorem nxr_ok (hp : PRO G pl V S K Ln) (hb : 0 ≤ b ∧ b ≤ 3) (hv : v < V) {a : Int} (ha : l_L (E_G G (q_of pl) b (-1)) V v = some a) : (nxr G pl V b v = 1000 ∨ nxr G pl V b v = 1001) ∨ (0 ≤ nxr G pl V b v ∧ nxr G pl V b v < V ∧ ∃ a', l_L (E_G G (q_of pl) b (-1)) V (nxr G pl V b v).toNat = some a') := by
  have hW := hp.1
  have hl := E_G_W (b := b) (wo := -1) hW (PRO_q hp) hb
  have hfx := l_L_fix hl v hv
  have hw := hW v (by omega) (by omega)
  unfold nxr
  rw [Int.toNat_natCast]
  rw [ha] at hfx ⊢
  by_cases hm : v_meet (gV G v)
  · rw [l_F_m hm] at hfx
    rw [if_pos hm]
    generalize l_L (E_G G (q_of pl) b (-1)) V = X at *
    obtain ⟨m1, m2, -⟩ := WV_m hw hm
    cases h1 : X (gV G v).1.2.2.2.1.toNat with
    | none => rw [h1] at hfx; cases hfx
    | some y1 =>
      cases h2 : X (gV G v).1.2.2.2.2.toNat with
      | none => rw [h1, h2] at hfx; cases hfx
      | some y2 =>
        right
        split
        · exact ⟨m1.1, by omega, y1, h1⟩
        · exact ⟨m2.1, by omega, y2, h2⟩
  · rw [l_F_n hm, if_neg (by omega)] at hfx
    rw [if_neg hm]
    generalize l_L (E_G G (q_of pl) b (-1)) V = X at *
    obtain ⟨f1, f2, f3⟩ := WV_n hw hm
    split
    · rename_i h
      obtain ⟨h1, h2⟩ := h
      right
      refine ⟨by omega, by omega, ?_⟩
      unfold e_fr at h2
      rw [if_neg h1] at h2
      unfold l_fr at h2
      dsimp only at h2
      cases h3 : X (gV G v).1.2.2.2.1.toNat with
      | none => rw [h3] at h2; cases h2
      | some y1 => exact ⟨y1, rfl⟩
    · rename_i h
      split
      · rename_i h3
        right
        obtain ⟨tk0, tk⟩ := TOK_tt (b := b) f3
        refine ⟨by omega, by omega, ?_⟩
        have htm : l_tm X (e_tm (q_of pl) b (e_tt b (gV G v))) = X (e_tt b (gV G v)).2.1.toNat ∨ ∃ z, l_tm X (e_tm (q_of pl) b (e_tt b (gV G v))) = l_add (X (e_tt b (gV G v)).2.1.toNat) z := by
          right
          refine ⟨(e_tt b (gV G v)).2.2, ?_⟩
          unfold e_tm
          rw [if_neg (by omega), if_neg (by omega), if_pos h3]
          rfl
        cases h4 : X (e_tt b (gV G v)).2.1.toNat with
        | some y1 => exact ⟨y1, rfl⟩
        | none =>
          exfalso
          have e : l_tm X (e_tm (q_of pl) b (e_tt b (gV G v))) = none := by
            rcases htm with e | ⟨z, e⟩
            · rw [e, h4]
            · rw [e, h4]; rfl
          rw [e, l_min_n'] at hfx
          refine h ⟨?_, hfx.symm⟩
          intro q
          unfold e_fr at hfx
          rw [if_pos q] at hfx
          cases hfx
      · left
        split
        · exact Or.inl rfl
        · exact Or.inr rfl
/-- next, in the class: what was come by is marked -/
theorem n36 (hc : q_C c) (hk : CST c C r G pl V S K Ln) (hb : 0 ≤ b ∧ b ≤ 3) (hbt : ¬ b = 3 → ¬ pl b = -1) (hv : v < V) {a : Int} (ha : l_L (E_G G (q_of pl) b (-1)) V v = some a)
    (kk : Q (.inl (some (vi (if nxr G pl V b v < 1000 ∧ r 67 (nxr G pl V b v) = r 66 5 then 1002 else nxr G pl V b v)))) bb (NS c C r)) : qx sc (D + 2) 36 0 [vr 66, vi b, vi v, vn, vn, vn] [] (0, 0) bb (NS c C r) Q := by
  obtain ⟨hp, hck, hset, -, -, -, -, -, -, -, h55⟩ := hk
  have hnx := nxr_ok hp hb hv ha
  have hW := hp.1
  have hbd := hp.2.1
  have hl := E_G_W (b := b) (wo := -1) hW (PRO_q hp) hb
  have hfx := l_L_fix hl v hv
  have hw := hW v (by omega) (by omega)
  have hCV : CV c C r G V pl := by
    obtain ⟨a1, a2, a3, a4⟩ := CK_CV0 hck hp
    exact ⟨a1, a2, a3, a4, h55⟩
  have v0 : (0 : Int) ≤ (v : Int) := by omega
  have v1 : (v : Int) < 240 := by omega
  obtain ⟨⟨-, r13, r14, -⟩, ru, rd⟩ := CV_raw hCV hv
  have hR := ROW_b (Or.inl rfl) (show b.toNat ≤ 3 by omega)
  obtain ⟨t1, t2, t3, t4, t5⟩ := hR
  have hX : ∀ w : Nat, w < V → r (56 + 1 + b.toNat) w = enC (l_L (E_G G (q_of pl) b (-1)) V w) := by
    intro w hw
    have := hset b.toNat (by omega) (by rw [Int.toNat_of_nonneg hb.1]; omega) w hw
    rw [Int.toNat_of_nonneg hb.1] at this
    exact this
  have eN : ∀ w : Int, NS c C r (56 + 1 + b.toNat) w = r (56 + 1 + b.toNat) w := fun w => NS_lo hc t3 t4
  have hsm : ∀ w : Nat, w < V → ∀ z, l_L (E_G G (q_of pl) b (-1)) V w = some z → -200000 ≤ z ∧ z ≤ 90000 := by
    intro w hw z hz
    obtain ⟨lp, ll⟩ := l_L_ok hl
    have h1 := l_low hl lp w hw z hz
    have h2 := l_dn_100 (q := q_of pl) (b := b) (wo := -1) hW (w + 1) (by omega)
    obtain ⟨s1, s2, s3, s4, s5⟩ := E_G_sums (q := q_of pl) (b := b) (wo := -1) hW V (Nat.le_refl _)
    have hA := hp.2.2.2.1
    have hd := l_dn_100 (q := q_of pl) (b := b) (wo := -1) hW V (Nat.le_refl _)
    have h3 := l_small hl lp ll (B := 99) (fun w' hw' fr cst e => ?_) hw hz
    · omega
    · obtain ⟨-, u1, u2⟩ := WV_a (hW w' (by omega) (by omega))
      unfold E_G at e
      split at e
      · cases e
      · simp only [Sum.inr.injEq, Prod.mk.injEq] at e
        obtain ⟨-, e⟩ := e
        split at e
        · cases e
        · obtain ⟨tk0, tk⟩ := TOK_tt (b := b) ⟨u1, u2⟩
          generalize e_tt b (gV G w') = τ at *
          unfold e_tm at e
          split at e
          · simp only [Sum.inl.injEq, Option.some.injEq] at e
            split at e
            · omega
            · have := PRO_q hp b (by omega) (by omega); omega
          · split at e
            · have := PRO_q hp τ.2.1 (by omega) (by omega)
              split at e
              · simp only [Sum.inl.injEq, Option.some.injEq] at e; omega
              · split at e
                · simp only [Sum.inl.injEq, Option.some.injEq] at e; omega
                · cases e
            · split at e <;> cases e
  -- the end: a version
  have fin : ∀ (y : Int) (l3 l5 : V2), 0 ≤ y → y < V → nxr G pl V b v = y → qx sc (D + 2) 36 154 [vr 66, vi b, vi v, l3, vi y, l5] [] (0, 0) bb (NS c C r) Q := by
    intro y l3 l5 y0 y1 e
    rw [e] at kk
    have y240 : y < 240 := by omega
    have e67 : NS c C r 67 y = r 67 y := NS_lo hc (by decide) (by decide)
    have e66 : NS c C r 66 5 = r 66 5 := NS_lo hc (by decide) (by decide)
    simp only [k36_154, k36_155, k36_158, k36_160, k36_161, k36_162, k36_165, k36_168, k36_171, k36_174, k36_176, qt_1, ql_1, qt_2, ql_2, qt_3, ql_3, qt_6, ql_6, qt_7, ql_7, qt_8, ql_8, qt_10, ql_10, qt_11, ql_11, qt_12, ql_12, qt_13, ql_13, qt_14, ql_14, qt_15, ql_15, qt_16, ql_16, qt_17, ql_17, qt_18, ql_18, qt_19, ql_19, qt_20, ql_20, qt_21, ql_21, qt_22, ql_22, qt_23, ql_23, qt_24, ql_24, qt_25, ql_25, qt_26, ql_26, qt_28, ql_28, qt_29, ql_29, qt_30, ql_30, qt_31, ql_31, qt_32, ql_32, qt_33, ql_33, qt_34, ql_34, qt_35, ql_35, qt_36, ql_36, qt_37, ql_37, qt_38, ql_38, qt_40, ql_40, qt_41, ql_41, qt_42, ql_42, qt_43, ql_43, qt_44, ql_44, qt_45, ql_45, qt_46, ql_46, qt_47, ql_47, qt_48, ql_48, qt_49, ql_49, qt_50, ql_50, qt_51, ql_51, qt_52, ql_52, qt_53, ql_53, qt_54, ql_54, qt_56, ql_56, qt_57, ql_57, qt_58, ql_58, qt_59, ql_59, qt_60, ql_60, qt_61, ql_61, qt_62, ql_62, qt_63, ql_63, qt_64, ql_64, qt_65, ql_65, qt_67, ql_67, qt_68, ql_68, qt_69, ql_69, qt_70, ql_70, qt_71, ql_71, qt_73, ql_73, qt_74, ql_74, qt_75, ql_75, qt_76, ql_76, qt_78, ql_78, qt_79, ql_79, qt_80, ql_80, qt_81, ql_81, qt_82, ql_82, qt_83, ql_83, qt_84, ql_84, qt_85, ql_85, qt_86, ql_86, qt_87, ql_87, qt_89, ql_89, qt_90, ql_90, qt_91, ql_91, qt_92, ql_92, qt_93, ql_93, qt_94, ql_94, qt_95, ql_95, qt_96, ql_96, qt_97, ql_97, qt_98, ql_98, qt_99, ql_99, qt_100, ql_100, qt_101, ql_101, qt_102, ql_102, qt_103, ql_103, qt_105, ql_105, qt_106, ql_106, qt_107, ql_107, qt_108, ql_108, qt_109, ql_109, qt_110, ql_110, qt_111, ql_111, qt_113, ql_113, qt_114, ql_114, qt_115, ql_115, qt_116, ql_116, qt_117, ql_117, qt_118, ql_118, qt_119, ql_119, qt_120, ql_120, qt_121, ql_121, qt_122, ql_122, qt_123, ql_123, qt_124, ql_124, qt_125, ql_125, qt_126, ql_126, qt_127, ql_127, qt_129, ql_129, qt_130, ql_130, qt_131, ql_131, qt_132, ql_132, qt_133, ql_133, qt_134, ql_134, qt_135, ql_135, qt_137, ql_137, qt_138, ql_138, qt_139, ql_139, qt_140, ql_140, qt_141, ql_141, qt_142, ql_142, qt_143, ql_143, qt_144, ql_144, qt_145, ql_145, qt_146, ql_146, qt_147, ql_147, qt_148, ql_148, qt_149, ql_149, qt_150, ql_150, qt_151, ql_151, qt_152, ql_152, qt_153, ql_153, qt_154, ql_154, qt_155, ql_155, qt_156, ql_156, qt_157, ql_157, qt_158, ql_158, qt_159, ql_159, qt_160, ql_160, qt_161, ql_161, qt_162, ql_162, qt_163, ql_163, qt_164, ql_164, qt_165, ql_165, qt_166, ql_166, qt_167, ql_167, qt_168, ql_168, qt_169, ql_169, qt_170, ql_170, qt_171, ql_171, qt_172, ql_172, qt_173, ql_173, qt_174, ql_174, qt_175, ql_175, qt_176, ql_176, qt_177, ql_177, qt_178, ql_178, qt_179, ql_179, qt_180, ql_180, qt_181, ql_181, qt_182, ql_182, qt_183, ql_183, qt_184, ql_184, qt_185, ql_185, qt_186, ql_186, qt_187, ql_187, qt_188, ql_188, true_implies, false_implies, not_true_eq_false, not_false_eq_true, true_and, and_true, implies_true, or_true, true_or, or_false, false_or, Int.reduceEq, Int.one_ne_zero, Nat.reduceEqDiff, y0, y240, e67, e66]
    refine ⟨fun g => ?_, fun g => ?_⟩
    · rw [if_pos ⟨by omega, g⟩] at kk; exact kk
    · rw [if_neg (fun q => g q.2)] at kk; exact kk
  have e13 : NS c C r 13 v = (gV G v).1.2.2.2.1 := by rw [NS_lo hc (by decide) (by decide)]; exact r13
  have e14 : NS c C r 14 v = (gV G v).1.2.2.2.2 := by rw [NS_lo hc (by decide) (by decide)]; exact r14
  have hb4 : b < 4 := by omega
  have b0 : 0 ≤ b := hb.1
  simp only [k36_0, k36_1, k36_4, k36_7, k36_8, k36_9, k36_10, k36_11, k36_14, k36_17, k36_18, k36_19, k36_21, k36_22, k36_25, k36_26, qt_1, ql_1, qt_2, ql_2, qt_3, ql_3, qt_6, ql_6, qt_7, ql_7, qt_8, ql_8, qt_10, ql_10, qt_11, ql_11, qt_12, ql_12, qt_13, ql_13, qt_14, ql_14, qt_15, ql_15, qt_16, ql_16, qt_17, ql_17, qt_18, ql_18, qt_19, ql_19, qt_20, ql_20, qt_21, ql_21, qt_22, ql_22, qt_23, ql_23, qt_24, ql_24, qt_25, ql_25, qt_26, ql_26, qt_28, ql_28, qt_29, ql_29, qt_30, ql_30, qt_31, ql_31, qt_32, ql_32, qt_33, ql_33, qt_34, ql_34, qt_35, ql_35, qt_36, ql_36, qt_37, ql_37, qt_38, ql_38, qt_40, ql_40, qt_41, ql_41, qt_42, ql_42, qt_43, ql_43, qt_44, ql_44, qt_45, ql_45, qt_46, ql_46, qt_47, ql_47, qt_48, ql_48, qt_49, ql_49, qt_50, ql_50, qt_51, ql_51, qt_52, ql_52, qt_53, ql_53, qt_54, ql_54, qt_56, ql_56, qt_57, ql_57, qt_58, ql_58, qt_59, ql_59, qt_60, ql_60, qt_61, ql_61, qt_62, ql_62, qt_63, ql_63, qt_64, ql_64, qt_65, ql_65, qt_67, ql_67, qt_68, ql_68, qt_69, ql_69, qt_70, ql_70, qt_71, ql_71, qt_73, ql_73, qt_74, ql_74, qt_75, ql_75, qt_76, ql_76, qt_78, ql_78, qt_79, ql_79, qt_80, ql_80, qt_81, ql_81, qt_82, ql_82, qt_83, ql_83, qt_84, ql_84, qt_85, ql_85, qt_86, ql_86, qt_87, ql_87, qt_89, ql_89, qt_90, ql_90, qt_91, ql_91, qt_92, ql_92, qt_93, ql_93, qt_94, ql_94, qt_95, ql_95, qt_96, ql_96, qt_97, ql_97, qt_98, ql_98, qt_99, ql_99, qt_100, ql_100, qt_101, ql_101, qt_102, ql_102, qt_103, ql_103, qt_105, ql_105, qt_106, ql_106, qt_107, ql_107, qt_108, ql_108, qt_109, ql_109, qt_110, ql_110, qt_111, ql_111, qt_113, ql_113, qt_114, ql_114, qt_115, ql_115, qt_116, ql_116, qt_117, ql_117, qt_118, ql_118, qt_119, ql_119, qt_120, ql_120, qt_121, ql_121, qt_122, ql_122, qt_123, ql_123, qt_124, ql_124, qt_125, ql_125, qt_126, ql_126, qt_127, ql_127, qt_129, ql_129, qt_130, ql_130, qt_131, ql_131, qt_132, ql_132, qt_133, ql_133, qt_134, ql_134, qt_135, ql_135, qt_137, ql_137, qt_138, ql_138, qt_139, ql_139, qt_140, ql_140, qt_141, ql_141, qt_142, ql_142, qt_143, ql_143, qt_144, ql_144, qt_145, ql_145, qt_146, ql_146, qt_147, ql_147, qt_148, ql_148, qt_149, ql_149, qt_150, ql_150, qt_151, ql_151, qt_152, ql_152, qt_153, ql_153, qt_154, ql_154, qt_155, ql_155, qt_156, ql_156, qt_157, ql_157, qt_158, ql_158, qt_159, ql_159, qt_160, ql_160, qt_161, ql_161, qt_162, ql_162, qt_163, ql_163, qt_164, ql_164, qt_165, ql_165, qt_166, ql_166, qt_167, ql_167, qt_168, ql_168, qt_169, ql_169, qt_170, ql_170, qt_171, ql_171, qt_172, ql_172, qt_173, ql_173, qt_174, ql_174, qt_175, ql_175, qt_176, ql_176, qt_177, ql_177, qt_178, ql_178, qt_179, ql_179, qt_180, ql_180, qt_181, ql_181, qt_182, ql_182, qt_183, ql_183, qt_184, ql_184, qt_185, ql_185, qt_186, ql_186, qt_187, ql_187, qt_188, ql_188, true_implies, false_implies, not_true_eq_false, not_false_eq_true, true_and, and_true, implies_true, or_true, true_or, or_false, false_or, Int.reduceEq, Int.one_ne_zero, Nat.reduceEqDiff, b0, hb4, v0, v1, e13]
  refine n90 hc hCV hv (fun hm => ?_) (fun hm => ?_)
  · obtain ⟨m1, m2, -⟩ := WV_m hw hm
    have hx1 := hX (gV G v).1.2.2.2.1.toNat (by omega)
    have hx2 := hX (gV G v).1.2.2.2.2.toNat (by omega)
    rw [Int.toNat_of_nonneg m1.1] at hx1
    rw [Int.toNat_of_nonneg m2.1] at hx2
    have s1 := hsm (gV G v).1.2.2.2.1.toNat (by omega)
    have s2 := hsm (gV G v).1.2.2.2.2.toNat (by omega)
    have m13 : (gV G v).1.2.2.2.1 < 240 := by omega
    have m14 : (gV G v).1.2.2.2.2 < 240 := by omega
    have m10 := m1.1
    have m20 := m2.1
    simp only [q_kn_v, k36_29, k36_32, k36_33, k36_35, k36_36, k36_37, k36_38, k36_41, k36_44, k36_45, k36_46, k36_47, qt_1, ql_1, qt_2, ql_2, qt_3, ql_3, qt_6, ql_6, qt_7, ql_7, qt_8, ql_8, qt_10, ql_10, qt_11, ql_11, qt_12, ql_12, qt_13, ql_13, qt_14, ql_14, qt_15, ql_15, qt_16, ql_16, qt_17, ql_17, qt_18, ql_18, qt_19, ql_19, qt_20, ql_20, qt_21, ql_21, qt_22, ql_22, qt_23, ql_23, qt_24, ql_24, qt_25, ql_25, qt_26, ql_26, qt_28, ql_28, qt_29, ql_29, qt_30, ql_30, qt_31, ql_31, qt_32, ql_32, qt_33, ql_33, qt_34, ql_34, qt_35, ql_35, qt_36, ql_36, qt_37, ql_37, qt_38, ql_38, qt_40, ql_40, qt_41, ql_41, qt_42, ql_42, qt_43, ql_43, qt_44, ql_44, qt_45, ql_45, qt_46, ql_46, qt_47, ql_47, qt_48, ql_48, qt_49, ql_49, qt_50, ql_50, qt_51, ql_51, qt_52, ql_52, qt_53, ql_53, qt_54, ql_54, qt_56, ql_56, qt_57, ql_57, qt_58, ql_58, qt_59, ql_59, qt_60, ql_60, qt_61, ql_61, qt_62, ql_62, qt_63, ql_63, qt_64, ql_64, qt_65, ql_65, qt_67, ql_67, qt_68, ql_68, qt_69, ql_69, qt_70, ql_70, qt_71, ql_71, qt_73, ql_73, qt_74, ql_74, qt_75, ql_75, qt_76, ql_76, qt_78, ql_78, qt_79, ql_79, qt_80, ql_80, qt_81, ql_81, qt_82, ql_82, qt_83, ql_83, qt_84, ql_84, qt_85, ql_85, qt_86, ql_86, qt_87, ql_87, qt_89, ql_89, qt_90, ql_90, qt_91, ql_91, qt_92, ql_92, qt_93, ql_93, qt_94, ql_94, qt_95, ql_95, qt_96, ql_96, qt_97, ql_97, qt_98, ql_98, qt_99, ql_99, qt_100, ql_100, qt_101, ql_101, qt_102, ql_102, qt_103, ql_103, qt_105, ql_105, qt_106, ql_106, qt_107, ql_107, qt_108, ql_108, qt_109, ql_109, qt_110, ql_110, qt_111, ql_111, qt_113, ql_113, qt_114, ql_114, qt_115, ql_115, qt_116, ql_116, qt_117, ql_117, qt_118, ql_118, qt_119, ql_119, qt_120, ql_120, qt_121, ql_121, qt_122, ql_122, qt_123, ql_123, qt_124, ql_124, qt_125, ql_125, qt_126, ql_126, qt_127, ql_127, qt_129, ql_129, qt_130, ql_130, qt_131, ql_131, qt_132, ql_132, qt_133, ql_133, qt_134, ql_134, qt_135, ql_135, qt_137, ql_137, qt_138, ql_138, qt_139, ql_139, qt_140, ql_140, qt_141, ql_141, qt_142, ql_142, qt_143, ql_143, qt_144, ql_144, qt_145, ql_145, qt_146, ql_146, qt_147, ql_147, qt_148, ql_148, qt_149, ql_149, qt_150, ql_150, qt_151, ql_151, qt_152, ql_152, qt_153, ql_153, qt_154, ql_154, qt_155, ql_155, qt_156, ql_156, qt_157, ql_157, qt_158, ql_158, qt_159, ql_159, qt_160, ql_160, qt_161, ql_161, qt_162, ql_162, qt_163, ql_163, qt_164, ql_164, qt_165, ql_165, qt_166, ql_166, qt_167, ql_167, qt_168, ql_168, qt_169, ql_169, qt_170, ql_170, qt_171, ql_171, qt_172, ql_172, qt_173, ql_173, qt_174, ql_174, qt_175, ql_175, qt_176, ql_176, qt_177, ql_177, qt_178, ql_178, qt_179, ql_179, qt_180, ql_180, qt_181, ql_181, qt_182, ql_182, qt_183, ql_183, qt_184, ql_184, qt_185, ql_185, qt_186, ql_186, qt_187, ql_187, qt_188, ql_188, true_implies, false_implies, not_true_eq_false, not_false_eq_true, true_and, and_true, implies_true, or_true, true_or, or_false, false_or, Int.reduceEq, Int.one_ne_zero, Nat.reduceEqDiff, eN, hx1, hx2, e14, v0, v1, t1, t2, m10, m13, m20, m14]
    have hfx' := hfx
    unfold l_F E_G at hfx'
    rw [if_pos hm] at hfx'
    dsimp only at hfx'
    change l_L (E_G G (q_of pl) b (-1)) V v = l_max (l_L (E_G G (q_of pl) b (-1)) V (gV G v).1.2.2.2.1.toNat) (l_L (E_G G (q_of pl) b (-1)) V (gV G v).1.2.2.2.2.toNat) at hfx'
    have en : nxr G pl V b v = if l_L (E_G G (q_of pl) b (-1)) V (gV G v).1.2.2.2.1.toNat = l_L (E_G G (q_of pl) b (-1)) V v then (gV G v).1.2.2.2.1 else (gV G v).1.2.2.2.2 := by
      unfold nxr
      rw [if_pos hm, Int.toNat_natCast]
    rw [hfx'] at en ha
    generalize l_L (E_G G (q_of pl) b (-1)) V (gV G v).1.2.2.2.1.toNat = o1 at *
    generalize l_L (E_G G (q_of pl) b (-1)) V (gV G v).1.2.2.2.2.toNat = o2 at *
    cases o1 with
    | none => cases ha
    | some y1 =>
      cases o2 with
      | none => cases ha
      | some y2 =>
        have e1 : enC (some y1) = y1 := rfl
        have e2 : enC (some y2) = y2 := rfl
        rw [e1, e2]
        have e3 : l_max (some y1) (some y2) = some (max y1 y2) := rfl
        rw [e3] at en
        refine ⟨fun g => ?_, fun g => ?_⟩
        · simp only [k36_50, k36_51, k36_54, k36_57, k36_58, k36_59, k36_61, qt_1, ql_1, qt_2, ql_2, qt_3, ql_3, qt_6, ql_6, qt_7, ql_7, qt_8, ql_8, qt_10, ql_10, qt_11, ql_11, qt_12, ql_12, qt_13, ql_13, qt_14, ql_14, qt_15, ql_15, qt_16, ql_16, qt_17, ql_17, qt_18, ql_18, qt_19, ql_19, qt_20, ql_20, qt_21, ql_21, qt_22, ql_22, qt_23, ql_23, qt_24, ql_24, qt_25, ql_25, qt_26, ql_26, qt_28, ql_28, qt_29, ql_29, qt_30, ql_30, qt_31, ql_31, qt_32, ql_32, qt_33, ql_33, qt_34, ql_34, qt_35, ql_35, qt_36, ql_36, qt_37, ql_37, qt_38, ql_38, qt_40, ql_40, qt_41, ql_41, qt_42, ql_42, qt_43, ql_43, qt_44, ql_44, qt_45, ql_45, qt_46, ql_46, qt_47, ql_47, qt_48, ql_48, qt_49, ql_49, qt_50, ql_50, qt_51, ql_51, qt_52, ql_52, qt_53, ql_53, qt_54, ql_54, qt_56, ql_56, qt_57, ql_57, qt_58, ql_58, qt_59, ql_59, qt_60, ql_60, qt_61, ql_61, qt_62, ql_62, qt_63, ql_63, qt_64, ql_64, qt_65, ql_65, qt_67, ql_67, qt_68, ql_68, qt_69, ql_69, qt_70, ql_70, qt_71, ql_71, qt_73, ql_73, qt_74, ql_74, qt_75, ql_75, qt_76, ql_76, qt_78, ql_78, qt_79, ql_79, qt_80, ql_80, qt_81, ql_81, qt_82, ql_82, qt_83, ql_83, qt_84, ql_84, qt_85, ql_85, qt_86, ql_86, qt_87, ql_87, qt_89, ql_89, qt_90, ql_90, qt_91, ql_91, qt_92, ql_92, qt_93, ql_93, qt_94, ql_94, qt_95, ql_95, qt_96, ql_96, qt_97, ql_97, qt_98, ql_98, qt_99, ql_99, qt_100, ql_100, qt_101, ql_101, qt_102, ql_102, qt_103, ql_103, qt_105, ql_105, qt_106, ql_106, qt_107, ql_107, qt_108, ql_108, qt_109, ql_109, qt_110, ql_110, qt_111, ql_111, qt_113, ql_113, qt_114, ql_114, qt_115, ql_115, qt_116, ql_116, qt_117, ql_117, qt_118, ql_118, qt_119, ql_119, qt_120, ql_120, qt_121, ql_121, qt_122, ql_122, qt_123, ql_123, qt_124, ql_124, qt_125, ql_125, qt_126, ql_126, qt_127, ql_127, qt_129, ql_129, qt_130, ql_130, qt_131, ql_131, qt_132, ql_132, qt_133, ql_133, qt_134, ql_134, qt_135, ql_135, qt_137, ql_137, qt_138, ql_138, qt_139, ql_139, qt_140, ql_140, qt_141, ql_141, qt_142, ql_142, qt_143, ql_143, qt_144, ql_144, qt_145, ql_145, qt_146, ql_146, qt_147, ql_147, qt_148, ql_148, qt_149, ql_149, qt_150, ql_150, qt_151, ql_151, qt_152, ql_152, qt_153, ql_153, qt_154, ql_154, qt_155, ql_155, qt_156, ql_156, qt_157, ql_157, qt_158, ql_158, qt_159, ql_159, qt_160, ql_160, qt_161, ql_161, qt_162, ql_162, qt_163, ql_163, qt_164, ql_164, qt_165, ql_165, qt_166, ql_166, qt_167, ql_167, qt_168, ql_168, qt_169, ql_169, qt_170, ql_170, qt_171, ql_171, qt_172, ql_172, qt_173, ql_173, qt_174, ql_174, qt_175, ql_175, qt_176, ql_176, qt_177, ql_177, qt_178, ql_178, qt_179, ql_179, qt_180, ql_180, qt_181, ql_181, qt_182, ql_182, qt_183, ql_183, qt_184, ql_184, qt_185, ql_185, qt_186, ql_186, qt_187, ql_187, qt_188, ql_188, true_implies, false_implies, not_true_eq_false, not_false_eq_true, true_and, and_true, implies_true, or_true, true_or, or_false, false_or, Int.reduceEq, Int.one_ne_zero, Nat.reduceEqDiff, e14, v0, v1]
          refine fin _ _ _ m2.1 (by omega) ?_
          rw [en, if_neg (fun q => by injection q with q; omega)]
        · refine fin _ _ _ m1.1 (by omega) ?_
          rw [en, if_pos (by congr 1; omega)]
  · -- the word beside
    have term : ¬ (¬ (gV G v).1.2.2.2.1 = -1 ∧ l_fr (l_L (E_G G (q_of pl) b (-1)) V) (e_fr b (gV G v)) = l_L (E_G G (q_of pl) b (-1)) V v) → qx sc (D + 2) 36 86 [vr 66, vi b, vi v, vr (56 + 1 + b.toNat), vi (gV G v).1.2.2.2.1, vn] [] (0, 0) bb (NS c C r) Q := by
      intro hn
      have en : nxr G pl V b v = if (e_tt b (gV G v)).1 = 3 then (e_tt b (gV G v)).2.1 else if (e_tt b (gV G v)).1 = 2 then 1000 else 1001 := by
        unfold nxr
        rw [if_neg hm, Int.toNat_natCast, if_neg hn]
      have fin2 : ∀ (d k n s : Int) (A B : Nat), (k, n, s) = e_tt b (gV G v) → (d = 0 ∧ A = 19 ∧ B = 22 ∧ r 19 v = k ∧ r 22 v = n ∨ d = 1 ∧ A = 20 ∧ B = 23 ∧ r 20 v = k ∧ r 23 v = n) → qx sc (D + 2) 36 98 [vr 66, vi b, vi v, vr (56 + 1 + b.toNat), vi (gV G v).1.2.2.2.1, vi d] [] (0, 0) bb (NS c C r) Q := by
        intro d k n s A B he hd
        rw [← he] at en
        dsimp only at en
        have tk := TOK_tt (b := b) (WV_n hw hm).2.2
        rw [← he] at tk
        obtain ⟨-, tk⟩ := tk
        dsimp only at tk
        have z0 : (0 : Int).toNat = 0 := rfl
        have z1 : (1 : Int).toNat = 1 := rfl
        by_cases k3 : k = 3
        · rw [if_pos k3] at en
          have hf := fin n (vr (56 + 1 + b.toNat)) (vi d) (by omega) (by omega) en
          rcases hd with ⟨d1, -, -, h1, h2⟩ | ⟨d1, -, -, h1, h2⟩
          · subst d1
            simp only [k36_98, k36_99, k36_102, k36_105, k36_107, k36_108, k36_109, k36_110, k36_111, k36_140, k36_141, k36_144, k36_147, k36_149, k36_150, k36_151, k36_152, NS_lo hc, NS_g hc, NS_f hc, NS_u hc, NS_uf hc, Nat.reduceLT, Nat.reduceLeDiff, Nat.reduceEqDiff, not_false_eq_true, qt_1, ql_1, qt_2, ql_2, qt_3, ql_3, qt_6, ql_6, qt_7, ql_7, qt_8, ql_8, qt_10, ql_10, qt_11, ql_11, qt_12, ql_12, qt_13, ql_13, qt_14, ql_14, qt_15, ql_15, qt_16, ql_16, qt_17, ql_17, qt_18, ql_18, qt_19, ql_19, qt_20, ql_20, qt_21, ql_21, qt_22, ql_22, qt_23, ql_23, qt_24, ql_24, qt_25, ql_25, qt_26, ql_26, qt_28, ql_28, qt_29, ql_29, qt_30, ql_30, qt_31, ql_31, qt_32, ql_32, qt_33, ql_33, qt_34, ql_34, qt_35, ql_35, qt_36, ql_36, qt_37, ql_37, qt_38, ql_38, qt_40, ql_40, qt_41, ql_41, qt_42, ql_42, qt_43, ql_43, qt_44, ql_44, qt_45, ql_45, qt_46, ql_46, qt_47, ql_47, qt_48, ql_48, qt_49, ql_49, qt_50, ql_50, qt_51, ql_51, qt_52, ql_52, qt_53, ql_53, qt_54, ql_54, qt_56, ql_56, qt_57, ql_57, qt_58, ql_58, qt_59, ql_59, qt_60, ql_60, qt_61, ql_61, qt_62, ql_62, qt_63, ql_63, qt_64, ql_64, qt_65, ql_65, qt_67, ql_67, qt_68, ql_68, qt_69, ql_69, qt_70, ql_70, qt_71, ql_71, qt_73, ql_73, qt_74, ql_74, qt_75, ql_75, qt_76, ql_76, qt_78, ql_78, qt_79, ql_79, qt_80, ql_80, qt_81, ql_81, qt_82, ql_82, qt_83, ql_83, qt_84, ql_84, qt_85, ql_85, qt_86, ql_86, qt_87, ql_87, qt_89, ql_89, qt_90, ql_90, qt_91, ql_91, qt_92, ql_92, qt_93, ql_93, qt_94, ql_94, qt_95, ql_95, qt_96, ql_96, qt_97, ql_97, qt_98, ql_98, qt_99, ql_99, qt_100, ql_100, qt_101, ql_101, qt_102, ql_102, qt_103, ql_103, qt_105, ql_105, qt_106, ql_106, qt_107, ql_107, qt_108, ql_108, qt_109, ql_109, qt_110, ql_110, qt_111, ql_111, qt_113, ql_113, qt_114, ql_114, qt_115, ql_115, qt_116, ql_116, qt_117, ql_117, qt_118, ql_118, qt_119, ql_119, qt_120, ql_120, qt_121, ql_121, qt_122, ql_122, qt_123, ql_123, qt_124, ql_124, qt_125, ql_125, qt_126, ql_126, qt_127, ql_127, qt_129, ql_129, qt_130, ql_130, qt_131, ql_131, qt_132, ql_132, qt_133, ql_133, qt_134, ql_134, qt_135, ql_135, qt_137, ql_137, qt_138, ql_138, qt_139, ql_139, qt_140, ql_140, qt_141, ql_141, qt_142, ql_142, qt_143, ql_143, qt_144, ql_144, qt_145, ql_145, qt_146, ql_146, qt_147, ql_147, qt_148, ql_148, qt_149, ql_149, qt_150, ql_150, qt_151, ql_151, qt_152, ql_152, qt_153, ql_153, qt_154, ql_154, qt_155, ql_155, qt_156, ql_156, qt_157, ql_157, qt_158, ql_158, qt_159, ql_159, qt_160, ql_160, qt_161, ql_161, qt_162, ql_162, qt_163, ql_163, qt_164, ql_164, qt_165, ql_165, qt_166, ql_166, qt_167, ql_167, qt_168, ql_168, qt_169, ql_169, qt_170, ql_170, qt_171, ql_171, qt_172, ql_172, qt_173, ql_173, qt_174, ql_174, qt_175, ql_175, qt_176, ql_176, qt_177, ql_177, qt_178, ql_178, qt_179, ql_179, qt_180, ql_180, qt_181, ql_181, qt_182, ql_182, qt_183, ql_183, qt_184, ql_184, qt_185, ql_185, qt_186, ql_186, qt_187, ql_187, qt_188, ql_188, true_implies, false_implies, not_true_eq_false, not_false_eq_true, true_and, and_true, implies_true, or_true, true_or, or_false, false_or, Int.reduceEq, Int.one_ne_zero, Nat.reduceEqDiff, z0, Nat.reduceAdd, Int.reduceLE, Int.reduceLT, v0, v1, h1, h2, k3]
            exact hf
          · subst d1
            simp only [k36_98, k36_99, k36_102, k36_105, k36_107, k36_108, k36_109, k36_110, k36_111, k36_140, k36_141, k36_144, k36_147, k36_149, k36_150, k36_151, k36_152, NS_lo hc, NS_g hc, NS_f hc, NS_u hc, NS_uf hc, Nat.reduceLT, Nat.reduceLeDiff, Nat.reduceEqDiff, not_false_eq_true, qt_1, ql_1, qt_2, ql_2, qt_3, ql_3, qt_6, ql_6, qt_7, ql_7, qt_8, ql_8, qt_10, ql_10, qt_11, ql_11, qt_12, ql_12, qt_13, ql_13, qt_14, ql_14, qt_15, ql_15, qt_16, ql_16, qt_17, ql_17, qt_18, ql_18, qt_19, ql_19, qt_20, ql_20, qt_21, ql_21, qt_22, ql_22, qt_23, ql_23, qt_24, ql_24, qt_25, ql_25, qt_26, ql_26, qt_28, ql_28, qt_29, ql_29, qt_30, ql_30, qt_31, ql_31, qt_32, ql_32, qt_33, ql_33, qt_34, ql_34, qt_35, ql_35, qt_36, ql_36, qt_37, ql_37, qt_38, ql_38, qt_40, ql_40, qt_41, ql_41, qt_42, ql_42, qt_43, ql_43, qt_44, ql_44, qt_45, ql_45, qt_46, ql_46, qt_47, ql_47, qt_48, ql_48, qt_49, ql_49, qt_50, ql_50, qt_51, ql_51, qt_52, ql_52, qt_53, ql_53, qt_54, ql_54, qt_56, ql_56, qt_57, ql_57, qt_58, ql_58, qt_59, ql_59, qt_60, ql_60, qt_61, ql_61, qt_62, ql_62, qt_63, ql_63, qt_64, ql_64, qt_65, ql_65, qt_67, ql_67, qt_68, ql_68, qt_69, ql_69, qt_70, ql_70, qt_71, ql_71, qt_73, ql_73, qt_74, ql_74, qt_75, ql_75, qt_76, ql_76, qt_78, ql_78, qt_79, ql_79, qt_80, ql_80, qt_81, ql_81, qt_82, ql_82, qt_83, ql_83, qt_84, ql_84, qt_85, ql_85, qt_86, ql_86, qt_87, ql_87, qt_89, ql_89, qt_90, ql_90, qt_91, ql_91, qt_92, ql_92, qt_93, ql_93, qt_94, ql_94, qt_95, ql_95, qt_96, ql_96, qt_97, ql_97, qt_98, ql_98, qt_99, ql_99, qt_100, ql_100, qt_101, ql_101, qt_102, ql_102, qt_103, ql_103, qt_105, ql_105, qt_106, ql_106, qt_107, ql_107, qt_108, ql_108, qt_109, ql_109, qt_110, ql_110, qt_111, ql_111, qt_113, ql_113, qt_114, ql_114, qt_115, ql_115, qt_116, ql_116, qt_117, ql_117, qt_118, ql_118, qt_119, ql_119, qt_120, ql_120, qt_121, ql_121, qt_122, ql_122, qt_123, ql_123, qt_124, ql_124, qt_125, ql_125, qt_126, ql_126, qt_127, ql_127, qt_129, ql_129, qt_130, ql_130, qt_131, ql_131, qt_132, ql_132, qt_133, ql_133, qt_134, ql_134, qt_135, ql_135, qt_137, ql_137, qt_138, ql_138, qt_139, ql_139, qt_140, ql_140, qt_141, ql_141, qt_142, ql_142, qt_143, ql_143, qt_144, ql_144, qt_145, ql_145, qt_146, ql_146, qt_147, ql_147, qt_148, ql_148, qt_149, ql_149, qt_150, ql_150, qt_151, ql_151, qt_152, ql_152, qt_153, ql_153, qt_154, ql_154, qt_155, ql_155, qt_156, ql_156, qt_157, ql_157, qt_158, ql_158, qt_159, ql_159, qt_160, ql_160, qt_161, ql_161, qt_162, ql_162, qt_163, ql_163, qt_164, ql_164, qt_165, ql_165, qt_166, ql_166, qt_167, ql_167, qt_168, ql_168, qt_169, ql_169, qt_170, ql_170, qt_171, ql_171, qt_172, ql_172, qt_173, ql_173, qt_174, ql_174, qt_175, ql_175, qt_176, ql_176, qt_177, ql_177, qt_178, ql_178, qt_179, ql_179, qt_180, ql_180, qt_181, ql_181, qt_182, ql_182, qt_183, ql_183, qt_184, ql_184, qt_185, ql_185, qt_186, ql_186, qt_187, ql_187, qt_188, ql_188, true_implies, false_implies, not_true_eq_false, not_false_eq_true, true_and, and_true, implies_true, or_true, true_or, or_false, false_or, Int.reduceEq, Int.one_ne_zero, Nat.reduceEqDiff, z1, Nat.reduceAdd, Int.reduceLE, Int.reduceLT, v0, v1, h1, h2, k3]
            exact hf
        · rw [if_neg k3] at en
          by_cases k2 : k = 2
          · rw [if_pos k2] at en
            rw [en, if_neg (by omega)] at kk
            rcases hd with ⟨d1, -, -, h1, h2⟩ | ⟨d1, -, -, h1, h2⟩
            · subst d1
              simp only [k36_98, k36_99, k36_102, k36_105, k36_107, k36_108, k36_109, k36_110, k36_111, k36_114, k36_115, k36_118, k36_121, k36_123, k36_124, k36_125, k36_126, k36_127, k36_130, k36_133, k36_136, k36_139, NS_lo hc, NS_g hc, NS_f hc, NS_u hc, NS_uf hc, Nat.reduceLT, Nat.reduceLeDiff, Nat.reduceEqDiff, not_false_eq_true, qt_1, ql_1, qt_2, ql_2, qt_3, ql_3, qt_6, ql_6, qt_7, ql_7, qt_8, ql_8, qt_10, ql_10, qt_11, ql_11, qt_12, ql_12, qt_13, ql_13, qt_14, ql_14, qt_15, ql_15, qt_16, ql_16, qt_17, ql_17, qt_18, ql_18, qt_19, ql_19, qt_20, ql_20, qt_21, ql_21, qt_22, ql_22, qt_23, ql_23, qt_24, ql_24, qt_25, ql_25, qt_26, ql_26, qt_28, ql_28, qt_29, ql_29, qt_30, ql_30, qt_31, ql_31, qt_32, ql_32, qt_33, ql_33, qt_34, ql_34, qt_35, ql_35, qt_36, ql_36, qt_37, ql_37, qt_38, ql_38, qt_40, ql_40, qt_41, ql_41, qt_42, ql_42, qt_43, ql_43, qt_44, ql_44, qt_45, ql_45, qt_46, ql_46, qt_47, ql_47, qt_48, ql_48, qt_49, ql_49, qt_50, ql_50, qt_51, ql_51, qt_52, ql_52, qt_53, ql_53, qt_54, ql_54, qt_56, ql_56, qt_57, ql_57, qt_58, ql_58, qt_59, ql_59, qt_60, ql_60, qt_61, ql_61, qt_62, ql_62, qt_63, ql_63, qt_64, ql_64, qt_65, ql_65, qt_67, ql_67, qt_68, ql_68, qt_69, ql_69, qt_70, ql_70, qt_71, ql_71, qt_73, ql_73, qt_74, ql_74, qt_75, ql_75, qt_76, ql_76, qt_78, ql_78, qt_79, ql_79, qt_80, ql_80, qt_81, ql_81, qt_82, ql_82, qt_83, ql_83, qt_84, ql_84, qt_85, ql_85, qt_86, ql_86, qt_87, ql_87, qt_89, ql_89, qt_90, ql_90, qt_91, ql_91, qt_92, ql_92, qt_93, ql_93, qt_94, ql_94, qt_95, ql_95, qt_96, ql_96, qt_97, ql_97, qt_98, ql_98, qt_99, ql_99, qt_100, ql_100, qt_101, ql_101, qt_102, ql_102, qt_103, ql_103, qt_105, ql_105, qt_106, ql_106, qt_107, ql_107, qt_108, ql_108, qt_109, ql_109, qt_110, ql_110, qt_111, ql_111, qt_113, ql_113, qt_114, ql_114, qt_115, ql_115, qt_116, ql_116, qt_117, ql_117, qt_118, ql_118, qt_119, ql_119, qt_120, ql_120, qt_121, ql_121, qt_122, ql_122, qt_123, ql_123, qt_124, ql_124, qt_125, ql_125, qt_126, ql_126, qt_127, ql_127, qt_129, ql_129, qt_130, ql_130, qt_131, ql_131, qt_132, ql_132, qt_133, ql_133, qt_134, ql_134, qt_135, ql_135, qt_137, ql_137, qt_138, ql_138, qt_139, ql_139, qt_140, ql_140, qt_141, ql_141, qt_142, ql_142, qt_143, ql_143, qt_144, ql_144, qt_145, ql_145, qt_146, ql_146, qt_147, ql_147, qt_148, ql_148, qt_149, ql_149, qt_150, ql_150, qt_151, ql_151, qt_152, ql_152, qt_153, ql_153, qt_154, ql_154, qt_155, ql_155, qt_156, ql_156, qt_157, ql_157, qt_158, ql_158, qt_159, ql_159, qt_160, ql_160, qt_161, ql_161, qt_162, ql_162, qt_163, ql_163, qt_164, ql_164, qt_165, ql_165, qt_166, ql_166, qt_167, ql_167, qt_168, ql_168, qt_169, ql_169, qt_170, ql_170, qt_171, ql_171, qt_172, ql_172, qt_173, ql_173, qt_174, ql_174, qt_175, ql_175, qt_176, ql_176, qt_177, ql_177, qt_178, ql_178, qt_179, ql_179, qt_180, ql_180, qt_181, ql_181, qt_182, ql_182, qt_183, ql_183, qt_184, ql_184, qt_185, ql_185, qt_186, ql_186, qt_187, ql_187, qt_188, ql_188, true_implies, false_implies, not_true_eq_false, not_false_eq_true, true_and, and_true, implies_true, or_true, true_or, or_false, false_or, Int.reduceEq, Int.one_ne_zero, Nat.reduceEqDiff, z0, Nat.reduceAdd, Int.reduceLE, Int.reduceLT, v0, v1, h1, k2]
              exact kk
            · subst d1
              simp only [k36_98, k36_99, k36_102, k36_105, k36_107, k36_108, k36_109, k36_110, k36_111, k36_114, k36_115, k36_118, k36_121, k36_123, k36_124, k36_125, k36_126, k36_127, k36_130, k36_133, k36_136, k36_139, NS_lo hc, NS_g hc, NS_f hc, NS_u hc, NS_uf hc, Nat.reduceLT, Nat.reduceLeDiff, Nat.reduceEqDiff, not_false_eq_true, qt_1, ql_1, qt_2, ql_2, qt_3, ql_3, qt_6, ql_6, qt_7, ql_7, qt_8, ql_8, qt_10, ql_10, qt_11, ql_11, qt_12, ql_12, qt_13, ql_13, qt_14, ql_14, qt_15, ql_15, qt_16, ql_16, qt_17, ql_17, qt_18, ql_18, qt_19, ql_19, qt_20, ql_20, qt_21, ql_21, qt_22, ql_22, qt_23, ql_23, qt_24, ql_24, qt_25, ql_25, qt_26, ql_26, qt_28, ql_28, qt_29, ql_29, qt_30, ql_30, qt_31, ql_31, qt_32, ql_32, qt_33, ql_33, qt_34, ql_34, qt_35, ql_35, qt_36, ql_36, qt_37, ql_37, qt_38, ql_38, qt_40, ql_40, qt_41, ql_41, qt_42, ql_42, qt_43, ql_43, qt_44, ql_44, qt_45, ql_45, qt_46, ql_46, qt_47, ql_47, qt_48, ql_48, qt_49, ql_49, qt_50, ql_50, qt_51, ql_51, qt_52, ql_52, qt_53, ql_53, qt_54, ql_54, qt_56, ql_56, qt_57, ql_57, qt_58, ql_58, qt_59, ql_59, qt_60, ql_60, qt_61, ql_61, qt_62, ql_62, qt_63, ql_63, qt_64, ql_64, qt_65, ql_65, qt_67, ql_67, qt_68, ql_68, qt_69, ql_69, qt_70, ql_70, qt_71, ql_71, qt_73, ql_73, qt_74, ql_74, qt_75, ql_75, qt_76, ql_76, qt_78, ql_78, qt_79, ql_79, qt_80, ql_80, qt_81, ql_81, qt_82, ql_82, qt_83, ql_83, qt_84, ql_84, qt_85, ql_85, qt_86, ql_86, qt_87, ql_87, qt_89, ql_89, qt_90, ql_90, qt_91, ql_91, qt_92, ql_92, qt_93, ql_93, qt_94, ql_94, qt_95, ql_95, qt_96, ql_96, qt_97, ql_97, qt_98, ql_98, qt_99, ql_99, qt_100, ql_100, qt_101, ql_101, qt_102, ql_102, qt_103, ql_103, qt_105, ql_105, qt_106, ql_106, qt_107, ql_107, qt_108, ql_108, qt_109, ql_109, qt_110, ql_110, qt_111, ql_111, qt_113, ql_113, qt_114, ql_114, qt_115, ql_115, qt_116, ql_116, qt_117, ql_117, qt_118, ql_118, qt_119, ql_119, qt_120, ql_120, qt_121, ql_121, qt_122, ql_122, qt_123, ql_123, qt_124, ql_124, qt_125, ql_125, qt_126, ql_126, qt_127, ql_127, qt_129, ql_129, qt_130, ql_130, qt_131, ql_131, qt_132, ql_132, qt_133, ql_133, qt_134, ql_134, qt_135, ql_135, qt_137, ql_137, qt_138, ql_138, qt_139, ql_139, qt_140, ql_140, qt_141, ql_141, qt_142, ql_142, qt_143, ql_143, qt_144, ql_144, qt_145, ql_145, qt_146, ql_146, qt_147, ql_147, qt_148, ql_148, qt_149, ql_149, qt_150, ql_150, qt_151, ql_151, qt_152, ql_152, qt_153, ql_153, qt_154, ql_154, qt_155, ql_155, qt_156, ql_156, qt_157, ql_157, qt_158, ql_158, qt_159, ql_159, qt_160, ql_160, qt_161, ql_161, qt_162, ql_162, qt_163, ql_163, qt_164, ql_164, qt_165, ql_165, qt_166, ql_166, qt_167, ql_167, qt_168, ql_168, qt_169, ql_169, qt_170, ql_170, qt_171, ql_171, qt_172, ql_172, qt_173, ql_173, qt_174, ql_174, qt_175, ql_175, qt_176, ql_176, qt_177, ql_177, qt_178, ql_178, qt_179, ql_179, qt_180, ql_180, qt_181, ql_181, qt_182, ql_182, qt_183, ql_183, qt_184, ql_184, qt_185, ql_185, qt_186, ql_186, qt_187, ql_187, qt_188, ql_188, true_implies, false_implies, not_true_eq_false, not_false_eq_true, true_and, and_true, implies_true, or_true, true_or, or_false, false_or, Int.reduceEq, Int.one_ne_zero, Nat.reduceEqDiff, z1, Nat.reduceAdd, Int.reduceLE, Int.reduceLT, v0, v1, h1, k2]
              exact kk
          · rw [if_neg k2] at en
            rw [en, if_neg (by omega)] at kk
            rcases hd with ⟨d1, -, -, h1, h2⟩ | ⟨d1, -, -, h1, h2⟩
            · subst d1
              simp only [k36_98, k36_99, k36_102, k36_105, k36_107, k36_108, k36_109, k36_110, k36_111, k36_114, k36_115, k36_118, k36_121, k36_123, k36_124, k36_125, k36_126, k36_127, k36_130, k36_133, k36_136, k36_139, NS_lo hc, NS_g hc, NS_f hc, NS_u hc, NS_uf hc, Nat.reduceLT, Nat.reduceLeDiff, Nat.reduceEqDiff, not_false_eq_true, qt_1, ql_1, qt_2, ql_2, qt_3, ql_3, qt_6, ql_6, qt_7, ql_7, qt_8, ql_8, qt_10, ql_10, qt_11, ql_11, qt_12, ql_12, qt_13, ql_13, qt_14, ql_14, qt_15, ql_15, qt_16, ql_16, qt_17, ql_17, qt_18, ql_18, qt_19, ql_19, qt_20, ql_20, qt_21, ql_21, qt_22, ql_22, qt_23, ql_23, qt_24, ql_24, qt_25, ql_25, qt_26, ql_26, qt_28, ql_28, qt_29, ql_29, qt_30, ql_30, qt_31, ql_31, qt_32, ql_32, qt_33, ql_33, qt_34, ql_34, qt_35, ql_35, qt_36, ql_36, qt_37, ql_37, qt_38, ql_38, qt_40, ql_40, qt_41, ql_41, qt_42, ql_42, qt_43, ql_43, qt_44, ql_44, qt_45, ql_45, qt_46, ql_46, qt_47, ql_47, qt_48, ql_48, qt_49, ql_49, qt_50, ql_50, qt_51, ql_51, qt_52, ql_52, qt_53, ql_53, qt_54, ql_54, qt_56, ql_56, qt_57, ql_57, qt_58, ql_58, qt_59, ql_59, qt_60, ql_60, qt_61, ql_61, qt_62, ql_62, qt_63, ql_63, qt_64, ql_64, qt_65, ql_65, qt_67, ql_67, qt_68, ql_68, qt_69, ql_69, qt_70, ql_70, qt_71, ql_71, qt_73, ql_73, qt_74, ql_74, qt_75, ql_75, qt_76, ql_76, qt_78, ql_78, qt_79, ql_79, qt_80, ql_80, qt_81, ql_81, qt_82, ql_82, qt_83, ql_83, qt_84, ql_84, qt_85, ql_85, qt_86, ql_86, qt_87, ql_87, qt_89, ql_89, qt_90, ql_90, qt_91, ql_91, qt_92, ql_92, qt_93, ql_93, qt_94, ql_94, qt_95, ql_95, qt_96, ql_96, qt_97, ql_97, qt_98, ql_98, qt_99, ql_99, qt_100, ql_100, qt_101, ql_101, qt_102, ql_102, qt_103, ql_103, qt_105, ql_105, qt_106, ql_106, qt_107, ql_107, qt_108, ql_108, qt_109, ql_109, qt_110, ql_110, qt_111, ql_111, qt_113, ql_113, qt_114, ql_114, qt_115, ql_115, qt_116, ql_116, qt_117, ql_117, qt_118, ql_118, qt_119, ql_119, qt_120, ql_120, qt_121, ql_121, qt_122, ql_122, qt_123, ql_123, qt_124, ql_124, qt_125, ql_125, qt_126, ql_126, qt_127, ql_127, qt_129, ql_129, qt_130, ql_130, qt_131, ql_131, qt_132, ql_132, qt_133, ql_133, qt_134, ql_134, qt_135, ql_135, qt_137, ql_137, qt_138, ql_138, qt_139, ql_139, qt_140, ql_140, qt_141, ql_141, qt_142, ql_142, qt_143, ql_143, qt_144, ql_144, qt_145, ql_145, qt_146, ql_146, qt_147, ql_147, qt_148, ql_148, qt_149, ql_149, qt_150, ql_150, qt_151, ql_151, qt_152, ql_152, qt_153, ql_153, qt_154, ql_154, qt_155, ql_155, qt_156, ql_156, qt_157, ql_157, qt_158, ql_158, qt_159, ql_159, qt_160, ql_160, qt_161, ql_161, qt_162, ql_162, qt_163, ql_163, qt_164, ql_164, qt_165, ql_165, qt_166, ql_166, qt_167, ql_167, qt_168, ql_168, qt_169, ql_169, qt_170, ql_170, qt_171, ql_171, qt_172, ql_172, qt_173, ql_173, qt_174, ql_174, qt_175, ql_175, qt_176, ql_176, qt_177, ql_177, qt_178, ql_178, qt_179, ql_179, qt_180, ql_180, qt_181, ql_181, qt_182, ql_182, qt_183, ql_183, qt_184, ql_184, qt_185, ql_185, qt_186, ql_186, qt_187, ql_187, qt_188, ql_188, true_implies, false_implies, not_true_eq_false, not_false_eq_true, true_and, and_true, implies_true, or_true, true_or, or_false, false_or, Int.reduceEq, Int.one_ne_zero, Nat.reduceEqDiff, z0, Nat.reduceAdd, Int.reduceLE, Int.reduceLT, v0, v1, h1, k3, k2]
              exact kk
            · subst d1
              simp only [k36_98, k36_99, k36_102, k36_105, k36_107, k36_108, k36_109, k36_110, k36_111, k36_114, k36_115, k36_118, k36_121, k36_123, k36_124, k36_125, k36_126, k36_127, k36_130, k36_133, k36_136, k36_139, NS_lo hc, NS_g hc, NS_f hc, NS_u hc, NS_uf hc, Nat.reduceLT, Nat.reduceLeDiff, Nat.reduceEqDiff, not_false_eq_true, qt_1, ql_1, qt_2, ql_2, qt_3, ql_3, qt_6, ql_6, qt_7, ql_7, qt_8, ql_8, qt_10, ql_10, qt_11, ql_11, qt_12, ql_12, qt_13, ql_13, qt_14, ql_14, qt_15, ql_15, qt_16, ql_16, qt_17, ql_17, qt_18, ql_18, qt_19, ql_19, qt_20, ql_20, qt_21, ql_21, qt_22, ql_22, qt_23, ql_23, qt_24, ql_24, qt_25, ql_25, qt_26, ql_26, qt_28, ql_28, qt_29, ql_29, qt_30, ql_30, qt_31, ql_31, qt_32, ql_32, qt_33, ql_33, qt_34, ql_34, qt_35, ql_35, qt_36, ql_36, qt_37, ql_37, qt_38, ql_38, qt_40, ql_40, qt_41, ql_41, qt_42, ql_42, qt_43, ql_43, qt_44, ql_44, qt_45, ql_45, qt_46, ql_46, qt_47, ql_47, qt_48, ql_48, qt_49, ql_49, qt_50, ql_50, qt_51, ql_51, qt_52, ql_52, qt_53, ql_53, qt_54, ql_54, qt_56, ql_56, qt_57, ql_57, qt_58, ql_58, qt_59, ql_59, qt_60, ql_60, qt_61, ql_61, qt_62, ql_62, qt_63, ql_63, qt_64, ql_64, qt_65, ql_65, qt_67, ql_67, qt_68, ql_68, qt_69, ql_69, qt_70, ql_70, qt_71, ql_71, qt_73, ql_73, qt_74, ql_74, qt_75, ql_75, qt_76, ql_76, qt_78, ql_78, qt_79, ql_79, qt_80, ql_80, qt_81, ql_81, qt_82, ql_82, qt_83, ql_83, qt_84, ql_84, qt_85, ql_85, qt_86, ql_86, qt_87, ql_87, qt_89, ql_89, qt_90, ql_90, qt_91, ql_91, qt_92, ql_92, qt_93, ql_93, qt_94, ql_94, qt_95, ql_95, qt_96, ql_96, qt_97, ql_97, qt_98, ql_98, qt_99, ql_99, qt_100, ql_100, qt_101, ql_101, qt_102, ql_102, qt_103, ql_103, qt_105, ql_105, qt_106, ql_106, qt_107, ql_107, qt_108, ql_108, qt_109, ql_109, qt_110, ql_110, qt_111, ql_111, qt_113, ql_113, qt_114, ql_114, qt_115, ql_115, qt_116, ql_116, qt_117, ql_117, qt_118, ql_118, qt_119, ql_119, qt_120, ql_120, qt_121, ql_121, qt_122, ql_122, qt_123, ql_123, qt_124, ql_124, qt_125, ql_125, qt_126, ql_126, qt_127, ql_127, qt_129, ql_129, qt_130, ql_130, qt_131, ql_131, qt_132, ql_132, qt_133, ql_133, qt_134, ql_134, qt_135, ql_135, qt_137, ql_137, qt_138, ql_138, qt_139, ql_139, qt_140, ql_140, qt_141, ql_141, qt_142, ql_142, qt_143, ql_143, qt_144, ql_144, qt_145, ql_145, qt_146, ql_146, qt_147, ql_147, qt_148, ql_148, qt_149, ql_149, qt_150, ql_150, qt_151, ql_151, qt_152, ql_152, qt_153, ql_153, qt_154, ql_154, qt_155, ql_155, qt_156, ql_156, qt_157, ql_157, qt_158, ql_158, qt_159, ql_159, qt_160, ql_160, qt_161, ql_161, qt_162, ql_162, qt_163, ql_163, qt_164, ql_164, qt_165, ql_165, qt_166, ql_166, qt_167, ql_167, qt_168, ql_168, qt_169, ql_169, qt_170, ql_170, qt_171, ql_171, qt_172, ql_172, qt_173, ql_173, qt_174, ql_174, qt_175, ql_175, qt_176, ql_176, qt_177, ql_177, qt_178, ql_178, qt_179, ql_179, qt_180, ql_180, qt_181, ql_181, qt_182, ql_182, qt_183, ql_183, qt_184, ql_184, qt_185, ql_185, qt_186, ql_186, qt_187, ql_187, qt_188, ql_188, true_implies, false_implies, not_true_eq_false, not_false_eq_true, true_and, and_true, implies_true, or_true, true_or, or_false, false_or, Int.reduceEq, Int.one_ne_zero, Nat.reduceEqDiff, z1, Nat.reduceAdd, Int.reduceLE, Int.reduceLT, v0, v1, h1, k3, k2]
              exact kk
      simp only [k36_86, k36_87, k36_88]
      refine ⟨fun b3 => ?_, fun b3 => ?_⟩
      · simp only [k36_91, k36_92, k36_96]
        exact fin2 1 _ _ _ 20 23 (by unfold e_tt; rw [if_pos b3]; exact rd) (Or.inr ⟨rfl, rfl, rfl, rfl, rfl⟩)
      · simp only [k36_95, k36_96]
        exact fin2 0 _ _ _ 19 22 (by unfold e_tt; rw [if_neg b3]; exact ru) (Or.inl ⟨rfl, rfl, rfl, rfl, rfl⟩)
    obtain ⟨f1, f2, f3⟩ := WV_n hw hm
    simp only [q_kn_v, k36_29, k36_64, k36_66, k36_67, true_implies, false_implies, not_true_eq_false, not_false_eq_true, true_and, and_true, implies_true, or_true, true_or, or_false, false_or, Int.reduceEq, Int.one_ne_zero, Nat.reduceEqDiff]
    refine ⟨fun g => term (fun q => q.1 g), fun g => ?_⟩
    simp only [k36_70, k36_71, k36_74, k36_75, k36_76, k36_77]
    refine n1 (D := D) hc hCV ⟨t1, t2, t3, t4, t5⟩ hv hX hsm hm ?_
    have hxv := hX v hv
    simp only [q_kn_v, k36_80, k36_81, k36_82, k36_83, true_implies, false_implies, not_true_eq_false, not_false_eq_true, true_and, and_true, implies_true, or_true, true_or, or_false, false_or, Int.reduceEq, Int.one_ne_zero, Nat.reduceEqDiff, t1, t2, v0, v1, eN, hxv]
    have fb : ∀ z, l_fr (l_L (E_G G (q_of pl) b (-1)) V) (e_fr b (gV G v)) = some z → z ≤ 99000 := by
      intro z hz
      unfold e_fr at hz
      rw [if_neg g] at hz
      unfold l_fr at hz
      dsimp only at hz
      have hs1 := hsm (gV G v).1.2.2.2.1.toNat (by omega)
      generalize l_L (E_G G (q_of pl) b (-1)) V (gV G v).1.2.2.2.1.toNat = o at *
      cases o with
      | none => cases hz
      | some y' =>
        have := hs1 y' rfl
        cases hz
        split <;> omega
    have hab := hsm v hv a ha
    have inj : enC (l_fr (l_L (E_G G (q_of pl) b (-1)) V) (e_fr b (gV G v))) = enC (l_L (E_G G (q_of pl) b (-1)) V v) ↔ l_fr (l_L (E_G G (q_of pl) b (-1)) V) (e_fr b (gV G v)) = l_L (E_G G (q_of pl) b (-1)) V v := by
      rw [ha]
      generalize l_fr (l_L (E_G G (q_of pl) b (-1)) V) (e_fr b (gV G v)) = o at *
      cases o with
      | none => exact ⟨fun q => by have q : (99999 : Int) = a := q; omega, fun q => by cases q⟩
      | some y' => exact ⟨fun q => by have q : y' = a := q; rw [q], fun q => by rw [q]⟩
    refine ⟨fun e => ?_, fun e => term (fun q => e (inj.mpr q.2))⟩
    refine fin _ _ _ (by omega) (by omega) ?_
    unfold nxr
    rw [if_neg hm, Int.toNat_natCast, if_pos ⟨g, inj.mp e⟩]
end CHN
