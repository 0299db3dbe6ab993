/-! pure runs beside the reference's -/
section RRY
variable {sc : Nat × (Nat → Int32)} {D : Nat} {bb : Bool} {Q : QP} {V S K Ln Cn : Nat} {ρ ρ' σ τ σ' : St} {G : GT} {pl ln : Int → Int} {how s k l x y v w m n o b i j mm : Int} {t : TT} {now : Int → Int} {ks : List (Int × Int)}
/-- loops go unasked in the last way alone -/
def HF (how : Int) (σ : St) : Prop := how = 2 ∨ ∀ l, 0 ≤ l → l < 40 → σ 79 l = 0
theorem HF_fr (h : HF how σ) (fr : RFR v l ks σ σ') (hz : ∀ j, l ≤ j → j < 40 → σ' 79 j = 0) : HF how σ' := by
  rcases h with h | h
  · exact Or.inl h
  · refine Or.inr (fun j j0 j1 => ?_)
    by_cases q : j < l
    · rw [fr.2.2.1 j q]; exact h j j0 j1
    · exact hz j (by omega) j1
theorem RLT_4 {z : Int} (h : RLT ρ σ pl V how) : RLT (q_up ρ 136 74 (ρ 136 74 + z)) (q_up σ 87 4 (σ 87 4 + z)) pl V how := by
  obtain ⟨h1, h2, h3, h4, h5, ⟨a1, a2, a3, a4, a5, a6⟩, h7⟩ := h
  refine ⟨h1, h2, h3, h4, h5, ⟨a1, a2, a3, ?_, a5, a6⟩, h7⟩
  show ρ 136 74 + z = σ 87 4 + z
  rw [a4]
theorem RLT_st (h : RLT ρ σ pl V how) : RLT (q_up ρ 136 72 (ρ 136 72 + 1)) (q_up σ 87 2 (σ 87 2 + 1)) pl V how := by
  obtain ⟨h1, h2, h3, h4, h5, ⟨a1, a2, a3, a4, a5, a6⟩, h7⟩ := h
  refine ⟨h1, h2, h3, h4, h5, ⟨a1, ?_, a3, a4, a5, a6⟩, h7⟩
  show ρ 136 72 + 1 = σ 87 2 + 1
  rw [a2]
theorem RLT_mk1 (h : RLT ρ σ pl V how) : RLT (q_up ρ 185 w y) (q_up σ 80 w y) pl V how := by
  obtain ⟨h1, h2, h3, h4⟩ := h
  refine ⟨h1, h2, fun j j0 j1 => ?_, h4⟩
  by_cases e : j = w
  · subst e; rw [q_up_eq, q_up_eq]
  · rw [q_up_ne2 _ _ _ e, q_up_ne2 _ _ _ e]; exact h3 j j0 j1
theorem RLT_asg (h : RLT ρ σ pl V how) : RLT (q_up (q_up ρ 183 x y) 185 w y) (q_up (q_up σ 78 x y) 80 w y) pl V how := by
  refine RLT_mk1 ?_
  obtain ⟨h1, h2⟩ := h
  refine ⟨fun j j0 j1 => ?_, h2⟩
  by_cases e : j = x
  · subst e; rw [q_up_eq, q_up_eq]
  · rw [q_up_ne2 _ _ _ e, q_up_ne2 _ _ _ e]; exact h1 j j0 j1
theorem RLT_lv (h : RLT ρ σ pl V how) : RLT (q_up ρ 187 l y) (q_up σ 79 l y) pl V how := by
  obtain ⟨h1, h2, h3, h4, h5, h6⟩ := h
  refine ⟨h1, h2, h3, h4, fun j j0 j1 => ?_, h6⟩
  by_cases e : j = l
  · subst e; rw [q_up_eq, q_up_eq]
  · rw [q_up_ne2 _ _ _ e, q_up_ne2 _ _ _ e]; exact h5 j j0 j1
theorem RLT_out (h : RLT ρ σ pl V how) (h0 : 0 ≤ σ 87 3) : RLT (q_up (q_up ρ 186 (ρ 136 73) y) 136 73 (ρ 136 73 + 1)) (q_up (q_up σ 86 (σ 87 3) y) 87 3 (σ 87 3 + 1)) pl V how := by
  obtain ⟨h1, h2, h3, h4, h5, ⟨a1, a2, a3, a4, a5, a6⟩, h7⟩ := h
  refine ⟨h1, h2, h3, fun j j0 j1 => ?_, h5, ⟨a1, a2, ?_, a4, a5, a6⟩, h7⟩
  · have j1' : j < σ 87 3 + 1 := j1
    show q_up ρ 186 (ρ 136 73) y 186 j = q_up σ 86 (σ 87 3) y 86 j
    rw [a3]
    by_cases e : j = σ 87 3
    · rw [e, q_up_eq, q_up_eq]
    · rw [q_up_ne2 _ _ _ e, q_up_ne2 _ _ _ e]; exact h4 j j0 (by omega)
  · show ρ 136 73 + 1 = σ 87 3 + 1
    rw [a3]
theorem RLT_sto {row : Int} (h : RLT ρ σ pl V how) (r0 : 0 ≤ row) (r2 : row ≤ 2) (i0 : 0 ≤ i) (i1 : i < 40) : RLT (q_up ρ 184 (41 * row + i) y) (q_up σ (82 + row.toNat) i y) pl V how := by
  obtain ⟨h1, h2, h3⟩ := h
  have key : ∀ (r : Int) (f : Int → Int), (∀ j, 0 ≤ j → j < 40 → ρ 184 (41 * r + j) = f j) → 0 ≤ r → r ≤ 2 → ∀ j, 0 ≤ j → j < 40 → q_up ρ 184 (41 * row + i) y 184 (41 * r + j) = if r = row ∧ j = i then y else f j := by
    intro r f hf q0 q2 j j0 j1
    by_cases e : r = row ∧ j = i
    · rw [if_pos e, e.1, e.2, q_up_eq]
    · rw [if_neg e, q_up_ne2 _ _ _ (by omega)]; exact hf j j0 j1
  have k0 := key 0 (σ 82) (fun j j0 j1 => by rw [show (41 : Int) * 0 + j = j by omega]; exact (h2 j j0 j1).1) (by decide) (by decide)
  have k1 := key 1 (σ 83) (fun j j0 j1 => (h2 j j0 j1).2.1) (by decide) (by decide)
  have k2 := key 2 (σ 84) (fun j j0 j1 => (h2 j j0 j1).2.2) (by decide) (by decide)
  have up : ∀ (a : Nat) (j : Int), q_up σ a i y a j = if j = i then y else σ a j := by
    intro a j
    by_cases e : j = i
    · subst e; rw [q_up_eq, if_pos rfl]
    · rw [q_up_ne2 _ _ _ e, if_neg e]
  have : row = 0 ∨ row = 1 ∨ row = 2 := by omega
  rcases this with rfl | rfl | rfl
  · refine ⟨h1, fun j j0 j1 => ⟨?_, ?_, ?_⟩, h3⟩
    · have := k0 j j0 j1
      rw [show (41 : Int) * 0 + j = j by omega] at this
      rw [this]
      show _ = q_up σ 82 i y 82 j
      rw [up]
      simp only [true_and]
    · have := k1 j j0 j1
      rw [if_neg (by omega)] at this
      exact this
    · have := k2 j j0 j1
      rw [if_neg (by omega)] at this
      exact this
  · refine ⟨h1, fun j j0 j1 => ⟨?_, ?_, ?_⟩, h3⟩
    · have := k0 j j0 j1
      rw [show (41 : Int) * 0 + j = j by omega, if_neg (by omega)] at this
      exact this
    · have := k1 j j0 j1
      rw [show (41 : Int) * 1 + j = 41 + j by omega] at this
      rw [this]
      show _ = q_up σ 83 i y 83 j
      rw [up]
      simp only [true_and]
    · have := k2 j j0 j1
      rw [if_neg (by omega)] at this
      exact this
  · refine ⟨h1, fun j j0 j1 => ⟨?_, ?_, ?_⟩, h3⟩
    · have := k0 j j0 j1
      rw [show (41 : Int) * 0 + j = j by omega, if_neg (by omega)] at this
      exact this
    · have := k1 j j0 j1
      rw [if_neg (by omega)] at this
      exact this
    · have := k2 j j0 j1
      rw [show (41 : Int) * 2 + j = 82 + j by omega] at this
      rw [this]
      show _ = q_up σ 84 i y 84 j
      rw [up]
      simp only [true_and]
/-- versions are made one behind another -/
theorem X_mks {l1 : V2} (hp : PRO G pl V S K Ln) (hC : Cn ≤ 2000) (i0 : 0 ≤ i) (w0 : 0 ≤ w) : ∀ (d : Nat) (j : Int) (ρ : St), 0 ≤ j → w + j + d ≤ V → i + j + d ≤ Cn → IS (gD G) (i + j) (v_cd (w + j) d) → RRX ρ G pl V S K Ln Cn → RLT ρ (R_mk G w j σ) pl V how → ρ 136 70 = -1 → (∀ ρ', RRX ρ' G pl V S K Ln Cn → RLT ρ' (R_mk G w (j + d) σ) pl V how → FRR ρ ρ' → ρ' 136 70 = -1 → qx sc (D + 2) 209 130 [vr 136, l1, vi (i + (j + d))] [] (0, 0) bb ρ' Q) → qx sc (D + 2) 209 130 [vr 136, l1, vi (i + j)] [] (0, 0) bb ρ Q := by
  intro d
  induction d with
  | zero =>
    intro j ρ j0 h1 h2 hI hx hr h70 kk
    have e : j + ((0 : Nat) : Int) = j := by omega
    rw [e] at kk
    exact kk ρ hx hr FRR_refl h70
  | succ d ih =>
    intro j ρ j0 h1 h2 hI hx hr h70 kk
    have hI1 : gD G (i + j) = (6, w + j, 0) := hI.1
    have hI2 : IS (gD G) (i + j + 1) (v_cd (w + j + 1) d) := hI.2
    have x7 := (hp.1 (w + j) (by omega) (by omega)).1
    refine X_make hx hp hC h70 (by omega) (by omega) hI1 (by omega) (by omega) ?_
    have f1 : FRR ρ (q_up ρ 185 (w + j) (ρ 183 (gV G (w + j)).1.1)) := FRR_a (by decide)
    have e183 : ρ 183 (gV G (w + j)).1.1 = σ 78 (gV G (w + j)).1.1 := hr.1 _ x7.1 x7.2
    have r1 : RLT (q_up ρ 185 (w + j) (ρ 183 (gV G (w + j)).1.1)) (R_mk G w (j + 1) σ) pl V how := by
      rw [← R_mk_s j0, e183]
      exact RLT_mk1 hr
    rw [show i + j + 1 = i + (j + 1) by omega] at hI2 ⊢
    rw [show w + j + 1 = w + (j + 1) by omega] at hI2
    refine ih (j + 1) _ (by omega) (by omega) (by omega) hI2 (RRX_of hx f1) r1 h70 (fun ρ' a1 a2 a3 a4 => ?_)
    have e : j + 1 + (d : Int) = j + ((d + 1 : Nat) : Int) := by omega
    rw [e] at a2 ⊢
    exact kk ρ' a1 a2 (FRR_trans f1 a3) a4
theorem X_mk {l1 : V2} {d : Nat} (hp : PRO G pl V S K Ln) (hC : Cn ≤ 2000) (i0 : 0 ≤ i) (w0 : 0 ≤ w) (h1 : w + d ≤ V) (h2 : i + d ≤ Cn) (hI : IS (gD G) i (v_cd w d)) (hx : RRX ρ G pl V S K Ln Cn) (hr : RLT ρ σ pl V how) (h70 : ρ 136 70 = -1) (kk : ∀ ρ', RRX ρ' G pl V S K Ln Cn → RLT ρ' (R_mk G w d σ) pl V how → FRR ρ ρ' → ρ' 136 70 = -1 → qx sc (D + 2) 209 130 [vr 136, l1, vi (i + d)] [] (0, 0) bb ρ' Q) : qx sc (D + 2) 209 130 [vr 136, l1, vi i] [] (0, 0) bb ρ Q := by
  have := X_mks (sc := sc) (D := D) (bb := bb) (Q := Q) (l1 := l1) (σ := σ) (how := how) hp hC i0 w0 d 0 ρ (Int.le_refl _) (by omega) (by omega) (by rw [Int.add_zero, Int.add_zero]; exact hI) hx (by rw [R_mk_0]; exact hr) h70 (fun ρ' a1 a2 a3 a4 => by rw [Int.zero_add] at a2 ⊢; exact kk ρ' a1 a2 a3 a4)
  rw [Int.add_zero] at this
  exact this
/-- a check -/
theorem X_chk {l1 : V2} (hx : RRX ρ G pl V S K Ln Cn) (hp : PRO G pl V S K Ln) (hr : RLT ρ σ pl V how) (hG : GSM G pl V K ln m n o v l now σ) (hH : HF how σ) (hhow : 0 ≤ how ∧ how ≤ 2) (hn : n ≤ 900000) (k0 : 0 ≤ k) (kK : k < K) (hlk : (gC G k).1 = now (gK G k).2.2) (hC : Cn ≤ 2000) (h70 : ρ 136 70 = -1) (i0 : 0 ≤ i) (i1 : i < Cn) (hd : gD G i = (1, k, 0))
    (kp : 0 ≤ σ 78 (gK G k).2.2 ∧ σ 78 (gK G k).2.2 < σ 85 (gK G k).2.1 → qx sc (D + 3) 209 130 [vr 136, l1, vi (i + 1)] [] (0, 0) bb (q_up ρ 136 74 (ρ 136 74 + R_cn G pl V how k (σ 78 (gK G k).2.2) σ)) Q)
    (kf : ¬ (0 ≤ σ 78 (gK G k).2.2 ∧ σ 78 (gK G k).2.2 < σ 85 (gK G k).2.1) → Q (.inl none) bb (q_up (q_up (q_up ρ 136 74 (ρ 136 74 + R_cn G pl V how k (σ 78 (gK G k).2.2) σ)) 136 71 (gK G k).1) 136 70 1)) : qx sc (D + 3) 209 130 [vr 136, l1, vi i] [] (0, 0) bb ρ Q := by
  obtain ⟨e1, e2, e3⟩ := X_cd hx i0 i1 hd
  have hb := hp.2.1
  obtain ⟨⟨a1, a2, a3⟩, a4, ⟨a5, a6, -⟩, ⟨w0, w1, wt⟩, x0, x1⟩ := RRX_K hx hp k0 kK
  have k40 : k < 40 := by omega
  have i3 : i < 3000 := by omega
  have R1 : q_R (i + 1) = True := eq_true (by omega)
  obtain ⟨okD, okU⟩ := ck_ok hp hG k0 kK x0 x1 hlk w1
  have bc := hG.1.2.1
  have hBL := hG.1.2.2.2.2.1
  have e74 : ρ 136 74 = σ 87 4 := hr.2.2.2.2.2.1.2.2.2.1
  have sU := shU_01 (G := G) (pl := pl) (V := V) (wo := -1) (k := k)
  have sD := shD_01 (G := G) (pl := pl) (V := V) (wo := -1) (k := k)
  have fl2 : ¬ (gdr G pl V k).1 = -1 ∧ σ 79 (gdr G pl V k).1 = 1 → how = 2 := by
    intro q
    have hl := gdr_l hp k0 kK rfl q.1
    rcases hH with h | h
    · exact h
    · have := h _ hl.1 (by omega)
      have := q.2
      omega
  -- behind both parts
  have fin0 : ∀ (ρ1 : St) (l2 l3 : V2), ρ1 = q_up ρ 136 74 (ρ 136 74 + R_cn G pl V how k (σ 78 (gK G k).2.2) σ) → (0 ≤ σ 78 (gK G k).2.2 ∧ σ 78 (gK G k).2.2 < σ 85 (gK G k).2.1) → qx sc (D + 2) 143 259 [vr 136, vi i, l2, l3] [] (0, 0) bb ρ1 (q_kn sc (D + 3) 209 159 [vr 136, l1, vi i] [] (0, 0) Q) := by
    intro ρ1 l2 l3 er hin
    rw [er]
    simp only [k143_259, k143_260, k143_261, k143_262, true_implies, false_implies, not_true_eq_false, not_false_eq_true, true_and, and_true, implies_true, or_true, true_or, or_false, false_or, Int.reduceEq, Int.one_ne_zero, Nat.reduceEqDiff, R1, q_kn_v, k209_159, k209_160]
    exact kp hin
  have fin1 : ∀ (ρ1 : St) (l3 : V2), ρ1 = q_up ρ 136 74 (ρ 136 74 + R_cn G pl V how k (σ 78 (gK G k).2.2) σ) → ¬ (0 ≤ σ 78 (gK G k).2.2 ∧ σ 78 (gK G k).2.2 < σ 85 (gK G k).2.1) → qx sc (D + 2) 143 111 [vr 136, vi i, vi k, l3] [] (0, 0) bb ρ1 (q_kn sc (D + 3) 209 159 [vr 136, l1, vi i] [] (0, 0) Q) := by
    intro ρ1 l3 er hin
    have e155 : ρ1 155 k = (gK G k).1 := by rw [er]; exact a1
    simp only [k143_111, k143_112, k143_113, k143_116, k143_117, k143_118, k143_121, k143_122, k143_123, k143_126, k146_0, k146_1, k146_2, k146_5, k146_6, qt_1, ql_1, qt_2, ql_2, qt_3, ql_3, qt_6, ql_6, qt_7, ql_7, qt_8, ql_8, qt_10, ql_10, qt_11, ql_11, qt_12, ql_12, qt_13, ql_13, qt_14, ql_14, qt_15, ql_15, qt_16, ql_16, qt_17, ql_17, qt_18, ql_18, qt_19, ql_19, qt_20, ql_20, qt_21, ql_21, qt_22, ql_22, qt_23, ql_23, qt_24, ql_24, qt_25, ql_25, qt_26, ql_26, qt_28, ql_28, qt_29, ql_29, qt_30, ql_30, qt_31, ql_31, qt_32, ql_32, qt_33, ql_33, qt_34, ql_34, qt_35, ql_35, qt_36, ql_36, qt_37, ql_37, qt_38, ql_38, qt_40, ql_40, qt_41, ql_41, qt_42, ql_42, qt_43, ql_43, qt_44, ql_44, qt_45, ql_45, qt_46, ql_46, qt_47, ql_47, qt_48, ql_48, qt_49, ql_49, qt_50, ql_50, qt_51, ql_51, qt_52, ql_52, qt_53, ql_53, qt_54, ql_54, qt_56, ql_56, qt_57, ql_57, qt_58, ql_58, qt_59, ql_59, qt_60, ql_60, qt_61, ql_61, qt_62, ql_62, qt_63, ql_63, qt_64, ql_64, qt_65, ql_65, qt_67, ql_67, qt_68, ql_68, qt_69, ql_69, qt_70, ql_70, qt_71, ql_71, qt_73, ql_73, qt_74, ql_74, qt_75, ql_75, qt_76, ql_76, qt_78, ql_78, qt_79, ql_79, qt_80, ql_80, qt_81, ql_81, qt_82, ql_82, qt_83, ql_83, qt_84, ql_84, qt_85, ql_85, qt_86, ql_86, qt_87, ql_87, qt_89, ql_89, qt_90, ql_90, qt_91, ql_91, qt_92, ql_92, qt_93, ql_93, qt_94, ql_94, qt_95, ql_95, qt_96, ql_96, qt_97, ql_97, qt_98, ql_98, qt_99, ql_99, qt_100, ql_100, qt_101, ql_101, qt_102, ql_102, qt_103, ql_103, qt_105, ql_105, qt_106, ql_106, qt_107, ql_107, qt_108, ql_108, qt_109, ql_109, qt_110, ql_110, qt_111, ql_111, qt_113, ql_113, qt_114, ql_114, qt_115, ql_115, qt_116, ql_116, qt_117, ql_117, qt_118, ql_118, qt_119, ql_119, qt_120, ql_120, qt_121, ql_121, qt_122, ql_122, qt_123, ql_123, qt_124, ql_124, qt_125, ql_125, qt_126, ql_126, qt_127, ql_127, qt_129, ql_129, qt_130, ql_130, qt_131, ql_131, qt_132, ql_132, qt_133, ql_133, qt_134, ql_134, qt_135, ql_135, qt_137, ql_137, qt_138, ql_138, qt_139, ql_139, qt_140, ql_140, qt_141, ql_141, qt_142, ql_142, qt_143, ql_143, qt_144, ql_144, qt_145, ql_145, qt_146, ql_146, qt_147, ql_147, qt_148, ql_148, qt_149, ql_149, qt_150, ql_150, qt_151, ql_151, qt_152, ql_152, qt_153, ql_153, qt_154, ql_154, qt_155, ql_155, qt_156, ql_156, qt_157, ql_157, qt_158, ql_158, qt_159, ql_159, qt_160, ql_160, qt_161, ql_161, qt_162, ql_162, qt_163, ql_163, qt_164, ql_164, qt_165, ql_165, qt_166, ql_166, qt_167, ql_167, qt_168, ql_168, qt_169, ql_169, qt_170, ql_170, qt_171, ql_171, qt_172, ql_172, qt_173, ql_173, qt_174, ql_174, qt_175, ql_175, qt_176, ql_176, qt_177, ql_177, qt_178, ql_178, qt_179, ql_179, qt_180, ql_180, qt_181, ql_181, qt_182, ql_182, qt_183, ql_183, qt_184, ql_184, qt_185, ql_185, qt_186, ql_186, qt_187, ql_187, qt_188, ql_188, true_implies, false_implies, not_true_eq_false, not_false_eq_true, true_and, and_true, implies_true, or_true, true_or, or_false, false_or, Int.reduceEq, Int.one_ne_zero, Nat.reduceEqDiff, k0, k40, e155, q_kn_v, k209_159, k209_160]
    refine X_end (by rw [q_up_eq]; decide) ?_
    rw [er]
    exact kf hin
  have self : q_up ρ 136 74 (ρ 136 74 + 0) = ρ := by
    funext a j
    unfold q_up
    split
    · rename_i h; rw [h.1, h.2]; omega
    · rfl
  have twice : ∀ y : Int, q_up (q_up ρ 136 74 (ρ 136 74 + 1)) 136 74 y = q_up ρ 136 74 y := by
    intro y
    funext a j
    unfold q_up
    split <;> rfl
  refine X_hd (D := D + 2) hx h70 i1 ?_
  simp only [k143_0, k143_1, k143_4, k143_5, k143_6, k143_7, k143_8, k143_11, k143_12, k143_13, qt_1, ql_1, qt_2, ql_2, qt_3, ql_3, qt_6, ql_6, qt_7, ql_7, qt_8, ql_8, qt_10, ql_10, qt_11, ql_11, qt_12, ql_12, qt_13, ql_13, qt_14, ql_14, qt_15, ql_15, qt_16, ql_16, qt_17, ql_17, qt_18, ql_18, qt_19, ql_19, qt_20, ql_20, qt_21, ql_21, qt_22, ql_22, qt_23, ql_23, qt_24, ql_24, qt_25, ql_25, qt_26, ql_26, qt_28, ql_28, qt_29, ql_29, qt_30, ql_30, qt_31, ql_31, qt_32, ql_32, qt_33, ql_33, qt_34, ql_34, qt_35, ql_35, qt_36, ql_36, qt_37, ql_37, qt_38, ql_38, qt_40, ql_40, qt_41, ql_41, qt_42, ql_42, qt_43, ql_43, qt_44, ql_44, qt_45, ql_45, qt_46, ql_46, qt_47, ql_47, qt_48, ql_48, qt_49, ql_49, qt_50, ql_50, qt_51, ql_51, qt_52, ql_52, qt_53, ql_53, qt_54, ql_54, qt_56, ql_56, qt_57, ql_57, qt_58, ql_58, qt_59, ql_59, qt_60, ql_60, qt_61, ql_61, qt_62, ql_62, qt_63, ql_63, qt_64, ql_64, qt_65, ql_65, qt_67, ql_67, qt_68, ql_68, qt_69, ql_69, qt_70, ql_70, qt_71, ql_71, qt_73, ql_73, qt_74, ql_74, qt_75, ql_75, qt_76, ql_76, qt_78, ql_78, qt_79, ql_79, qt_80, ql_80, qt_81, ql_81, qt_82, ql_82, qt_83, ql_83, qt_84, ql_84, qt_85, ql_85, qt_86, ql_86, qt_87, ql_87, qt_89, ql_89, qt_90, ql_90, qt_91, ql_91, qt_92, ql_92, qt_93, ql_93, qt_94, ql_94, qt_95, ql_95, qt_96, ql_96, qt_97, ql_97, qt_98, ql_98, qt_99, ql_99, qt_100, ql_100, qt_101, ql_101, qt_102, ql_102, qt_103, ql_103, qt_105, ql_105, qt_106, ql_106, qt_107, ql_107, qt_108, ql_108, qt_109, ql_109, qt_110, ql_110, qt_111, ql_111, qt_113, ql_113, qt_114, ql_114, qt_115, ql_115, qt_116, ql_116, qt_117, ql_117, qt_118, ql_118, qt_119, ql_119, qt_120, ql_120, qt_121, ql_121, qt_122, ql_122, qt_123, ql_123, qt_124, ql_124, qt_125, ql_125, qt_126, ql_126, qt_127, ql_127, qt_129, ql_129, qt_130, ql_130, qt_131, ql_131, qt_132, ql_132, qt_133, ql_133, qt_134, ql_134, qt_135, ql_135, qt_137, ql_137, qt_138, ql_138, qt_139, ql_139, qt_140, ql_140, qt_141, ql_141, qt_142, ql_142, qt_143, ql_143, qt_144, ql_144, qt_145, ql_145, qt_146, ql_146, qt_147, ql_147, qt_148, ql_148, qt_149, ql_149, qt_150, ql_150, qt_151, ql_151, qt_152, ql_152, qt_153, ql_153, qt_154, ql_154, qt_155, ql_155, qt_156, ql_156, qt_157, ql_157, qt_158, ql_158, qt_159, ql_159, qt_160, ql_160, qt_161, ql_161, qt_162, ql_162, qt_163, ql_163, qt_164, ql_164, qt_165, ql_165, qt_166, ql_166, qt_167, ql_167, qt_168, ql_168, qt_169, ql_169, qt_170, ql_170, qt_171, ql_171, qt_172, ql_172, qt_173, ql_173, qt_174, ql_174, qt_175, ql_175, qt_176, ql_176, qt_177, ql_177, qt_178, ql_178, qt_179, ql_179, qt_180, ql_180, qt_181, ql_181, qt_182, ql_182, qt_183, ql_183, qt_184, ql_184, qt_185, ql_185, qt_186, ql_186, qt_187, ql_187, qt_188, ql_188, true_implies, false_implies, not_true_eq_false, not_false_eq_true, true_and, and_true, implies_true, or_true, true_or, or_false, false_or, Int.reduceEq, Int.one_ne_zero, Nat.reduceEqDiff, i0, i3, e1, e2]
  show qx sc (D + 2) 143 93 _ _ _ _ _ _
  simp only [k143_93, k143_94, k143_95, k143_96]
  unfold R_cn at fin0 fin1
  refine m199 (D := D) hx hp hr k0 kK (by have := bc.1; omega) hBL (Or.inl rfl) (fun q => ?_) (fun q => ?_)
  · -- below isn't asked
    rw [if_neg (by decide)] at q
    have h0 : 0 ≤ σ 78 (gK G k).2.2 := okD (by rcases q with q | q; exact Or.inl q.2; exact Or.inr q.2)
    simp only [q_kn_v, k143_99, k143_102, k143_103, k143_104, k143_105, true_implies, false_implies, not_true_eq_false, not_false_eq_true, true_and, and_true, implies_true, or_true, true_or, or_false, false_or, Int.reduceEq, Int.one_ne_zero, Nat.reduceEqDiff]
    refine m199 (D := D) hx hp hr k0 kK (by have := bc.1; omega) hBL (Or.inr rfl) (fun q2 => ?_) (fun q2 => ?_)
    · rw [if_pos rfl] at q2
      have h1 : σ 78 (gK G k).2.2 < σ 85 (gK G k).2.1 := okU (by rcases q2 with q2 | q2; exact Or.inl q2.2; exact Or.inr q2.2)
      simp only [q_kn_v, k143_108, true_implies, false_implies, not_true_eq_false, not_false_eq_true, true_and, and_true, implies_true, or_true, true_or, or_false, false_or, Int.reduceEq, Int.one_ne_zero, Nat.reduceEqDiff]
      refine fin0 ρ _ _ ?_ ⟨h0, h1⟩
      by_cases hf : ¬ (gdr G pl V k).1 = -1 ∧ σ 79 (gdr G pl V k).1 = 1
      · rw [if_pos hf, self]
      · have q' : 0 < how ∧ shD G pl V (-1) k = 1 := by rcases q with q | q; exact q; exact absurd q.2 hf
        have q2' : 0 < how ∧ shU G pl V (-1) k = 1 := by rcases q2 with q2 | q2; exact q2; exact absurd q2.2 hf
        rw [if_neg hf, if_neg (by omega), if_neg (by omega), self]
    · rw [if_pos rfl] at q2 ⊢
      have hf : ¬ (¬ (gdr G pl V k).1 = -1 ∧ σ 79 (gdr G pl V k).1 = 1) := fun hf => q2 (Or.inr ⟨fl2 hf, hf⟩)
      have q' : 0 < how ∧ shD G pl V (-1) k = 1 := by rcases q with q | q; exact q; exact absurd q.2 hf
      have hu : shU G pl V (-1) k = 0 := by rcases sU with h | h; exact h; exact absurd (Or.inl ⟨q'.1, h⟩) q2
      have er : q_up ρ 136 74 (ρ 136 74 + 1) = q_up ρ 136 74 (ρ 136 74 + (if ¬ (gdr G pl V k).1 = -1 ∧ σ 79 (gdr G pl V k).1 = 1 then 0 else if how = 0 ∨ shD G pl V (-1) k = 0 then (if σ 78 (gK G k).2.2 < 0 then 1 else if how = 0 ∨ shU G pl V (-1) k = 0 then 2 else 1) else if how = 0 ∨ shU G pl V (-1) k = 0 then 1 else 0)) := by
        rw [if_neg hf, if_neg (by omega), if_pos (Or.inr hu)]
      by_cases g : σ 78 (gK G k).2.2 < σ 85 (gK G k).2.1
      · rw [if_pos g]
        simp only [q_kn_v, k143_108, true_implies, false_implies, not_true_eq_false, not_false_eq_true, true_and, and_true, implies_true, or_true, true_or, or_false, false_or, Int.reduceEq, Int.one_ne_zero, Nat.reduceEqDiff]
        exact fin0 _ _ _ er ⟨h0, g⟩
      · rw [if_neg g]
        simp only [q_kn_v, k143_108, true_implies, false_implies, not_true_eq_false, not_false_eq_true, true_and, and_true, implies_true, or_true, true_or, or_false, false_or, Int.reduceEq, Int.one_ne_zero, Nat.reduceEqDiff]
        exact fin1 _ _ er (fun z => g z.2)
  · -- below is asked
    rw [if_neg (by decide)] at q ⊢
    have hf : ¬ (¬ (gdr G pl V k).1 = -1 ∧ σ 79 (gdr G pl V k).1 = 1) := fun hf => q (Or.inr ⟨fl2 hf, hf⟩)
    have hd0 : how = 0 ∨ shD G pl V (-1) k = 0 := by
      by_cases z : how = 0
      · exact Or.inl z
      · rcases sD with h | h
        · exact Or.inr h
        · exact absurd (Or.inl ⟨by omega, h⟩) q
    by_cases g0 : σ 78 (gK G k).2.2 < 0
    · rw [if_pos g0]
      simp only [q_kn_v, k143_99, true_implies, false_implies, not_true_eq_false, not_false_eq_true, true_and, and_true, implies_true, or_true, true_or, or_false, false_or, Int.reduceEq, Int.one_ne_zero, Nat.reduceEqDiff]
      refine fin1 _ _ ?_ (by omega)
      rw [if_neg hf, if_pos hd0, if_pos g0]
    · rw [if_neg g0]
      simp only [q_kn_v, k143_99, k143_102, k143_103, k143_104, k143_105, true_implies, false_implies, not_true_eq_false, not_false_eq_true, true_and, and_true, implies_true, or_true, true_or, or_false, false_or, Int.reduceEq, Int.one_ne_zero, Nat.reduceEqDiff]
      have f1 : FRR ρ (q_up ρ 136 74 (ρ 136 74 + 1)) := FRR_136 (by decide)
      refine m199 (D := D) (RRX_of hx f1) hp (RLT_4 hr) k0 kK (by rw [q_up_eq]; have := bc.1; omega) hBL (Or.inr rfl) (fun q2 => ?_) (fun q2 => ?_)
      · rw [if_pos rfl] at q2
        have q2' : 0 < how ∧ shU G pl V (-1) k = 1 := by rcases q2 with q2 | q2; exact q2; exact absurd q2.2 hf
        have h1 : σ 78 (gK G k).2.2 < σ 85 (gK G k).2.1 := okU (Or.inl q2'.2)
        simp only [q_kn_v, k143_108, true_implies, false_implies, not_true_eq_false, not_false_eq_true, true_and, and_true, implies_true, or_true, true_or, or_false, false_or, Int.reduceEq, Int.one_ne_zero, Nat.reduceEqDiff]
        refine fin0 _ _ _ ?_ ⟨by omega, h1⟩
        rw [if_neg hf, if_pos hd0, if_neg g0, if_neg (by omega)]
      · rw [if_pos rfl] at q2 ⊢
        have hu : how = 0 ∨ shU G pl V (-1) k = 0 := by
          by_cases z : how = 0
          · exact Or.inl z
          · rcases sU with h | h
            · exact Or.inr h
            · exact absurd (Or.inl ⟨by omega, h⟩) q2
        have er : q_up (q_up ρ 136 74 (ρ 136 74 + 1)) 136 74 (q_up ρ 136 74 (ρ 136 74 + 1) 136 74 + 1) = q_up ρ 136 74 (ρ 136 74 + (if ¬ (gdr G pl V k).1 = -1 ∧ σ 79 (gdr G pl V k).1 = 1 then 0 else if how = 0 ∨ shD G pl V (-1) k = 0 then (if σ 78 (gK G k).2.2 < 0 then 1 else if how = 0 ∨ shU G pl V (-1) k = 0 then 2 else 1) else if how = 0 ∨ shU G pl V (-1) k = 0 then 1 else 0)) := by
          rw [if_neg hf, if_pos hd0, if_neg g0, if_pos hu, twice, q_up_eq, show ρ 136 74 + 1 + 1 = ρ 136 74 + 2 by omega]
        by_cases g : σ 78 (gK G k).2.2 < σ 85 (gK G k).2.1
        · have g' : q_up σ 87 4 (σ 87 4 + 1) 78 (gK G k).2.2 < q_up σ 87 4 (σ 87 4 + 1) 85 (gK G k).2.1 := g
          rw [if_pos g']
          simp only [q_kn_v, k143_108, true_implies, false_implies, not_true_eq_false, not_false_eq_true, true_and, and_true, implies_true, or_true, true_or, or_false, false_or, Int.reduceEq, Int.one_ne_zero, Nat.reduceEqDiff]
          exact fin0 _ _ _ er ⟨by omega, g⟩
        · have g' : ¬ q_up σ 87 4 (σ 87 4 + 1) 78 (gK G k).2.2 < q_up σ 87 4 (σ 87 4 + 1) 85 (gK G k).2.1 := g
          rw [if_neg g']
          simp only [q_kn_v, k143_108, true_implies, false_implies, not_true_eq_false, not_false_eq_true, true_and, and_true, implies_true, or_true, true_or, or_false, false_or, Int.reduceEq, Int.one_ne_zero, Nat.reduceEqDiff]
          exact fin1 _ _ er (fun z => g z.2)
end RRY
