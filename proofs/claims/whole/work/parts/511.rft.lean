/-! what tests, checks and values tell, in the reference -/
section RFT
variable {sc : Nat × (Nat → Int32)} {D : Nat} {bb : Bool} {Q : QP} {V S K Ln Cn v : Nat} {σ : St} {G : GT} {pl : Int → Int} {b n x y wo : Int} {Y : Nat → Option Int}
/-- behind the choice of the side -/
theorem m194_b {s hd lf oth by_ : Int} {O R : Option Int} {l2 : V2} (hs : 0 ≤ s ∧ s < 40) (h164 : σ 164 s = by_) (hhd : hd = 0 ∨ hd = 1) (hlf : lf = 0 ∨ lf = 1) (hO : RSM O) (hside : ∀ Q' : QP, Q' (.inl (some (vi (enR b O)))) bb σ → qx sc (D + 1) 193 0 [vr 136, vi b, vi oth, vn] [] (0, 0) bb σ Q')
    (r1 : by_ = 2 → hd = 1 → R = O) (r2 : by_ = 2 → hd = 0 → R = none) (r3 : ¬ by_ = 2 → (hd = lf ↔ b = 3) → R = none) (r4 : ¬ by_ = 2 → ¬ (hd = lf ↔ b = 3) → R = l_add O (if (by_ = 0 ↔ hd = 1) then -1 else 0))
    (kk : Q (.inl (some (vi (enR b R)))) bb σ) : qx sc (D + 2) 194 78 [vr 136, vi b, l2, vi s, vi hd, vi lf, vi oth, vn, vn, vn] [] (0, 0) bb σ Q := by
  obtain ⟨s0, s40⟩ := hs
  simp only [k194_78, k194_79, k194_82, k194_83, k194_84, k194_86, k194_88, k194_89, qt_1, ql_1, qt_2, ql_2, qt_3, ql_3, qt_6, ql_6, qt_7, ql_7, qt_8, ql_8, qt_10, ql_10, qt_11, ql_11, qt_12, ql_12, qt_13, ql_13, qt_14, ql_14, qt_15, ql_15, qt_16, ql_16, qt_17, ql_17, qt_18, ql_18, qt_19, ql_19, qt_20, ql_20, qt_21, ql_21, qt_22, ql_22, qt_23, ql_23, qt_24, ql_24, qt_25, ql_25, qt_26, ql_26, qt_28, ql_28, qt_29, ql_29, qt_30, ql_30, qt_31, ql_31, qt_32, ql_32, qt_33, ql_33, qt_34, ql_34, qt_35, ql_35, qt_36, ql_36, qt_37, ql_37, qt_38, ql_38, qt_40, ql_40, qt_41, ql_41, qt_42, ql_42, qt_43, ql_43, qt_44, ql_44, qt_45, ql_45, qt_46, ql_46, qt_47, ql_47, qt_48, ql_48, qt_49, ql_49, qt_50, ql_50, qt_51, ql_51, qt_52, ql_52, qt_53, ql_53, qt_54, ql_54, qt_56, ql_56, qt_57, ql_57, qt_58, ql_58, qt_59, ql_59, qt_60, ql_60, qt_61, ql_61, qt_62, ql_62, qt_63, ql_63, qt_64, ql_64, qt_65, ql_65, qt_67, ql_67, qt_68, ql_68, qt_69, ql_69, qt_70, ql_70, qt_71, ql_71, qt_73, ql_73, qt_74, ql_74, qt_75, ql_75, qt_76, ql_76, qt_78, ql_78, qt_79, ql_79, qt_80, ql_80, qt_81, ql_81, qt_82, ql_82, qt_83, ql_83, qt_84, ql_84, qt_85, ql_85, qt_86, ql_86, qt_87, ql_87, qt_89, ql_89, qt_90, ql_90, qt_91, ql_91, qt_92, ql_92, qt_93, ql_93, qt_94, ql_94, qt_95, ql_95, qt_96, ql_96, qt_97, ql_97, qt_98, ql_98, qt_99, ql_99, qt_100, ql_100, qt_101, ql_101, qt_102, ql_102, qt_103, ql_103, qt_105, ql_105, qt_106, ql_106, qt_107, ql_107, qt_108, ql_108, qt_109, ql_109, qt_110, ql_110, qt_111, ql_111, qt_113, ql_113, qt_114, ql_114, qt_115, ql_115, qt_116, ql_116, qt_117, ql_117, qt_118, ql_118, qt_119, ql_119, qt_120, ql_120, qt_121, ql_121, qt_122, ql_122, qt_123, ql_123, qt_124, ql_124, qt_125, ql_125, qt_126, ql_126, qt_127, ql_127, qt_129, ql_129, qt_130, ql_130, qt_131, ql_131, qt_132, ql_132, qt_133, ql_133, qt_134, ql_134, qt_135, ql_135, qt_137, ql_137, qt_138, ql_138, qt_139, ql_139, qt_140, ql_140, qt_141, ql_141, qt_142, ql_142, qt_143, ql_143, qt_144, ql_144, qt_145, ql_145, qt_146, ql_146, qt_147, ql_147, qt_148, ql_148, qt_149, ql_149, qt_150, ql_150, qt_151, ql_151, qt_152, ql_152, qt_153, ql_153, qt_154, ql_154, qt_155, ql_155, qt_156, ql_156, qt_157, ql_157, qt_158, ql_158, qt_159, ql_159, qt_160, ql_160, qt_161, ql_161, qt_162, ql_162, qt_163, ql_163, qt_164, ql_164, qt_165, ql_165, qt_166, ql_166, qt_167, ql_167, qt_168, ql_168, qt_169, ql_169, qt_170, ql_170, qt_171, ql_171, qt_172, ql_172, qt_173, ql_173, qt_174, ql_174, qt_175, ql_175, qt_176, ql_176, qt_177, ql_177, qt_178, ql_178, qt_179, ql_179, qt_180, ql_180, qt_181, ql_181, qt_182, ql_182, qt_183, ql_183, qt_184, ql_184, qt_185, ql_185, qt_186, ql_186, qt_187, ql_187, qt_188, ql_188, true_implies, false_implies, not_true_eq_false, not_false_eq_true, true_and, and_true, implies_true, or_true, true_or, or_false, false_or, Int.reduceEq, Int.one_ne_zero, Nat.reduceEqDiff, s0, s40, h164]
  refine ⟨fun g => ?_, fun g => ?_⟩
  · rcases hhd with h | h
    · subst h
      simp only [k194_92, k194_94, k194_107, k194_108, k194_109, true_implies, false_implies, not_true_eq_false, not_false_eq_true, true_and, and_true, implies_true, or_true, true_or, or_false, false_or, Int.reduceEq, Int.one_ne_zero, Nat.reduceEqDiff]
      refine m188 ?_
      simp only [q_kn_v, k194_112]
      rw [← r2 g rfl]
      exact kk
    · subst h
      simp only [k194_92, k194_94, k194_97, k194_98, k194_99, k194_101, true_implies, false_implies, not_true_eq_false, not_false_eq_true, true_and, and_true, implies_true, or_true, true_or, or_false, false_or, Int.reduceEq, Int.one_ne_zero, Nat.reduceEqDiff]
      refine hside _ ?_
      simp only [q_kn_v, k194_104, k194_112]
      rw [← r1 g rfl]
      exact kk
  · have no : ∀ {l8 : V2}, (hd = lf ↔ b = 3) → qx sc (D + 2) 194 142 [vr 136, vi b, l2, vi s, vi hd, vi lf, vi oth, vi by_, l8, vn] [] (0, 0) bb σ Q := by
      intro l8 he
      simp only [k194_142, k194_143, k194_144]
      refine m188 ?_
      simp only [q_kn_v, k194_147]
      rw [← r3 g he]
      exact kk
    have yes : ∀ {l8 : V2}, ¬ (hd = lf ↔ b = 3) → qx sc (D + 2) 194 148 [vr 136, vi b, l2, vi s, vi hd, vi lf, vi oth, vi by_, l8, vn] [] (0, 0) bb σ Q := by
      intro l8 he
      have hR := r4 g he
      have eb := enR_b (b := b) (RSM_BG hO)
      have fin : ∀ (st : Int) {l8 : V2}, (st = 1 ↔ (by_ = 0 ↔ hd = 1)) → (st = 0 ∨ st = 1) → qx sc (D + 2) 194 168 [vr 136, vi b, l2, vi s, vi hd, vi lf, vi oth, vi by_, l8, vn] [vi st] (0, 0) bb σ Q := by
        intro st l8 hst h01
        simp only [k194_168, k194_170, k194_171, k194_172, k194_174]
        refine hside _ ?_
        rcases h01 with h | h
        · subst h
          have hn : ¬ (by_ = 0 ↔ hd = 1) := fun q => absurd (hst.mpr q) (by decide)
          rw [if_neg hn] at hR
          simp only [q_kn_v, k194_177, k194_179, k194_182, k194_183, k194_186, k194_187, k194_188, k194_191, k194_192, k194_195, k194_196, true_implies, false_implies, not_true_eq_false, not_false_eq_true, true_and, and_true, implies_true, or_true, true_or, or_false, false_or, Int.reduceEq, Int.one_ne_zero, Nat.reduceEqDiff]
          refine m182 (by unfold q_R; omega) ?_
          simp only [q_kn_v, k194_199]
          have e := enR_add (b := b) (k := 0) hO
          have e0 : (if b = 3 then -(0 : Int) else 0) = 0 := by split <;> rfl
          rw [e0] at e
          rw [e, ← hR]
          exact kk
        · subst h
          have hn : (by_ = 0 ↔ hd = 1) := hst.mp rfl
          rw [if_pos hn] at hR
          have e := enR_add (b := b) (k := -1) hO
          simp only [q_kn_v, k194_177, k194_179, k194_182, k194_183, k194_186, k194_187, k194_188, k194_191, k194_192, k194_195, k194_196, true_implies, false_implies, not_true_eq_false, not_false_eq_true, true_and, and_true, implies_true, or_true, true_or, or_false, false_or, Int.reduceEq, Int.one_ne_zero, Nat.reduceEqDiff]
          refine ⟨fun b3 => m182 (by unfold q_R; omega) ?_, fun b3 => m182 (by unfold q_R; omega) ?_⟩
          · simp only [q_kn_v, k194_199]
            rw [if_pos b3, Int.neg_neg] at e
            rw [e, ← hR]
            exact kk
          · simp only [q_kn_v, k194_199]
            rw [if_neg b3] at e
            rw [e, ← hR]
            exact kk
      simp only [k194_148, k194_150]
      refine ⟨fun g0 => ?_, fun g0 => ?_⟩
      · simp only [k194_153, k194_154, k194_158, k194_160]
        rcases hhd with h | h
        · subst h
          simp only [true_implies, false_implies, not_true_eq_false, not_false_eq_true, true_and, and_true, implies_true, or_true, true_or, or_false, false_or, Int.reduceEq, Int.one_ne_zero, Nat.reduceEqDiff, k194_167]
          exact fin 0 ⟨fun q => absurd q (by decide), fun q => absurd (q.mp g0) (by decide)⟩ (Or.inl rfl)
        · subst h
          simp only [true_implies, false_implies, not_true_eq_false, not_false_eq_true, true_and, and_true, implies_true, or_true, true_or, or_false, false_or, Int.reduceEq, Int.one_ne_zero, Nat.reduceEqDiff, k194_163, k194_164]
          exact fin 1 ⟨fun _ => ⟨fun _ => rfl, fun _ => g0⟩, fun _ => rfl⟩ (Or.inr rfl)
      · simp only [k194_157, k194_158, k194_160]
        rcases hhd with h | h
        · subst h
          simp only [true_implies, false_implies, not_true_eq_false, not_false_eq_true, true_and, and_true, implies_true, or_true, true_or, or_false, false_or, Int.reduceEq, Int.one_ne_zero, Nat.reduceEqDiff, k194_163, k194_164]
          exact fin 1 ⟨fun _ => ⟨fun q => absurd q g0, fun q => absurd q (by decide)⟩, fun _ => rfl⟩ (Or.inr rfl)
        · subst h
          simp only [true_implies, false_implies, not_true_eq_false, not_false_eq_true, true_and, and_true, implies_true, or_true, true_or, or_false, false_or, Int.reduceEq, Int.one_ne_zero, Nat.reduceEqDiff, k194_167]
          exact fin 0 ⟨fun q => absurd q (by decide), fun q => absurd (q.mpr rfl) g0⟩ (Or.inl rfl)
    have at127 : ∀ l8 : Int, (l8 = 0 ∨ l8 = 1) → (l8 = 1 ↔ hd = lf) → qx sc (D + 2) 194 125 [vr 136, vi b, l2, vi s, vi hd, vi lf, vi oth, vi by_, vn, vn] [vi l8] (0, 0) bb σ Q := by
      intro l8 h01 hl
      simp only [k194_125, k194_127, k194_129, k194_130, k194_131]
      refine ⟨fun b3 => ?_, fun b3 => ?_⟩
      · simp only [k194_134, k194_135, k194_139]
        exact ⟨fun e => no ⟨fun _ => b3, fun _ => hl.mp e⟩, fun e => yes (fun q => e (hl.mpr (q.mpr b3)))⟩
      · simp only [k194_138, k194_139]
        refine ⟨fun e => no ⟨fun q => ?_, fun q => absurd q b3⟩, fun e => yes (fun q => b3 (q.mp (hl.mp (by omega))))⟩
        have := hl.mpr q
        omega
    simp only [k194_113, k194_115, k194_117]
    refine ⟨fun e => ?_, fun e => ?_⟩
    · simp only [k194_120, k194_121]
      exact at127 1 (Or.inr rfl) ⟨fun _ => e, fun _ => rfl⟩
    · simp only [k194_124]
      exact at127 0 (Or.inl rfl) ⟨fun q => absurd q (by decide), fun q => absurd q e⟩
theorem F_sk1 {pl : Int → Int} {q : Int × Int} (h : VALs pl q) : F_sk q.1 = 1 ↔ q.1 = 3 := by
  unfold F_sk
  rcases h with ⟨a, -⟩ | ⟨a, -⟩ | ⟨a, -⟩ <;> rw [a] <;> decide
/-- ofTest -/
theorem m194 (hk : RK σ G pl V S K Ln Cn) (hp : PRO G pl V S K Ln) (hx : VXP G V S K) (hq : QPL (q_of pl)) (hY : BNR σ b V Y) (hYs : ∀ w : Nat, w < v → RSM (Y w)) (hb : 0 ≤ b ∧ b ≤ 3) (hv : v < V) (hh : (gV G v).1.2.1 = 3 ∨ (gV G v).1.2.1 = 4) (kk : Q (.inl (some (vi (enR b (l_tm Y (e_tm (q_of pl) b (e_tt b (gV G v)))))))) bb σ) (kk2 : RBG (l_tm Y (e_tm (q_of pl) b (e_tt b (gV G v)))) → True) : qx sc (D + 2) 194 0 [vr 136, vi b, vi v, vn, vn, vn, vn, vn, vn, vn] [] (0, 0) bb σ Q := by
  have hw := hp.1 v (by omega) (by omega)
  have hvx := (hx v (by omega) (by omega)).2 hh
  obtain ⟨s0, s1⟩ := hvx.1
  obtain ⟨-, hkd, hmd⟩ := hvx
  have hb' := hp.2.1
  have s40 : (gV G v).1.2.2.1 < 40 := by omega
  obtain ⟨r147, r148, r149, -⟩ := hk.2.2.2.2.2.1 v (by omega) (by omega)
  obtain ⟨⟨-, -, -, -, -, hT⟩, hM⟩ := hk.2.2.1 _ s0 s1
  obtain ⟨q164, q165, q166, q165', q166'⟩ := hT hkd
  obtain ⟨q167, q167'⟩ := hM hmd
  have hW3 : W3 pl (gR G (gV G v).1.2.2.1).2.2 (gM G (gV G v).1.2.2.1).2.2.2 v (gV G v) := by
    obtain ⟨-, h⟩ := hw
    rcases h with h | h | h | h | h | h
    · have := h.1; omega
    · have := h.1; omega
    · have := h.1; omega
    · exact h
    · have := h.1; omega
    · have := h.1; omega
  obtain ⟨-, -, -, ht, ⟨e0, e1⟩, hf⟩ := hW3
  generalize hs : (gV G v).1.2.2.1 = s at *
  generalize (gR G s).2.2 = T at *
  generalize hsv : (gM G s).2.2.2 = sv at *
  obtain ⟨ht0, hl, hr⟩ := ht
  have v0 : (0 : Int) ≤ (v : Int) := by omega
  have v7 : (v : Int) < 700 := by omega
  have s20 : 0 ≤ 2 * s := by omega
  have s28 : 2 * s < 80 := by omega
  have s29 : 2 * s + 1 < 80 := by omega
  -- what a side tells is small
  have small : ∀ (kd nn : Int), VALs pl (kd, nn) ∨ kd = 3 → (kd = 3 → 0 ≤ nn ∧ nn < v) → RSM (sdO (q_of pl) b Y kd nn) := by
    intro kd nn hv' h3
    unfold sdO
    by_cases k1 : kd = 1
    · rw [if_pos k1]
      intro a ha
      cases ha
      unfold VALs at hv'
      split
      · dsimp only at hv'; omega
      · have := hq b (by omega) (by omega)
        dsimp only at hv'
        omega
    · rw [if_neg k1]
      by_cases k2 : kd = 2
      · rw [if_pos k2]
        unfold VALs at hv'
        dsimp only at hv'
        have := hq nn (by omega) (by omega)
        intro a ha
        split at ha
        · cases ha; omega
        · split at ha
          · cases ha; omega
          · cases ha
      · rw [if_neg k2]
        have h3' : kd = 3 := by
          unfold VALs at hv'
          dsimp only at hv'
          omega
        have := h3 h3'
        exact hYs _ (by omega)
  have hd01 : ∃ hd : Int, (hd = 0 ∨ hd = 1) ∧ (hd = 1 ↔ (gV G v).1.2.1 = 3) ∧ qx sc (D + 2) 194 0 [vr 136, vi b, vi v, vn, vn, vn, vn, vn, vn, vn] [] (0, 0) bb σ Q = qx sc (D + 2) 194 24 [vr 136, vi b, vi v, vi s, vi hd, vn, vn, vn, vn, vn] [] (0, 0) bb σ Q := by
    rcases hh with h | h
    · refine ⟨1, Or.inr rfl, ⟨fun _ => h, fun _ => rfl⟩, ?_⟩
      simp only [k194_0, k194_1, k194_4, k194_5, k194_6, k194_7, k194_8, k194_11, k194_12, k194_13, k194_14, k194_17, k194_18, k194_21, k194_22, qt_1, ql_1, qt_2, ql_2, qt_3, ql_3, qt_6, ql_6, qt_7, ql_7, qt_8, ql_8, qt_10, ql_10, qt_11, ql_11, qt_12, ql_12, qt_13, ql_13, qt_14, ql_14, qt_15, ql_15, qt_16, ql_16, qt_17, ql_17, qt_18, ql_18, qt_19, ql_19, qt_20, ql_20, qt_21, ql_21, qt_22, ql_22, qt_23, ql_23, qt_24, ql_24, qt_25, ql_25, qt_26, ql_26, qt_28, ql_28, qt_29, ql_29, qt_30, ql_30, qt_31, ql_31, qt_32, ql_32, qt_33, ql_33, qt_34, ql_34, qt_35, ql_35, qt_36, ql_36, qt_37, ql_37, qt_38, ql_38, qt_40, ql_40, qt_41, ql_41, qt_42, ql_42, qt_43, ql_43, qt_44, ql_44, qt_45, ql_45, qt_46, ql_46, qt_47, ql_47, qt_48, ql_48, qt_49, ql_49, qt_50, ql_50, qt_51, ql_51, qt_52, ql_52, qt_53, ql_53, qt_54, ql_54, qt_56, ql_56, qt_57, ql_57, qt_58, ql_58, qt_59, ql_59, qt_60, ql_60, qt_61, ql_61, qt_62, ql_62, qt_63, ql_63, qt_64, ql_64, qt_65, ql_65, qt_67, ql_67, qt_68, ql_68, qt_69, ql_69, qt_70, ql_70, qt_71, ql_71, qt_73, ql_73, qt_74, ql_74, qt_75, ql_75, qt_76, ql_76, qt_78, ql_78, qt_79, ql_79, qt_80, ql_80, qt_81, ql_81, qt_82, ql_82, qt_83, ql_83, qt_84, ql_84, qt_85, ql_85, qt_86, ql_86, qt_87, ql_87, qt_89, ql_89, qt_90, ql_90, qt_91, ql_91, qt_92, ql_92, qt_93, ql_93, qt_94, ql_94, qt_95, ql_95, qt_96, ql_96, qt_97, ql_97, qt_98, ql_98, qt_99, ql_99, qt_100, ql_100, qt_101, ql_101, qt_102, ql_102, qt_103, ql_103, qt_105, ql_105, qt_106, ql_106, qt_107, ql_107, qt_108, ql_108, qt_109, ql_109, qt_110, ql_110, qt_111, ql_111, qt_113, ql_113, qt_114, ql_114, qt_115, ql_115, qt_116, ql_116, qt_117, ql_117, qt_118, ql_118, qt_119, ql_119, qt_120, ql_120, qt_121, ql_121, qt_122, ql_122, qt_123, ql_123, qt_124, ql_124, qt_125, ql_125, qt_126, ql_126, qt_127, ql_127, qt_129, ql_129, qt_130, ql_130, qt_131, ql_131, qt_132, ql_132, qt_133, ql_133, qt_134, ql_134, qt_135, ql_135, qt_137, ql_137, qt_138, ql_138, qt_139, ql_139, qt_140, ql_140, qt_141, ql_141, qt_142, ql_142, qt_143, ql_143, qt_144, ql_144, qt_145, ql_145, qt_146, ql_146, qt_147, ql_147, qt_148, ql_148, qt_149, ql_149, qt_150, ql_150, qt_151, ql_151, qt_152, ql_152, qt_153, ql_153, qt_154, ql_154, qt_155, ql_155, qt_156, ql_156, qt_157, ql_157, qt_158, ql_158, qt_159, ql_159, qt_160, ql_160, qt_161, ql_161, qt_162, ql_162, qt_163, ql_163, qt_164, ql_164, qt_165, ql_165, qt_166, ql_166, qt_167, ql_167, qt_168, ql_168, qt_169, ql_169, qt_170, ql_170, qt_171, ql_171, qt_172, ql_172, qt_173, ql_173, qt_174, ql_174, qt_175, ql_175, qt_176, ql_176, qt_177, ql_177, qt_178, ql_178, qt_179, ql_179, qt_180, ql_180, qt_181, ql_181, qt_182, ql_182, qt_183, ql_183, qt_184, ql_184, qt_185, ql_185, qt_186, ql_186, qt_187, ql_187, qt_188, ql_188, true_implies, false_implies, not_true_eq_false, not_false_eq_true, true_and, and_true, implies_true, or_true, true_or, or_false, false_or, Int.reduceEq, Int.one_ne_zero, Nat.reduceEqDiff, v0, v7, r149, r148, h]
    · refine ⟨0, Or.inl rfl, ⟨fun q => absurd q (by decide), fun q => by omega⟩, ?_⟩
      simp only [k194_0, k194_1, k194_4, k194_5, k194_6, k194_7, k194_8, k194_11, k194_12, k194_13, k194_14, k194_17, k194_18, k194_21, k194_22, qt_1, ql_1, qt_2, ql_2, qt_3, ql_3, qt_6, ql_6, qt_7, ql_7, qt_8, ql_8, qt_10, ql_10, qt_11, ql_11, qt_12, ql_12, qt_13, ql_13, qt_14, ql_14, qt_15, ql_15, qt_16, ql_16, qt_17, ql_17, qt_18, ql_18, qt_19, ql_19, qt_20, ql_20, qt_21, ql_21, qt_22, ql_22, qt_23, ql_23, qt_24, ql_24, qt_25, ql_25, qt_26, ql_26, qt_28, ql_28, qt_29, ql_29, qt_30, ql_30, qt_31, ql_31, qt_32, ql_32, qt_33, ql_33, qt_34, ql_34, qt_35, ql_35, qt_36, ql_36, qt_37, ql_37, qt_38, ql_38, qt_40, ql_40, qt_41, ql_41, qt_42, ql_42, qt_43, ql_43, qt_44, ql_44, qt_45, ql_45, qt_46, ql_46, qt_47, ql_47, qt_48, ql_48, qt_49, ql_49, qt_50, ql_50, qt_51, ql_51, qt_52, ql_52, qt_53, ql_53, qt_54, ql_54, qt_56, ql_56, qt_57, ql_57, qt_58, ql_58, qt_59, ql_59, qt_60, ql_60, qt_61, ql_61, qt_62, ql_62, qt_63, ql_63, qt_64, ql_64, qt_65, ql_65, qt_67, ql_67, qt_68, ql_68, qt_69, ql_69, qt_70, ql_70, qt_71, ql_71, qt_73, ql_73, qt_74, ql_74, qt_75, ql_75, qt_76, ql_76, qt_78, ql_78, qt_79, ql_79, qt_80, ql_80, qt_81, ql_81, qt_82, ql_82, qt_83, ql_83, qt_84, ql_84, qt_85, ql_85, qt_86, ql_86, qt_87, ql_87, qt_89, ql_89, qt_90, ql_90, qt_91, ql_91, qt_92, ql_92, qt_93, ql_93, qt_94, ql_94, qt_95, ql_95, qt_96, ql_96, qt_97, ql_97, qt_98, ql_98, qt_99, ql_99, qt_100, ql_100, qt_101, ql_101, qt_102, ql_102, qt_103, ql_103, qt_105, ql_105, qt_106, ql_106, qt_107, ql_107, qt_108, ql_108, qt_109, ql_109, qt_110, ql_110, qt_111, ql_111, qt_113, ql_113, qt_114, ql_114, qt_115, ql_115, qt_116, ql_116, qt_117, ql_117, qt_118, ql_118, qt_119, ql_119, qt_120, ql_120, qt_121, ql_121, qt_122, ql_122, qt_123, ql_123, qt_124, ql_124, qt_125, ql_125, qt_126, ql_126, qt_127, ql_127, qt_129, ql_129, qt_130, ql_130, qt_131, ql_131, qt_132, ql_132, qt_133, ql_133, qt_134, ql_134, qt_135, ql_135, qt_137, ql_137, qt_138, ql_138, qt_139, ql_139, qt_140, ql_140, qt_141, ql_141, qt_142, ql_142, qt_143, ql_143, qt_144, ql_144, qt_145, ql_145, qt_146, ql_146, qt_147, ql_147, qt_148, ql_148, qt_149, ql_149, qt_150, ql_150, qt_151, ql_151, qt_152, ql_152, qt_153, ql_153, qt_154, ql_154, qt_155, ql_155, qt_156, ql_156, qt_157, ql_157, qt_158, ql_158, qt_159, ql_159, qt_160, ql_160, qt_161, ql_161, qt_162, ql_162, qt_163, ql_163, qt_164, ql_164, qt_165, ql_165, qt_166, ql_166, qt_167, ql_167, qt_168, ql_168, qt_169, ql_169, qt_170, ql_170, qt_171, ql_171, qt_172, ql_172, qt_173, ql_173, qt_174, ql_174, qt_175, ql_175, qt_176, ql_176, qt_177, ql_177, qt_178, ql_178, qt_179, ql_179, qt_180, ql_180, qt_181, ql_181, qt_182, ql_182, qt_183, ql_183, qt_184, ql_184, qt_185, ql_185, qt_186, ql_186, qt_187, ql_187, qt_188, ql_188, true_implies, false_implies, not_true_eq_false, not_false_eq_true, true_and, and_true, implies_true, or_true, true_or, or_false, false_or, Int.reduceEq, Int.one_ne_zero, Nat.reduceEqDiff, v0, v7, r149, r148, h]
  obtain ⟨hd, hd0, hd1, ehd⟩ := hd01
  rw [ehd]
  have hT3 := F_sk1 hl
  -- the two cases
  have caseL : T.2.1.1 = 3 → (gV G v).1.1 = T.2.1.2 → qx sc (D + 2) 194 78 [vr 136, vi b, vi v, vi s, vi hd, vi 1, vi (2 * s + 1), vn, vn, vn] [] (0, 0) bb σ Q → qx sc (D + 2) 194 24 [vr 136, vi b, vi v, vi s, vi hd, vn, vn, vn, vn, vn] [] (0, 0) bb σ Q := by
    intro a1 a2 h
    have e1 : F_sk T.2.1.1 = 1 := hT3.mpr a1
    simp only [k194_24, k194_25, k194_28, k194_29, k194_30, k194_31, k194_32, k194_33, k194_36, k194_37, k194_40, k194_41, k194_42, k194_43, k194_46, k194_47, k194_48, k194_49, k194_50, k194_53, k194_54, k194_57, k194_58, k194_60, k194_62, k194_65, k194_66, k194_67, k194_68, k194_69, k194_70, k194_73, k194_74, k194_75, k194_76, qt_1, ql_1, qt_2, ql_2, qt_3, ql_3, qt_6, ql_6, qt_7, ql_7, qt_8, ql_8, qt_10, ql_10, qt_11, ql_11, qt_12, ql_12, qt_13, ql_13, qt_14, ql_14, qt_15, ql_15, qt_16, ql_16, qt_17, ql_17, qt_18, ql_18, qt_19, ql_19, qt_20, ql_20, qt_21, ql_21, qt_22, ql_22, qt_23, ql_23, qt_24, ql_24, qt_25, ql_25, qt_26, ql_26, qt_28, ql_28, qt_29, ql_29, qt_30, ql_30, qt_31, ql_31, qt_32, ql_32, qt_33, ql_33, qt_34, ql_34, qt_35, ql_35, qt_36, ql_36, qt_37, ql_37, qt_38, ql_38, qt_40, ql_40, qt_41, ql_41, qt_42, ql_42, qt_43, ql_43, qt_44, ql_44, qt_45, ql_45, qt_46, ql_46, qt_47, ql_47, qt_48, ql_48, qt_49, ql_49, qt_50, ql_50, qt_51, ql_51, qt_52, ql_52, qt_53, ql_53, qt_54, ql_54, qt_56, ql_56, qt_57, ql_57, qt_58, ql_58, qt_59, ql_59, qt_60, ql_60, qt_61, ql_61, qt_62, ql_62, qt_63, ql_63, qt_64, ql_64, qt_65, ql_65, qt_67, ql_67, qt_68, ql_68, qt_69, ql_69, qt_70, ql_70, qt_71, ql_71, qt_73, ql_73, qt_74, ql_74, qt_75, ql_75, qt_76, ql_76, qt_78, ql_78, qt_79, ql_79, qt_80, ql_80, qt_81, ql_81, qt_82, ql_82, qt_83, ql_83, qt_84, ql_84, qt_85, ql_85, qt_86, ql_86, qt_87, ql_87, qt_89, ql_89, qt_90, ql_90, qt_91, ql_91, qt_92, ql_92, qt_93, ql_93, qt_94, ql_94, qt_95, ql_95, qt_96, ql_96, qt_97, ql_97, qt_98, ql_98, qt_99, ql_99, qt_100, ql_100, qt_101, ql_101, qt_102, ql_102, qt_103, ql_103, qt_105, ql_105, qt_106, ql_106, qt_107, ql_107, qt_108, ql_108, qt_109, ql_109, qt_110, ql_110, qt_111, ql_111, qt_113, ql_113, qt_114, ql_114, qt_115, ql_115, qt_116, ql_116, qt_117, ql_117, qt_118, ql_118, qt_119, ql_119, qt_120, ql_120, qt_121, ql_121, qt_122, ql_122, qt_123, ql_123, qt_124, ql_124, qt_125, ql_125, qt_126, ql_126, qt_127, ql_127, qt_129, ql_129, qt_130, ql_130, qt_131, ql_131, qt_132, ql_132, qt_133, ql_133, qt_134, ql_134, qt_135, ql_135, qt_137, ql_137, qt_138, ql_138, qt_139, ql_139, qt_140, ql_140, qt_141, ql_141, qt_142, ql_142, qt_143, ql_143, qt_144, ql_144, qt_145, ql_145, qt_146, ql_146, qt_147, ql_147, qt_148, ql_148, qt_149, ql_149, qt_150, ql_150, qt_151, ql_151, qt_152, ql_152, qt_153, ql_153, qt_154, ql_154, qt_155, ql_155, qt_156, ql_156, qt_157, ql_157, qt_158, ql_158, qt_159, ql_159, qt_160, ql_160, qt_161, ql_161, qt_162, ql_162, qt_163, ql_163, qt_164, ql_164, qt_165, ql_165, qt_166, ql_166, qt_167, ql_167, qt_168, ql_168, qt_169, ql_169, qt_170, ql_170, qt_171, ql_171, qt_172, ql_172, qt_173, ql_173, qt_174, ql_174, qt_175, ql_175, qt_176, ql_176, qt_177, ql_177, qt_178, ql_178, qt_179, ql_179, qt_180, ql_180, qt_181, ql_181, qt_182, ql_182, qt_183, ql_183, qt_184, ql_184, qt_185, ql_185, qt_186, ql_186, qt_187, ql_187, qt_188, ql_188, true_implies, false_implies, not_true_eq_false, not_false_eq_true, true_and, and_true, implies_true, or_true, true_or, or_false, false_or, Int.reduceEq, Int.one_ne_zero, Nat.reduceEqDiff, v0, v7, s20, s28, q165, q166, r147, e1, a2]
    exact ⟨by unfold q_R; omega, by unfold q_R; omega, by unfold q_R; omega, by unfold q_R; omega, h⟩
  have caseR : ¬ (T.2.1.1 = 3 ∧ (gV G v).1.1 = T.2.1.2) → qx sc (D + 2) 194 78 [vr 136, vi b, vi v, vi s, vi hd, vi 0, vi (2 * s), vn, vn, vn] [] (0, 0) bb σ Q → qx sc (D + 2) 194 24 [vr 136, vi b, vi v, vi s, vi hd, vn, vn, vn, vn, vn] [] (0, 0) bb σ Q := by
    intro a1 h
    by_cases e1 : F_sk T.2.1.1 = 1
    · have a2 : ¬ (gV G v).1.1 = T.2.1.2 := fun q => a1 ⟨hT3.mp e1, q⟩
      simp only [k194_24, k194_25, k194_28, k194_29, k194_30, k194_31, k194_32, k194_33, k194_36, k194_37, k194_40, k194_41, k194_42, k194_43, k194_46, k194_47, k194_48, k194_49, k194_50, k194_53, k194_54, k194_57, k194_58, k194_60, k194_62, k194_65, k194_66, k194_67, k194_68, k194_69, k194_70, k194_73, k194_74, k194_75, k194_76, qt_1, ql_1, qt_2, ql_2, qt_3, ql_3, qt_6, ql_6, qt_7, ql_7, qt_8, ql_8, qt_10, ql_10, qt_11, ql_11, qt_12, ql_12, qt_13, ql_13, qt_14, ql_14, qt_15, ql_15, qt_16, ql_16, qt_17, ql_17, qt_18, ql_18, qt_19, ql_19, qt_20, ql_20, qt_21, ql_21, qt_22, ql_22, qt_23, ql_23, qt_24, ql_24, qt_25, ql_25, qt_26, ql_26, qt_28, ql_28, qt_29, ql_29, qt_30, ql_30, qt_31, ql_31, qt_32, ql_32, qt_33, ql_33, qt_34, ql_34, qt_35, ql_35, qt_36, ql_36, qt_37, ql_37, qt_38, ql_38, qt_40, ql_40, qt_41, ql_41, qt_42, ql_42, qt_43, ql_43, qt_44, ql_44, qt_45, ql_45, qt_46, ql_46, qt_47, ql_47, qt_48, ql_48, qt_49, ql_49, qt_50, ql_50, qt_51, ql_51, qt_52, ql_52, qt_53, ql_53, qt_54, ql_54, qt_56, ql_56, qt_57, ql_57, qt_58, ql_58, qt_59, ql_59, qt_60, ql_60, qt_61, ql_61, qt_62, ql_62, qt_63, ql_63, qt_64, ql_64, qt_65, ql_65, qt_67, ql_67, qt_68, ql_68, qt_69, ql_69, qt_70, ql_70, qt_71, ql_71, qt_73, ql_73, qt_74, ql_74, qt_75, ql_75, qt_76, ql_76, qt_78, ql_78, qt_79, ql_79, qt_80, ql_80, qt_81, ql_81, qt_82, ql_82, qt_83, ql_83, qt_84, ql_84, qt_85, ql_85, qt_86, ql_86, qt_87, ql_87, qt_89, ql_89, qt_90, ql_90, qt_91, ql_91, qt_92, ql_92, qt_93, ql_93, qt_94, ql_94, qt_95, ql_95, qt_96, ql_96, qt_97, ql_97, qt_98, ql_98, qt_99, ql_99, qt_100, ql_100, qt_101, ql_101, qt_102, ql_102, qt_103, ql_103, qt_105, ql_105, qt_106, ql_106, qt_107, ql_107, qt_108, ql_108, qt_109, ql_109, qt_110, ql_110, qt_111, ql_111, qt_113, ql_113, qt_114, ql_114, qt_115, ql_115, qt_116, ql_116, qt_117, ql_117, qt_118, ql_118, qt_119, ql_119, qt_120, ql_120, qt_121, ql_121, qt_122, ql_122, qt_123, ql_123, qt_124, ql_124, qt_125, ql_125, qt_126, ql_126, qt_127, ql_127, qt_129, ql_129, qt_130, ql_130, qt_131, ql_131, qt_132, ql_132, qt_133, ql_133, qt_134, ql_134, qt_135, ql_135, qt_137, ql_137, qt_138, ql_138, qt_139, ql_139, qt_140, ql_140, qt_141, ql_141, qt_142, ql_142, qt_143, ql_143, qt_144, ql_144, qt_145, ql_145, qt_146, ql_146, qt_147, ql_147, qt_148, ql_148, qt_149, ql_149, qt_150, ql_150, qt_151, ql_151, qt_152, ql_152, qt_153, ql_153, qt_154, ql_154, qt_155, ql_155, qt_156, ql_156, qt_157, ql_157, qt_158, ql_158, qt_159, ql_159, qt_160, ql_160, qt_161, ql_161, qt_162, ql_162, qt_163, ql_163, qt_164, ql_164, qt_165, ql_165, qt_166, ql_166, qt_167, ql_167, qt_168, ql_168, qt_169, ql_169, qt_170, ql_170, qt_171, ql_171, qt_172, ql_172, qt_173, ql_173, qt_174, ql_174, qt_175, ql_175, qt_176, ql_176, qt_177, ql_177, qt_178, ql_178, qt_179, ql_179, qt_180, ql_180, qt_181, ql_181, qt_182, ql_182, qt_183, ql_183, qt_184, ql_184, qt_185, ql_185, qt_186, ql_186, qt_187, ql_187, qt_188, ql_188, true_implies, false_implies, not_true_eq_false, not_false_eq_true, true_and, and_true, implies_true, or_true, true_or, or_false, false_or, Int.reduceEq, Int.one_ne_zero, Nat.reduceEqDiff, v0, v7, s20, s28, q165, q166, r147, e1, a2]
      exact ⟨by unfold q_R; omega, by unfold q_R; omega, by unfold q_R; omega, h⟩
    · simp only [k194_24, k194_25, k194_28, k194_29, k194_30, k194_31, k194_32, k194_33, k194_36, k194_37, k194_40, k194_41, k194_42, k194_43, k194_46, k194_47, k194_48, k194_49, k194_50, k194_53, k194_54, k194_57, k194_58, k194_60, k194_62, k194_65, k194_66, k194_67, k194_68, k194_69, k194_70, k194_73, k194_74, k194_75, k194_76, qt_1, ql_1, qt_2, ql_2, qt_3, ql_3, qt_6, ql_6, qt_7, ql_7, qt_8, ql_8, qt_10, ql_10, qt_11, ql_11, qt_12, ql_12, qt_13, ql_13, qt_14, ql_14, qt_15, ql_15, qt_16, ql_16, qt_17, ql_17, qt_18, ql_18, qt_19, ql_19, qt_20, ql_20, qt_21, ql_21, qt_22, ql_22, qt_23, ql_23, qt_24, ql_24, qt_25, ql_25, qt_26, ql_26, qt_28, ql_28, qt_29, ql_29, qt_30, ql_30, qt_31, ql_31, qt_32, ql_32, qt_33, ql_33, qt_34, ql_34, qt_35, ql_35, qt_36, ql_36, qt_37, ql_37, qt_38, ql_38, qt_40, ql_40, qt_41, ql_41, qt_42, ql_42, qt_43, ql_43, qt_44, ql_44, qt_45, ql_45, qt_46, ql_46, qt_47, ql_47, qt_48, ql_48, qt_49, ql_49, qt_50, ql_50, qt_51, ql_51, qt_52, ql_52, qt_53, ql_53, qt_54, ql_54, qt_56, ql_56, qt_57, ql_57, qt_58, ql_58, qt_59, ql_59, qt_60, ql_60, qt_61, ql_61, qt_62, ql_62, qt_63, ql_63, qt_64, ql_64, qt_65, ql_65, qt_67, ql_67, qt_68, ql_68, qt_69, ql_69, qt_70, ql_70, qt_71, ql_71, qt_73, ql_73, qt_74, ql_74, qt_75, ql_75, qt_76, ql_76, qt_78, ql_78, qt_79, ql_79, qt_80, ql_80, qt_81, ql_81, qt_82, ql_82, qt_83, ql_83, qt_84, ql_84, qt_85, ql_85, qt_86, ql_86, qt_87, ql_87, qt_89, ql_89, qt_90, ql_90, qt_91, ql_91, qt_92, ql_92, qt_93, ql_93, qt_94, ql_94, qt_95, ql_95, qt_96, ql_96, qt_97, ql_97, qt_98, ql_98, qt_99, ql_99, qt_100, ql_100, qt_101, ql_101, qt_102, ql_102, qt_103, ql_103, qt_105, ql_105, qt_106, ql_106, qt_107, ql_107, qt_108, ql_108, qt_109, ql_109, qt_110, ql_110, qt_111, ql_111, qt_113, ql_113, qt_114, ql_114, qt_115, ql_115, qt_116, ql_116, qt_117, ql_117, qt_118, ql_118, qt_119, ql_119, qt_120, ql_120, qt_121, ql_121, qt_122, ql_122, qt_123, ql_123, qt_124, ql_124, qt_125, ql_125, qt_126, ql_126, qt_127, ql_127, qt_129, ql_129, qt_130, ql_130, qt_131, ql_131, qt_132, ql_132, qt_133, ql_133, qt_134, ql_134, qt_135, ql_135, qt_137, ql_137, qt_138, ql_138, qt_139, ql_139, qt_140, ql_140, qt_141, ql_141, qt_142, ql_142, qt_143, ql_143, qt_144, ql_144, qt_145, ql_145, qt_146, ql_146, qt_147, ql_147, qt_148, ql_148, qt_149, ql_149, qt_150, ql_150, qt_151, ql_151, qt_152, ql_152, qt_153, ql_153, qt_154, ql_154, qt_155, ql_155, qt_156, ql_156, qt_157, ql_157, qt_158, ql_158, qt_159, ql_159, qt_160, ql_160, qt_161, ql_161, qt_162, ql_162, qt_163, ql_163, qt_164, ql_164, qt_165, ql_165, qt_166, ql_166, qt_167, ql_167, qt_168, ql_168, qt_169, ql_169, qt_170, ql_170, qt_171, ql_171, qt_172, ql_172, qt_173, ql_173, qt_174, ql_174, qt_175, ql_175, qt_176, ql_176, qt_177, ql_177, qt_178, ql_178, qt_179, ql_179, qt_180, ql_180, qt_181, ql_181, qt_182, ql_182, qt_183, ql_183, qt_184, ql_184, qt_185, ql_185, qt_186, ql_186, qt_187, ql_187, qt_188, ql_188, true_implies, false_implies, not_true_eq_false, not_false_eq_true, true_and, and_true, implies_true, or_true, true_or, or_false, false_or, Int.reduceEq, Int.one_ne_zero, Nat.reduceEqDiff, v0, v7, s20, s28, q165, q166, r147, e1]
      exact ⟨by unfold q_R; omega, by unfold q_R; omega, h⟩
  have et : ∀ w, (gV G v).2.2 = (0, v_term T sv.1 sv.2 (gV G v).1.2.1 w) → e_tt b (gV G v) = if b = 3 then (v_term T sv.1 sv.2 (gV G v).1.2.1 w).2 else (v_term T sv.1 sv.2 (gV G v).1.2.1 w).1 := by
    intro w hw
    unfold e_tt
    rw [hw]
  have tmt0 : l_tm Y (e_tm (q_of pl) b t0) = none := rfl
  rcases hf with ⟨f1, f2, f3, f4⟩ | ⟨f1, f2, f3, f4⟩
  · refine caseL f1.1 f2 ?_
    rw [et 0 f4] at kk
    unfold v_term at kk
    simp only [if_true] at kk
    have hside := fun Q' => m193 (sc := sc) (D := D) (bb := bb) (Q := Q') (Y := Y) hk hq hY hb ⟨s0, s40⟩ (Or.inr rfl) (k := T.2.2.1) (sn := T.2.2.2) (sv := sv.2) q165' q166' (fun q => ⟨q167', (e1 q).1, by have := (e1 q).2; omega⟩) hr hb'.2.1
    have hsm := small T.2.2.1 (if T.2.2.1 = 3 then sv.2 else T.2.2.2) (by by_cases q : T.2.2.1 = 3; exact Or.inr q; rw [if_neg q]; exact Or.inl hr) (fun q => by rw [if_pos q]; exact e1 q)
    have kd : T.2.2.1 = 1 ∨ T.2.2.1 = 2 ∨ T.2.2.1 = 3 := by unfold VALs at hr; omega
    refine m194_b ⟨s0, s40⟩ q164 hd0 (Or.inr rfl) hsm hside ?_ ?_ ?_ ?_ kk
    · intro g1 g2
      rw [if_pos g1, if_pos (hd1.mp g2)]
      split <;> (rw [tm_sdO kd]; cases sdO (q_of pl) b Y T.2.2.1 (if T.2.2.1 = 3 then sv.2 else T.2.2.2) <;> simp [l_add])
    · intro g1 g2
      have h3 : ¬ (gV G v).1.2.1 = 3 := fun q => by have := hd1.mpr q; omega
      simp only [g1, h3, if_true, if_false, ite_self]
      exact tmt0
    · intro g1 g2
      rw [if_neg g1]
      by_cases h3 : (gV G v).1.2.1 = 3
      · have := hd1.mpr h3
        rw [if_pos (Or.inl ⟨h3, trivial⟩), if_pos (g2.mp this)]
        exact tmt0
      · have : ¬ hd = 1 := fun q => h3 (hd1.mp q)
        rw [if_neg (fun q => this (g2.mpr q)), if_neg (fun q => q.elim (fun q => h3 q.1) (fun q => q.2 trivial))]
        exact tmt0
    · intro g1 g2
      rw [if_neg g1]
      have ess : ∀ z : Int, (if (T.1 = 0 ∧ (gV G v).1.2.1 = 3) ∨ (¬ T.1 = 0 ∧ ¬ (gV G v).1.2.1 = 3) then (-1 : Int) else 0) = (if (T.1 = 0 ↔ hd = 1) then -1 else 0) := by
        intro _
        have : ((T.1 = 0 ∧ (gV G v).1.2.1 = 3) ∨ (¬ T.1 = 0 ∧ ¬ (gV G v).1.2.1 = 3)) ↔ (T.1 = 0 ↔ hd = 1) := by rw [hd1]; grind
        simp only [this]
      rw [ess 0]
      by_cases h3 : (gV G v).1.2.1 = 3
      · have := hd1.mpr h3
        rw [if_pos (Or.inl ⟨h3, trivial⟩), if_neg (fun q => g2 ⟨fun _ => q, fun _ => this⟩)]
        exact tm_sdO kd
      · have : ¬ hd = 1 := fun q => h3 (hd1.mp q)
        by_cases b3 : b = 3
        · rw [if_pos b3, if_neg (fun q => q.elim (fun q => h3 q.1) (fun q => q.2 trivial))]; exact tm_sdO kd
        · exact absurd ⟨fun q => absurd q this, fun q => absurd q b3⟩ g2
  · refine caseR (fun q => f1.2 ⟨q.1, f1.1, by rw [← q.2, f2]⟩) ?_
    rw [et 1 f4] at kk
    unfold v_term at kk
    simp only [Int.reduceEq, if_false] at kk
    have hside := fun Q' => m193 (sc := sc) (D := D) (bb := bb) (Q := Q') (Y := Y) hk hq hY hb ⟨s0, s40⟩ (Or.inl rfl) (k := T.2.1.1) (sn := T.2.1.2) (sv := sv.1) q165 q166 (fun q => ⟨q167, (e0 q).1, by have := (e0 q).2; omega⟩) hl hb'.2.1
    have hsm := small T.2.1.1 (if T.2.1.1 = 3 then sv.1 else T.2.1.2) (by by_cases q : T.2.1.1 = 3; exact Or.inr q; rw [if_neg q]; exact Or.inl hl) (fun q => by rw [if_pos q]; exact e0 q)
    have kd : T.2.1.1 = 1 ∨ T.2.1.1 = 2 ∨ T.2.1.1 = 3 := by unfold VALs at hl; omega
    refine m194_b ⟨s0, s40⟩ q164 hd0 (Or.inl rfl) hsm hside ?_ ?_ ?_ ?_ kk
    · intro g1 g2
      rw [if_pos g1, if_pos (hd1.mp g2)]
      split <;> (rw [tm_sdO kd]; cases sdO (q_of pl) b Y T.2.1.1 (if T.2.1.1 = 3 then sv.1 else T.2.1.2) <;> simp [l_add])
    · intro g1 g2
      have h3 : ¬ (gV G v).1.2.1 = 3 := fun q => by have := hd1.mpr q; omega
      simp only [g1, h3, if_true, if_false, ite_self]
      exact tmt0
    · intro g1 g2
      rw [if_neg g1]
      by_cases h3 : (gV G v).1.2.1 = 3
      · have := hd1.mpr h3
        rw [if_neg (fun q => absurd (g2.mpr q) (by omega)), if_neg (fun q => q.elim (fun q => q.2) (fun q => q.1 h3))]
        exact tmt0
      · have : ¬ hd = 1 := fun q => h3 (hd1.mp q)
        rw [if_pos (Or.inr ⟨h3, fun z => z⟩), if_pos (g2.mp (by omega))]
        exact tmt0
    · intro g1 g2
      rw [if_neg g1]
      have ess : ∀ z : Int, (if (T.1 = 0 ∧ (gV G v).1.2.1 = 3) ∨ (¬ T.1 = 0 ∧ ¬ (gV G v).1.2.1 = 3) then (-1 : Int) else 0) = (if (T.1 = 0 ↔ hd = 1) then -1 else 0) := by
        intro _
        have : ((T.1 = 0 ∧ (gV G v).1.2.1 = 3) ∨ (¬ T.1 = 0 ∧ ¬ (gV G v).1.2.1 = 3)) ↔ (T.1 = 0 ↔ hd = 1) := by rw [hd1]; grind
        simp only [this]
      rw [ess 0]
      by_cases h3 : (gV G v).1.2.1 = 3
      · have := hd1.mpr h3
        by_cases b3 : b = 3
        · rw [if_pos b3, if_neg (fun q => q.elim (fun q => q.2) (fun q => q.1 h3))]; exact tm_sdO kd
        · exact absurd ⟨fun q => by omega, fun q => absurd q b3⟩ g2
      · have : ¬ hd = 1 := fun q => h3 (hd1.mp q)
        rw [if_pos (Or.inr ⟨h3, fun z => z⟩), if_neg (fun q => g2 ⟨fun _ => q, fun _ => by omega⟩)]
        exact tm_sdO kd
end RFT
