/-! what versions stand for; which loop guards a check: in the class -/
def rt (G : GT) : Nat → Int → Int × Int
  | 0, v => (v, 0)
  | n + 1, v => if v_fol (gV G v) then ((rt G n (gV G v).1.2.2.2.1).1, (rt G n (gV G v).1.2.2.2.1).2 + (gV G v).2.2.1) else (v, 0)
def RT (G : GT) (v : Int) : Int × Int := rt G 240 v
section RTA
variable {G : GT} {pl : Int → Int} {V S K Ln : Nat} {v i N : Int} {r : St}
theorem WV_fol (h : WV G pl N i) (hf : v_fol (gV G i)) : 0 ≤ (gV G i).1.2.2.2.1 ∧ (gV G i).1.2.2.2.1 < i := by
  obtain ⟨-, h⟩ := h
  unfold v_fol at hf
  rcases h with h | h | h | h | h | h
  · have := h.1; omega
  · obtain ⟨a, b1, c⟩ := h
    rcases c with ⟨c1, -⟩ | ⟨c1, -⟩ | ⟨c1, c2, -⟩ | ⟨c1, -⟩
    · omega
    · omega
    · exact c2
    · omega
  · exact h.2.1
  · obtain ⟨a, b1, c, d, ⟨e0, e1⟩, f⟩ := h
    rcases f with ⟨f1, f2, f3, f4⟩ | ⟨f1, f2, f3, f4⟩
    · rw [f3]; exact e0 f1.1
    · rw [f3]; exact e1 f1.1
  · have := h.1; omega
  · have := h.1; omega
theorem rt_fuel (hW : ∀ i : Int, 0 ≤ i → i < V → WV G pl V i) : ∀ (n m : Nat) (v : Int), 0 ≤ v → v < V → v < n → v < m → rt G n v = rt G m v := by
  intro n
  induction n with
  | zero => intro m v h0 h1 h2; omega
  | succ n ih =>
    intro m v h0 h1 h2 h3
    cases m with
    | zero => omega
    | succ m =>
      rw [rt, rt]
      by_cases hf : v_fol (gV G v)
      · have := WV_fol (hW v h0 h1) hf
        rw [if_pos hf, if_pos hf, ih m _ this.1 (by omega) (by omega) (by omega)]
      · rw [if_neg hf, if_neg hf]
theorem RT_eq (hW : ∀ i : Int, 0 ≤ i → i < V → WV G pl V i) (h240 : V ≤ 240) (h0 : 0 ≤ v) (h1 : v < V) : RT G v = if v_fol (gV G v) then ((RT G (gV G v).1.2.2.2.1).1, (RT G (gV G v).1.2.2.2.1).2 + (gV G v).2.2.1) else (v, 0) := by
  unfold RT
  rw [show (240 : Nat) = 239 + 1 from rfl, rt]
  by_cases hf : v_fol (gV G v)
  · have := WV_fol (hW v h0 h1) hf
    rw [if_pos hf, if_pos hf, rt_fuel hW 239 (239 + 1) _ this.1 (by omega) (by omega) (by omega)]
  · rw [if_neg hf, if_neg hf]
theorem RT_b (hW : ∀ i : Int, 0 ≤ i → i < V → WV G pl V i) (h240 : V ≤ 240) : ∀ (n : Nat) (v : Int), v < n → 0 ≤ v → v < V → 0 ≤ (RT G v).1 ∧ (RT G v).1 ≤ v ∧ -99 * v ≤ (RT G v).2 ∧ (RT G v).2 ≤ 99 * v ∧ ¬ v_fol (gV G (RT G v).1) := by
  intro n
  induction n with
  | zero => intro v h h0; omega
  | succ n ih =>
    intro v h h0 h1
    rw [RT_eq hW h240 h0 h1]
    by_cases hf : v_fol (gV G v)
    · have hw := WV_fol (hW v h0 h1) hf
      have := ih _ (by omega) hw.1 (by omega)
      have := (WV_a (hW v h0 h1)).1
      rw [if_pos hf]
      refine ⟨by dsimp only; omega, by dsimp only; omega, by dsimp only; omega, by dsimp only; omega, ?_⟩
      dsimp only
      exact (ih _ (by omega) hw.1 (by omega)).2.2.2.2
    · rw [if_neg hf]
      refine ⟨by dsimp only; omega, by dsimp only; omega, by dsimp only; omega, by dsimp only; omega, hf⟩
theorem RT_C (hW : ∀ i : Int, 0 ≤ i → i < V → WV G pl V i) (h240 : V ≤ 240) (hr : ∀ i : Int, 0 ≤ i → i < V → VRokC r i (gV G i)) : ∀ (n : Nat) (v : Int), v < n → 0 ≤ v → v < V → r 16 v = (RT G v).1 ∧ r 17 v = (RT G v).2 := by
  intro n
  induction n with
  | zero => intro v h h0; omega
  | succ n ih =>
    intro v h h0 h1
    obtain ⟨⟨-, -, -, q16, q17⟩, -⟩ := hr v h0 h1
    rw [RT_eq hW h240 h0 h1, q16, q17]
    by_cases hf : v_fol (gV G v)
    · have hw := WV_fol (hW v h0 h1) hf
      obtain ⟨a1, a2⟩ := ih _ (by omega) hw.1 (by omega)
      rw [if_pos hf, if_pos hf, if_pos hf, a1, a2]
      exact ⟨rfl, rfl⟩
    · rw [if_neg hf, if_neg hf, if_neg hf]
      exact ⟨rfl, rfl⟩
end RTA
/-- a loop counts a ROUND version up -/
abbrev gCnt (G : GT) (l root : Int) : Prop := ((gP G l).1 ≤ root ∧ root < (gP G l).1 + (gP G l).2) ∧ ((RT G (gV G root).1.2.2.2.2).1 = root ∧ 0 ≤ (RT G (gV G root).1.2.2.2.2).2) ∧ (¬ (gR G (gL G l).1).2.2.1 = 2 ∧ (gM G (gL G l).1).2.2.2.1 = root) ∧ (gM G (gL G l).1).2.2.2.2 < (gP G l).1
def gd1 (G : GT) (root l : Int) (p : Int × Int) : Int × Int := if root < (gP G l).1 then (l, 0) else if gCnt G l root then (l, 1) else p
def gd (G : GT) (root : Int) : Nat → Int → Int × Int → Int × Int
  | 0, _, p => p
  | n + 1, l, p => if l = -1 then p else gd G root n (gL G l).2 (gd1 G root l p)
/-- the loop that guards a check, and how -/
noncomputable def gdr (G : GT) (pl : Int → Int) (V : Nat) (k : Int) : Int × Int := if shU G pl V (-1) k + shD G pl V (-1) k = 2 then (-1, -1) else gd G (RT G (gC G k).1).1 5 (gC G k).2.2 (-1, -1)
def GS (r : St) (k : Int) (p : Int × Int) : St := q_up (q_up r 73 k p.1) 74 k p.2
section GRD
variable {sc : Nat × (Nat → Int32)} {D : Nat} {bb : Bool} {Q : QP} {c a V S K Ln : Nat} {C r r0 : St} {G : GT} {pl : Int → Int} {wo k i l root : Int} {p : Int × Int}
theorem GS_up {x y : Int} : q_up (q_up (GS r k p) 73 k x) 74 k y = GS r k (x, y) := by
  funext b j
  unfold GS
  by_cases e1 : b = 74 ∧ j = k
  · simp only [q_up_app, e1, and_self, if_true]
  · by_cases e2 : b = 73 ∧ j = k
    · simp only [q_up_app, e1, e2, and_self, if_true, if_false]
    · simp only [q_up_app, e1, e2, if_false]
theorem GS_ne {b : Nat} (h : ¬ (b = 73 ∨ b = 74)) : GS r k p b i = r b i := by
  unfold GS
  rw [q_up_ne _ _ _ _ (by omega), q_up_ne _ _ _ _ (by omega)]
theorem PRO_l (hp : PRO G pl V S K Ln) (h0 : 0 ≤ l) (h1 : l < Ln) : WL G pl 0 S 0 V l := hp.2.2.2.2.2.2 l h0 h1
theorem gd_rng (hp : PRO G pl V S K Ln) : ∀ (n : Nat) (l : Int) (p : Int × Int), (l = -1 ∨ (0 ≤ l ∧ l < Ln)) → (p = (-1, -1) ∨ (0 ≤ p.1 ∧ p.1 < Ln ∧ (p.2 = 0 ∨ p.2 = 1))) → (gd G root n l p = (-1, -1) ∨ (0 ≤ (gd G root n l p).1 ∧ (gd G root n l p).1 < Ln ∧ ((gd G root n l p).2 = 0 ∨ (gd G root n l p).2 = 1))) := by
  intro n
  induction n with
  | zero => intro l p _ h; exact h
  | succ n ih =>
    intro l p hl h
    rw [gd]
    by_cases e : l = -1
    · rw [if_pos e]; exact h
    · rw [if_neg e]
      have hl' : 0 ≤ l ∧ l < Ln := by omega
      obtain ⟨-, -, -, w, -⟩ := PRO_l hp hl'.1 hl'.2
      refine ih _ _ (by omega) ?_
      unfold gd1
      split
      · exact Or.inr ⟨hl'.1, hl'.2, Or.inl rfl⟩
      · split
        · exact Or.inr ⟨hl'.1, hl'.2, Or.inr rfl⟩
        · exact h
theorem gdr_rng (hp : PRO G pl V S K Ln) (h0 : 0 ≤ k) (h1 : k < K) : gdr G pl V k = (-1, -1) ∨ (0 ≤ (gdr G pl V k).1 ∧ (gdr G pl V k).1 < Ln ∧ ((gdr G pl V k).2 = 0 ∨ (gdr G pl V k).2 = 1)) := by
  unfold gdr
  split
  · exact Or.inl rfl
  · have := PRO_k hp h0 h1
    exact gd_rng hp 5 _ _ (by omega) (Or.inl rfl)
/-- counts -/
theorem n17 (hc : q_C c) (hk : CK C r G pl V S K Ln) (hp : PRO G pl V S K Ln) (hco : r 72 2 = c) (l0 : 0 ≤ l) (l1 : l < Ln) (r0 : 0 ≤ root) (r1 : root < V) (k1 : gCnt G l root → Q (.inl (some (vi 1))) bb (NS c C r)) (k0 : ¬ gCnt G l root → Q (.inl (some (vi 0))) bb (NS c C r)) : qx sc D 17 0 [vr 72, vi (gL G l).1, vi root, vn, vn] [] (0, 0) bb (NS c C r) Q := by
  obtain ⟨w1, w2, w3, w4, w5, w6, w7, w8, w9, w10, w11⟩ := PRO_l hp l0 l1
  obtain ⟨p1, ⟨p2, p3, p4, -⟩, -⟩ := hp
  have hm := (hk.2.2.2.2.1 _ w1.1 w1.2).2
  rw [w3] at hm
  obtain ⟨⟨m31, m32⟩, -, m37, m38⟩ := hm (by omega)
  have hS : C 17 (gL G l).1 = (gR G (gL G l).1).2.2.1 := ((hk.1.1 _ w1.1 w1.2).2.2.2.2.2.2.2.2.2.2 (by omega)).1
  have s0 : 0 ≤ (gL G l).1 := w1.1
  have s40 : (gL G l).1 < 40 := by omega
  have rr : root < 240 := by omega
  have z0 : (0 : Int).toNat = 0 := rfl
  have z1 : (1 : Int).toNat = 1 := rfl
  have no : ∀ ls, ¬ gCnt G l root → qx sc D 17 30 ls [] (0, 0) bb (NS c C r) Q ∧ qx sc D 17 70 ls [] (0, 0) bb (NS c C r) Q ∧ qx sc D 17 103 ls [] (0, 0) bb (NS c C r) Q := by
    intro ls hn
    simp only [k17_30, k17_31, k17_70, k17_71, k17_103, k17_104, true_implies, false_implies, not_true_eq_false, not_false_eq_true, true_and, and_true, implies_true, or_true, true_or, or_false, false_or, Int.reduceEq, Int.one_ne_zero, Nat.reduceEqDiff]
    exact ⟨k0 hn, k0 hn, k0 hn⟩
  simp only [k17_0, k17_1, k17_4, k17_7, k17_8, k17_9, k17_10, k17_11, k17_12, k17_15, k17_16, k17_17, k17_18, k17_21, k17_24, k17_25, k17_26, k17_27, NS_lo hc, NS_g hc, NS_f hc, NS_u hc, NS_uf hc, Nat.reduceLT, Nat.reduceLeDiff, Nat.reduceEqDiff, not_false_eq_true, qt_1, ql_1, qt_2, ql_2, qt_3, ql_3, qt_6, ql_6, qt_7, ql_7, qt_8, ql_8, qt_10, ql_10, qt_11, ql_11, qt_12, ql_12, qt_13, ql_13, qt_14, ql_14, qt_15, ql_15, qt_16, ql_16, qt_17, ql_17, qt_18, ql_18, qt_19, ql_19, qt_20, ql_20, qt_21, ql_21, qt_22, ql_22, qt_23, ql_23, qt_24, ql_24, qt_25, ql_25, qt_26, ql_26, qt_28, ql_28, qt_29, ql_29, qt_30, ql_30, qt_31, ql_31, qt_32, ql_32, qt_33, ql_33, qt_34, ql_34, qt_35, ql_35, qt_36, ql_36, qt_37, ql_37, qt_38, ql_38, qt_40, ql_40, qt_41, ql_41, qt_42, ql_42, qt_43, ql_43, qt_44, ql_44, qt_45, ql_45, qt_46, ql_46, qt_47, ql_47, qt_48, ql_48, qt_49, ql_49, qt_50, ql_50, qt_51, ql_51, qt_52, ql_52, qt_53, ql_53, qt_54, ql_54, qt_56, ql_56, qt_57, ql_57, qt_58, ql_58, qt_59, ql_59, qt_60, ql_60, qt_61, ql_61, qt_62, ql_62, qt_63, ql_63, qt_64, ql_64, qt_65, ql_65, qt_67, ql_67, qt_68, ql_68, qt_69, ql_69, qt_70, ql_70, qt_71, ql_71, qt_73, ql_73, qt_74, ql_74, qt_75, ql_75, qt_76, ql_76, qt_78, ql_78, qt_79, ql_79, qt_80, ql_80, qt_81, ql_81, qt_82, ql_82, qt_83, ql_83, qt_84, ql_84, qt_85, ql_85, qt_86, ql_86, qt_87, ql_87, qt_89, ql_89, qt_90, ql_90, qt_91, ql_91, qt_92, ql_92, qt_93, ql_93, qt_94, ql_94, qt_95, ql_95, qt_96, ql_96, qt_97, ql_97, qt_98, ql_98, qt_99, ql_99, qt_100, ql_100, qt_101, ql_101, qt_102, ql_102, qt_103, ql_103, qt_105, ql_105, qt_106, ql_106, qt_107, ql_107, qt_108, ql_108, qt_109, ql_109, qt_110, ql_110, qt_111, ql_111, qt_113, ql_113, qt_114, ql_114, qt_115, ql_115, qt_116, ql_116, qt_117, ql_117, qt_118, ql_118, qt_119, ql_119, qt_120, ql_120, qt_121, ql_121, qt_122, ql_122, qt_123, ql_123, qt_124, ql_124, qt_125, ql_125, qt_126, ql_126, qt_127, ql_127, qt_129, ql_129, qt_130, ql_130, qt_131, ql_131, qt_132, ql_132, qt_133, ql_133, qt_134, ql_134, qt_135, ql_135, qt_137, ql_137, qt_138, ql_138, qt_139, ql_139, qt_140, ql_140, qt_141, ql_141, qt_142, ql_142, qt_143, ql_143, qt_144, ql_144, qt_145, ql_145, qt_146, ql_146, qt_147, ql_147, qt_148, ql_148, qt_149, ql_149, qt_150, ql_150, qt_151, ql_151, qt_152, ql_152, qt_153, ql_153, qt_154, ql_154, qt_155, ql_155, qt_156, ql_156, qt_157, ql_157, qt_158, ql_158, qt_159, ql_159, qt_160, ql_160, qt_161, ql_161, qt_162, ql_162, qt_163, ql_163, qt_164, ql_164, qt_165, ql_165, qt_166, ql_166, qt_167, ql_167, qt_168, ql_168, qt_169, ql_169, qt_170, ql_170, qt_171, ql_171, qt_172, ql_172, qt_173, ql_173, qt_174, ql_174, qt_175, ql_175, qt_176, ql_176, qt_177, ql_177, qt_178, ql_178, qt_179, ql_179, qt_180, ql_180, qt_181, ql_181, qt_182, ql_182, qt_183, ql_183, qt_184, ql_184, qt_185, ql_185, qt_186, ql_186, qt_187, ql_187, qt_188, ql_188, true_implies, false_implies, not_true_eq_false, not_false_eq_true, true_and, and_true, implies_true, or_true, true_or, or_false, false_or, Int.reduceEq, Int.one_ne_zero, Nat.reduceEqDiff, s0, s40, m31, m32]
  refine ⟨fun g => (no _ (fun q => by have := q.1; omega)).1, fun g => ⟨by unfold q_R; omega, fun g2 => ?_, fun g2 => (no _ (fun q => by have := q.1; omega)).1⟩⟩
  have hw := p1 root r0 r1
  have h6 := (w11 root (by omega) g2).1
  have hmt := WV_m hw (Or.inr h6)
  have e14 : r 14 root = (gV G root).1.2.2.2.2 := (hk.2.2.2.1.1 root r0 r1).1.1.2.2.2.2.1
  have t0' : 0 ≤ (gV G root).1.2.2.2.2 := hmt.2.1.1
  have t1' : (gV G root).1.2.2.2.2 < V := by have := hmt.2.1.2; omega
  have t2' : (gV G root).1.2.2.2.2 < 240 := by omega
  obtain ⟨q16, q17⟩ := RT_C p1 p3 hk.2.2.2.1.1 240 _ t2' t0' t1'
  simp only [k17_32, k17_33, k17_36, k17_39, k17_40, k17_41, k17_43, k17_44, k17_47, k17_50, k17_52, k17_53, k17_54, k17_57, k17_58, k17_61, k17_64, k17_66, k17_67, NS_lo hc, NS_g hc, NS_f hc, NS_u hc, NS_uf hc, Nat.reduceLT, Nat.reduceLeDiff, Nat.reduceEqDiff, not_false_eq_true, qt_1, ql_1, qt_2, ql_2, qt_3, ql_3, qt_6, ql_6, qt_7, ql_7, qt_8, ql_8, qt_10, ql_10, qt_11, ql_11, qt_12, ql_12, qt_13, ql_13, qt_14, ql_14, qt_15, ql_15, qt_16, ql_16, qt_17, ql_17, qt_18, ql_18, qt_19, ql_19, qt_20, ql_20, qt_21, ql_21, qt_22, ql_22, qt_23, ql_23, qt_24, ql_24, qt_25, ql_25, qt_26, ql_26, qt_28, ql_28, qt_29, ql_29, qt_30, ql_30, qt_31, ql_31, qt_32, ql_32, qt_33, ql_33, qt_34, ql_34, qt_35, ql_35, qt_36, ql_36, qt_37, ql_37, qt_38, ql_38, qt_40, ql_40, qt_41, ql_41, qt_42, ql_42, qt_43, ql_43, qt_44, ql_44, qt_45, ql_45, qt_46, ql_46, qt_47, ql_47, qt_48, ql_48, qt_49, ql_49, qt_50, ql_50, qt_51, ql_51, qt_52, ql_52, qt_53, ql_53, qt_54, ql_54, qt_56, ql_56, qt_57, ql_57, qt_58, ql_58, qt_59, ql_59, qt_60, ql_60, qt_61, ql_61, qt_62, ql_62, qt_63, ql_63, qt_64, ql_64, qt_65, ql_65, qt_67, ql_67, qt_68, ql_68, qt_69, ql_69, qt_70, ql_70, qt_71, ql_71, qt_73, ql_73, qt_74, ql_74, qt_75, ql_75, qt_76, ql_76, qt_78, ql_78, qt_79, ql_79, qt_80, ql_80, qt_81, ql_81, qt_82, ql_82, qt_83, ql_83, qt_84, ql_84, qt_85, ql_85, qt_86, ql_86, qt_87, ql_87, qt_89, ql_89, qt_90, ql_90, qt_91, ql_91, qt_92, ql_92, qt_93, ql_93, qt_94, ql_94, qt_95, ql_95, qt_96, ql_96, qt_97, ql_97, qt_98, ql_98, qt_99, ql_99, qt_100, ql_100, qt_101, ql_101, qt_102, ql_102, qt_103, ql_103, qt_105, ql_105, qt_106, ql_106, qt_107, ql_107, qt_108, ql_108, qt_109, ql_109, qt_110, ql_110, qt_111, ql_111, qt_113, ql_113, qt_114, ql_114, qt_115, ql_115, qt_116, ql_116, qt_117, ql_117, qt_118, ql_118, qt_119, ql_119, qt_120, ql_120, qt_121, ql_121, qt_122, ql_122, qt_123, ql_123, qt_124, ql_124, qt_125, ql_125, qt_126, ql_126, qt_127, ql_127, qt_129, ql_129, qt_130, ql_130, qt_131, ql_131, qt_132, ql_132, qt_133, ql_133, qt_134, ql_134, qt_135, ql_135, qt_137, ql_137, qt_138, ql_138, qt_139, ql_139, qt_140, ql_140, qt_141, ql_141, qt_142, ql_142, qt_143, ql_143, qt_144, ql_144, qt_145, ql_145, qt_146, ql_146, qt_147, ql_147, qt_148, ql_148, qt_149, ql_149, qt_150, ql_150, qt_151, ql_151, qt_152, ql_152, qt_153, ql_153, qt_154, ql_154, qt_155, ql_155, qt_156, ql_156, qt_157, ql_157, qt_158, ql_158, qt_159, ql_159, qt_160, ql_160, qt_161, ql_161, qt_162, ql_162, qt_163, ql_163, qt_164, ql_164, qt_165, ql_165, qt_166, ql_166, qt_167, ql_167, qt_168, ql_168, qt_169, ql_169, qt_170, ql_170, qt_171, ql_171, qt_172, ql_172, qt_173, ql_173, qt_174, ql_174, qt_175, ql_175, qt_176, ql_176, qt_177, ql_177, qt_178, ql_178, qt_179, ql_179, qt_180, ql_180, qt_181, ql_181, qt_182, ql_182, qt_183, ql_183, qt_184, ql_184, qt_185, ql_185, qt_186, ql_186, qt_187, ql_187, qt_188, ql_188, true_implies, false_implies, not_true_eq_false, not_false_eq_true, true_and, and_true, implies_true, or_true, true_or, or_false, false_or, Int.reduceEq, Int.one_ne_zero, Nat.reduceEqDiff, r0, rr, e14, t0', t2', q16, q17]
  refine ⟨fun g3 => ⟨fun g4 => (no _ (fun q => by have := q.2.1.2; omega)).2.1, fun g4 => ?_⟩, fun g3 => (no _ (fun q => g3 q.2.1.1)).2.1⟩
  simp only [k17_72, k17_73, k17_76 hc, k17_79 hc, k17_82, k17_83, k17_84, k17_85, k17_88, k17_89, k17_92, k17_95, k17_96, k17_97, k17_98, k17_99, k17_100, NS_lo hc, NS_g hc, NS_f hc, NS_u hc, NS_uf hc, Nat.reduceLT, Nat.reduceLeDiff, Nat.reduceEqDiff, not_false_eq_true, qtc_1 hc, qlc_1 hc, qtc_2 hc, qlc_2 hc, qtc_3 hc, qlc_3 hc, qtc_4 hc, qlc_4 hc, qtc_5 hc, qlc_5 hc, qtc_6 hc, qlc_6 hc, qtc_7 hc, qlc_7 hc, qtc_8 hc, qlc_8 hc, qtc_9 hc, qlc_9 hc, qtc_10 hc, qlc_10 hc, qtc_11 hc, qlc_11 hc, qtc_12 hc, qlc_12 hc, qtc_13 hc, qlc_13 hc, qtc_14 hc, qlc_14 hc, qtc_15 hc, qlc_15 hc, qtc_17 hc, qlc_17 hc, qtc_19 hc, qlc_19 hc, qtc_20 hc, qlc_20 hc, qtc_22 hc, qlc_22 hc, qtc_23 hc, qlc_23 hc, qtc_18 hc, qlc_18 hc, qtc_21 hc, qlc_21 hc, c18_0, c18_1, c21_0, c21_1, qt_1, ql_1, qt_2, ql_2, qt_3, ql_3, qt_6, ql_6, qt_7, ql_7, qt_8, ql_8, qt_10, ql_10, qt_11, ql_11, qt_12, ql_12, qt_13, ql_13, qt_14, ql_14, qt_15, ql_15, qt_16, ql_16, qt_17, ql_17, qt_18, ql_18, qt_19, ql_19, qt_20, ql_20, qt_21, ql_21, qt_22, ql_22, qt_23, ql_23, qt_24, ql_24, qt_25, ql_25, qt_26, ql_26, qt_28, ql_28, qt_29, ql_29, qt_30, ql_30, qt_31, ql_31, qt_32, ql_32, qt_33, ql_33, qt_34, ql_34, qt_35, ql_35, qt_36, ql_36, qt_37, ql_37, qt_38, ql_38, qt_40, ql_40, qt_41, ql_41, qt_42, ql_42, qt_43, ql_43, qt_44, ql_44, qt_45, ql_45, qt_46, ql_46, qt_47, ql_47, qt_48, ql_48, qt_49, ql_49, qt_50, ql_50, qt_51, ql_51, qt_52, ql_52, qt_53, ql_53, qt_54, ql_54, qt_56, ql_56, qt_57, ql_57, qt_58, ql_58, qt_59, ql_59, qt_60, ql_60, qt_61, ql_61, qt_62, ql_62, qt_63, ql_63, qt_64, ql_64, qt_65, ql_65, qt_67, ql_67, qt_68, ql_68, qt_69, ql_69, qt_70, ql_70, qt_71, ql_71, qt_73, ql_73, qt_74, ql_74, qt_75, ql_75, qt_76, ql_76, qt_78, ql_78, qt_79, ql_79, qt_80, ql_80, qt_81, ql_81, qt_82, ql_82, qt_83, ql_83, qt_84, ql_84, qt_85, ql_85, qt_86, ql_86, qt_87, ql_87, qt_89, ql_89, qt_90, ql_90, qt_91, ql_91, qt_92, ql_92, qt_93, ql_93, qt_94, ql_94, qt_95, ql_95, qt_96, ql_96, qt_97, ql_97, qt_98, ql_98, qt_99, ql_99, qt_100, ql_100, qt_101, ql_101, qt_102, ql_102, qt_103, ql_103, qt_105, ql_105, qt_106, ql_106, qt_107, ql_107, qt_108, ql_108, qt_109, ql_109, qt_110, ql_110, qt_111, ql_111, qt_113, ql_113, qt_114, ql_114, qt_115, ql_115, qt_116, ql_116, qt_117, ql_117, qt_118, ql_118, qt_119, ql_119, qt_120, ql_120, qt_121, ql_121, qt_122, ql_122, qt_123, ql_123, qt_124, ql_124, qt_125, ql_125, qt_126, ql_126, qt_127, ql_127, qt_129, ql_129, qt_130, ql_130, qt_131, ql_131, qt_132, ql_132, qt_133, ql_133, qt_134, ql_134, qt_135, ql_135, qt_137, ql_137, qt_138, ql_138, qt_139, ql_139, qt_140, ql_140, qt_141, ql_141, qt_142, ql_142, qt_143, ql_143, qt_144, ql_144, qt_145, ql_145, qt_146, ql_146, qt_147, ql_147, qt_148, ql_148, qt_149, ql_149, qt_150, ql_150, qt_151, ql_151, qt_152, ql_152, qt_153, ql_153, qt_154, ql_154, qt_155, ql_155, qt_156, ql_156, qt_157, ql_157, qt_158, ql_158, qt_159, ql_159, qt_160, ql_160, qt_161, ql_161, qt_162, ql_162, qt_163, ql_163, qt_164, ql_164, qt_165, ql_165, qt_166, ql_166, qt_167, ql_167, qt_168, ql_168, qt_169, ql_169, qt_170, ql_170, qt_171, ql_171, qt_172, ql_172, qt_173, ql_173, qt_174, ql_174, qt_175, ql_175, qt_176, ql_176, qt_177, ql_177, qt_178, ql_178, qt_179, ql_179, qt_180, ql_180, qt_181, ql_181, qt_182, ql_182, qt_183, ql_183, qt_184, ql_184, qt_185, ql_185, qt_186, ql_186, qt_187, ql_187, qt_188, ql_188, true_implies, false_implies, not_true_eq_false, not_false_eq_true, true_and, and_true, implies_true, or_true, true_or, or_false, false_or, Int.reduceEq, Int.one_ne_zero, Nat.reduceEqDiff, hco, c_nn, Int.toNat_natCast, s0, s40, hS, z0, Nat.reduceAdd, Int.reduceLE, Int.reduceLT, m37]
  refine ⟨fun g5 => (no _ (fun q => q.2.2.1.1 g5)).2.2, fun g5 => ⟨fun g6 => ?_, fun g6 => (no _ (fun q => g6 q.2.2.1.2)).2.2⟩⟩
  simp only [k17_105, k17_106, k17_109, k17_112, k17_113, k17_114, k17_115, k17_116, k17_117, k17_120, k17_121, k17_124, k17_125, NS_lo hc, NS_g hc, NS_f hc, NS_u hc, NS_uf hc, Nat.reduceLT, Nat.reduceLeDiff, Nat.reduceEqDiff, not_false_eq_true, qt_1, ql_1, qt_2, ql_2, qt_3, ql_3, qt_6, ql_6, qt_7, ql_7, qt_8, ql_8, qt_10, ql_10, qt_11, ql_11, qt_12, ql_12, qt_13, ql_13, qt_14, ql_14, qt_15, ql_15, qt_16, ql_16, qt_17, ql_17, qt_18, ql_18, qt_19, ql_19, qt_20, ql_20, qt_21, ql_21, qt_22, ql_22, qt_23, ql_23, qt_24, ql_24, qt_25, ql_25, qt_26, ql_26, qt_28, ql_28, qt_29, ql_29, qt_30, ql_30, qt_31, ql_31, qt_32, ql_32, qt_33, ql_33, qt_34, ql_34, qt_35, ql_35, qt_36, ql_36, qt_37, ql_37, qt_38, ql_38, qt_40, ql_40, qt_41, ql_41, qt_42, ql_42, qt_43, ql_43, qt_44, ql_44, qt_45, ql_45, qt_46, ql_46, qt_47, ql_47, qt_48, ql_48, qt_49, ql_49, qt_50, ql_50, qt_51, ql_51, qt_52, ql_52, qt_53, ql_53, qt_54, ql_54, qt_56, ql_56, qt_57, ql_57, qt_58, ql_58, qt_59, ql_59, qt_60, ql_60, qt_61, ql_61, qt_62, ql_62, qt_63, ql_63, qt_64, ql_64, qt_65, ql_65, qt_67, ql_67, qt_68, ql_68, qt_69, ql_69, qt_70, ql_70, qt_71, ql_71, qt_73, ql_73, qt_74, ql_74, qt_75, ql_75, qt_76, ql_76, qt_78, ql_78, qt_79, ql_79, qt_80, ql_80, qt_81, ql_81, qt_82, ql_82, qt_83, ql_83, qt_84, ql_84, qt_85, ql_85, qt_86, ql_86, qt_87, ql_87, qt_89, ql_89, qt_90, ql_90, qt_91, ql_91, qt_92, ql_92, qt_93, ql_93, qt_94, ql_94, qt_95, ql_95, qt_96, ql_96, qt_97, ql_97, qt_98, ql_98, qt_99, ql_99, qt_100, ql_100, qt_101, ql_101, qt_102, ql_102, qt_103, ql_103, qt_105, ql_105, qt_106, ql_106, qt_107, ql_107, qt_108, ql_108, qt_109, ql_109, qt_110, ql_110, qt_111, ql_111, qt_113, ql_113, qt_114, ql_114, qt_115, ql_115, qt_116, ql_116, qt_117, ql_117, qt_118, ql_118, qt_119, ql_119, qt_120, ql_120, qt_121, ql_121, qt_122, ql_122, qt_123, ql_123, qt_124, ql_124, qt_125, ql_125, qt_126, ql_126, qt_127, ql_127, qt_129, ql_129, qt_130, ql_130, qt_131, ql_131, qt_132, ql_132, qt_133, ql_133, qt_134, ql_134, qt_135, ql_135, qt_137, ql_137, qt_138, ql_138, qt_139, ql_139, qt_140, ql_140, qt_141, ql_141, qt_142, ql_142, qt_143, ql_143, qt_144, ql_144, qt_145, ql_145, qt_146, ql_146, qt_147, ql_147, qt_148, ql_148, qt_149, ql_149, qt_150, ql_150, qt_151, ql_151, qt_152, ql_152, qt_153, ql_153, qt_154, ql_154, qt_155, ql_155, qt_156, ql_156, qt_157, ql_157, qt_158, ql_158, qt_159, ql_159, qt_160, ql_160, qt_161, ql_161, qt_162, ql_162, qt_163, ql_163, qt_164, ql_164, qt_165, ql_165, qt_166, ql_166, qt_167, ql_167, qt_168, ql_168, qt_169, ql_169, qt_170, ql_170, qt_171, ql_171, qt_172, ql_172, qt_173, ql_173, qt_174, ql_174, qt_175, ql_175, qt_176, ql_176, qt_177, ql_177, qt_178, ql_178, qt_179, ql_179, qt_180, ql_180, qt_181, ql_181, qt_182, ql_182, qt_183, ql_183, qt_184, ql_184, qt_185, ql_185, qt_186, ql_186, qt_187, ql_187, qt_188, ql_188, true_implies, false_implies, not_true_eq_false, not_false_eq_true, true_and, and_true, implies_true, or_true, true_or, or_false, false_or, Int.reduceEq, Int.one_ne_zero, Nat.reduceEqDiff, s0, s40, z1, Nat.reduceAdd, Int.reduceLE, Int.reduceLT, m38]
  exact ⟨fun g7 => k1 ⟨⟨by omega, g2⟩, ⟨g3, by omega⟩, ⟨g5, g6⟩, g7⟩, fun g7 => k0 (fun q => g7 q.2.2.2)⟩
/-- seekGuard, from a loop outwards -/
theorem n19_l (hc : q_C c) (hk : CK C r G pl V S K Ln) (hp : PRO G pl V S K Ln) (hco : r 72 2 = c) (k0 : 0 ≤ k) (k40 : k < 40) (r0 : 0 ≤ root) (r1 : root < V) : ∀ (n : Nat) (l : Int) (p : Int × Int) (l5 : V2) (o : Int), (n : Int) + o = 5 → 0 ≤ o → PD G n l → (l = -1 ∨ (0 ≤ l ∧ l < Ln)) → Q (.inl none) bb (NS c C (GS r k (gd G root n l p))) → qx sc (D + 1) 19 39 [vr 72, vi k, vi root, vi l, vi o, l5] [] (0, 0) bb (NS c C (GS r k p)) Q := by
  intro n
  induction n with
  | zero =>
    intro l p l5 o ho o0 hpd hl kk
    have e : l = -1 := hpd
    subst e
    rw [k19_39]
    simp only [k19_40, k19_41, k19_133, true_implies, false_implies, not_true_eq_false, not_false_eq_true, true_and, and_true, implies_true, or_true, true_or, or_false, false_or, Int.reduceEq, Int.one_ne_zero, Nat.reduceEqDiff]
    exact kk
  | succ n ih =>
    intro l p l5 o ho o0 hpd hl kk
    rw [gd] at kk
    rw [k19_39]
    simp only [k19_40, k19_41, k19_133]
    refine ⟨fun e => ?_, fun e => ?_⟩
    · rw [if_pos e] at kk; exact kk
    · rw [if_neg e] at kk
      have hl' : 0 ≤ l ∧ l < Ln := by omega
      have hpd' : PD G n (gL G l).2 := by
        rcases hpd with h | h
        · exact absurd h e
        · exact h.2
      obtain ⟨w1, w2, w3, w4, w5, -⟩ := PRO_l hp hl'.1 hl'.2
      have hb := hp.2.1
      have l40 : l < 40 := by omega
      have l00 : 0 ≤ l := hl'.1
      have s0 : 0 ≤ (gL G l).1 := w1.1
      have s40 : (gL G l).1 < 40 := by omega
      have e15 : C 15 l = (gL G l).1 := hk.1.2.2 l hl'.1 hl'.2
      have hm := (hk.2.2.2.2.1 _ w1.1 w1.2).2
      rw [w3] at hm
      obtain ⟨⟨m31, -⟩, -⟩ := hm (by omega)
      have e9 : C 9 (gL G l).1 = (gL G l).2 := by rw [(hk.1.1 _ w1.1 w1.2).2.2.2.2.2.2.2.1]; exact w2.2.2
      have co : ∀ p, GS r k p 72 2 = c := fun p => by rw [GS_ne (by decide)]; exact hco
      have o5 : o < 5 := by omega
      -- the end of a turn
      have fin : ∀ (p' : Int × Int) (l5 : V2), p' = gd1 G root l p → qx sc (D + 1) 19 116 [vr 72, vi k, vi root, vi l, vi o, vi (gL G l).1] [] (0, 0) bb (NS c C (GS r k p')) Q := by
        intro p' l5 hp'
        subst hp'
        simp only [k19_116, k19_117, k19_120 hc, k19_123, k19_125, k19_126, k19_127, k19_130, NS_lo hc, NS_g hc, NS_f hc, NS_u hc, NS_uf hc, Nat.reduceLT, Nat.reduceLeDiff, Nat.reduceEqDiff, not_false_eq_true, qtc_1 hc, qlc_1 hc, qtc_2 hc, qlc_2 hc, qtc_3 hc, qlc_3 hc, qtc_4 hc, qlc_4 hc, qtc_5 hc, qlc_5 hc, qtc_6 hc, qlc_6 hc, qtc_7 hc, qlc_7 hc, qtc_8 hc, qlc_8 hc, qtc_9 hc, qlc_9 hc, qtc_10 hc, qlc_10 hc, qtc_11 hc, qlc_11 hc, qtc_12 hc, qlc_12 hc, qtc_13 hc, qlc_13 hc, qtc_14 hc, qlc_14 hc, qtc_15 hc, qlc_15 hc, qtc_17 hc, qlc_17 hc, qtc_19 hc, qlc_19 hc, qtc_20 hc, qlc_20 hc, qtc_22 hc, qlc_22 hc, qtc_23 hc, qlc_23 hc, qtc_18 hc, qlc_18 hc, qtc_21 hc, qlc_21 hc, c18_0, c18_1, c21_0, c21_1, true_implies, false_implies, not_true_eq_false, not_false_eq_true, true_and, and_true, implies_true, or_true, true_or, or_false, false_or, Int.reduceEq, Int.one_ne_zero, Nat.reduceEqDiff, co, c_nn, Int.toNat_natCast, s0, s40, e9]
        refine ⟨by unfold q_R; omega, ih (gL G l).2 _ _ (o + 1) (by omega) (by omega) hpd' (by omega) kk⟩
      have mg : ∀ p, GS r k p 31 (gL G l).1 = (gP G l).1 := fun p => by rw [GS_ne (by decide)]; exact m31
      simp only [k19_44, k19_46, k19_47, k19_50, k19_51, k19_54 hc, k19_57, k19_58, k19_59, k19_61, k19_62, k19_63, k19_66, k19_69, k19_71, k19_72, NS_lo hc, NS_g hc, NS_f hc, NS_u hc, NS_uf hc, Nat.reduceLT, Nat.reduceLeDiff, Nat.reduceEqDiff, not_false_eq_true, qtc_1 hc, qlc_1 hc, qtc_2 hc, qlc_2 hc, qtc_3 hc, qlc_3 hc, qtc_4 hc, qlc_4 hc, qtc_5 hc, qlc_5 hc, qtc_6 hc, qlc_6 hc, qtc_7 hc, qlc_7 hc, qtc_8 hc, qlc_8 hc, qtc_9 hc, qlc_9 hc, qtc_10 hc, qlc_10 hc, qtc_11 hc, qlc_11 hc, qtc_12 hc, qlc_12 hc, qtc_13 hc, qlc_13 hc, qtc_14 hc, qlc_14 hc, qtc_15 hc, qlc_15 hc, qtc_17 hc, qlc_17 hc, qtc_19 hc, qlc_19 hc, qtc_20 hc, qlc_20 hc, qtc_22 hc, qlc_22 hc, qtc_23 hc, qlc_23 hc, qtc_18 hc, qlc_18 hc, qtc_21 hc, qlc_21 hc, c18_0, c18_1, c21_0, c21_1, qt_1, ql_1, qt_2, ql_2, qt_3, ql_3, qt_6, ql_6, qt_7, ql_7, qt_8, ql_8, qt_10, ql_10, qt_11, ql_11, qt_12, ql_12, qt_13, ql_13, qt_14, ql_14, qt_15, ql_15, qt_16, ql_16, qt_17, ql_17, qt_18, ql_18, qt_19, ql_19, qt_20, ql_20, qt_21, ql_21, qt_22, ql_22, qt_23, ql_23, qt_24, ql_24, qt_25, ql_25, qt_26, ql_26, qt_28, ql_28, qt_29, ql_29, qt_30, ql_30, qt_31, ql_31, qt_32, ql_32, qt_33, ql_33, qt_34, ql_34, qt_35, ql_35, qt_36, ql_36, qt_37, ql_37, qt_38, ql_38, qt_40, ql_40, qt_41, ql_41, qt_42, ql_42, qt_43, ql_43, qt_44, ql_44, qt_45, ql_45, qt_46, ql_46, qt_47, ql_47, qt_48, ql_48, qt_49, ql_49, qt_50, ql_50, qt_51, ql_51, qt_52, ql_52, qt_53, ql_53, qt_54, ql_54, qt_56, ql_56, qt_57, ql_57, qt_58, ql_58, qt_59, ql_59, qt_60, ql_60, qt_61, ql_61, qt_62, ql_62, qt_63, ql_63, qt_64, ql_64, qt_65, ql_65, qt_67, ql_67, qt_68, ql_68, qt_69, ql_69, qt_70, ql_70, qt_71, ql_71, qt_73, ql_73, qt_74, ql_74, qt_75, ql_75, qt_76, ql_76, qt_78, ql_78, qt_79, ql_79, qt_80, ql_80, qt_81, ql_81, qt_82, ql_82, qt_83, ql_83, qt_84, ql_84, qt_85, ql_85, qt_86, ql_86, qt_87, ql_87, qt_89, ql_89, qt_90, ql_90, qt_91, ql_91, qt_92, ql_92, qt_93, ql_93, qt_94, ql_94, qt_95, ql_95, qt_96, ql_96, qt_97, ql_97, qt_98, ql_98, qt_99, ql_99, qt_100, ql_100, qt_101, ql_101, qt_102, ql_102, qt_103, ql_103, qt_105, ql_105, qt_106, ql_106, qt_107, ql_107, qt_108, ql_108, qt_109, ql_109, qt_110, ql_110, qt_111, ql_111, qt_113, ql_113, qt_114, ql_114, qt_115, ql_115, qt_116, ql_116, qt_117, ql_117, qt_118, ql_118, qt_119, ql_119, qt_120, ql_120, qt_121, ql_121, qt_122, ql_122, qt_123, ql_123, qt_124, ql_124, qt_125, ql_125, qt_126, ql_126, qt_127, ql_127, qt_129, ql_129, qt_130, ql_130, qt_131, ql_131, qt_132, ql_132, qt_133, ql_133, qt_134, ql_134, qt_135, ql_135, qt_137, ql_137, qt_138, ql_138, qt_139, ql_139, qt_140, ql_140, qt_141, ql_141, qt_142, ql_142, qt_143, ql_143, qt_144, ql_144, qt_145, ql_145, qt_146, ql_146, qt_147, ql_147, qt_148, ql_148, qt_149, ql_149, qt_150, ql_150, qt_151, ql_151, qt_152, ql_152, qt_153, ql_153, qt_154, ql_154, qt_155, ql_155, qt_156, ql_156, qt_157, ql_157, qt_158, ql_158, qt_159, ql_159, qt_160, ql_160, qt_161, ql_161, qt_162, ql_162, qt_163, ql_163, qt_164, ql_164, qt_165, ql_165, qt_166, ql_166, qt_167, ql_167, qt_168, ql_168, qt_169, ql_169, qt_170, ql_170, qt_171, ql_171, qt_172, ql_172, qt_173, ql_173, qt_174, ql_174, qt_175, ql_175, qt_176, ql_176, qt_177, ql_177, qt_178, ql_178, qt_179, ql_179, qt_180, ql_180, qt_181, ql_181, qt_182, ql_182, qt_183, ql_183, qt_184, ql_184, qt_185, ql_185, qt_186, ql_186, qt_187, ql_187, qt_188, ql_188, true_implies, false_implies, not_true_eq_false, not_false_eq_true, true_and, and_true, implies_true, or_true, true_or, or_false, false_or, Int.reduceEq, Int.one_ne_zero, Nat.reduceEqDiff, co, c_nn, Int.toNat_natCast, o5, l00, l40, e15, s0, s40, mg]
      refine ⟨fun g => ?_, fun g => ?_⟩
      · simp only [k19_75, k19_76, k19_79, k19_80, k19_81, k19_82, k19_83, k19_86, k19_87, k19_88, k19_89, NS_lo hc, NS_g hc, NS_f hc, NS_u hc, NS_uf hc, Nat.reduceLT, Nat.reduceLeDiff, Nat.reduceEqDiff, not_false_eq_true, qt_1, ql_1, qt_2, ql_2, qt_3, ql_3, qt_6, ql_6, qt_7, ql_7, qt_8, ql_8, qt_10, ql_10, qt_11, ql_11, qt_12, ql_12, qt_13, ql_13, qt_14, ql_14, qt_15, ql_15, qt_16, ql_16, qt_17, ql_17, qt_18, ql_18, qt_19, ql_19, qt_20, ql_20, qt_21, ql_21, qt_22, ql_22, qt_23, ql_23, qt_24, ql_24, qt_25, ql_25, qt_26, ql_26, qt_28, ql_28, qt_29, ql_29, qt_30, ql_30, qt_31, ql_31, qt_32, ql_32, qt_33, ql_33, qt_34, ql_34, qt_35, ql_35, qt_36, ql_36, qt_37, ql_37, qt_38, ql_38, qt_40, ql_40, qt_41, ql_41, qt_42, ql_42, qt_43, ql_43, qt_44, ql_44, qt_45, ql_45, qt_46, ql_46, qt_47, ql_47, qt_48, ql_48, qt_49, ql_49, qt_50, ql_50, qt_51, ql_51, qt_52, ql_52, qt_53, ql_53, qt_54, ql_54, qt_56, ql_56, qt_57, ql_57, qt_58, ql_58, qt_59, ql_59, qt_60, ql_60, qt_61, ql_61, qt_62, ql_62, qt_63, ql_63, qt_64, ql_64, qt_65, ql_65, qt_67, ql_67, qt_68, ql_68, qt_69, ql_69, qt_70, ql_70, qt_71, ql_71, qt_73, ql_73, qt_74, ql_74, qt_75, ql_75, qt_76, ql_76, qt_78, ql_78, qt_79, ql_79, qt_80, ql_80, qt_81, ql_81, qt_82, ql_82, qt_83, ql_83, qt_84, ql_84, qt_85, ql_85, qt_86, ql_86, qt_87, ql_87, qt_89, ql_89, qt_90, ql_90, qt_91, ql_91, qt_92, ql_92, qt_93, ql_93, qt_94, ql_94, qt_95, ql_95, qt_96, ql_96, qt_97, ql_97, qt_98, ql_98, qt_99, ql_99, qt_100, ql_100, qt_101, ql_101, qt_102, ql_102, qt_103, ql_103, qt_105, ql_105, qt_106, ql_106, qt_107, ql_107, qt_108, ql_108, qt_109, ql_109, qt_110, ql_110, qt_111, ql_111, qt_113, ql_113, qt_114, ql_114, qt_115, ql_115, qt_116, ql_116, qt_117, ql_117, qt_118, ql_118, qt_119, ql_119, qt_120, ql_120, qt_121, ql_121, qt_122, ql_122, qt_123, ql_123, qt_124, ql_124, qt_125, ql_125, qt_126, ql_126, qt_127, ql_127, qt_129, ql_129, qt_130, ql_130, qt_131, ql_131, qt_132, ql_132, qt_133, ql_133, qt_134, ql_134, qt_135, ql_135, qt_137, ql_137, qt_138, ql_138, qt_139, ql_139, qt_140, ql_140, qt_141, ql_141, qt_142, ql_142, qt_143, ql_143, qt_144, ql_144, qt_145, ql_145, qt_146, ql_146, qt_147, ql_147, qt_148, ql_148, qt_149, ql_149, qt_150, ql_150, qt_151, ql_151, qt_152, ql_152, qt_153, ql_153, qt_154, ql_154, qt_155, ql_155, qt_156, ql_156, qt_157, ql_157, qt_158, ql_158, qt_159, ql_159, qt_160, ql_160, qt_161, ql_161, qt_162, ql_162, qt_163, ql_163, qt_164, ql_164, qt_165, ql_165, qt_166, ql_166, qt_167, ql_167, qt_168, ql_168, qt_169, ql_169, qt_170, ql_170, qt_171, ql_171, qt_172, ql_172, qt_173, ql_173, qt_174, ql_174, qt_175, ql_175, qt_176, ql_176, qt_177, ql_177, qt_178, ql_178, qt_179, ql_179, qt_180, ql_180, qt_181, ql_181, qt_182, ql_182, qt_183, ql_183, qt_184, ql_184, qt_185, ql_185, qt_186, ql_186, qt_187, ql_187, qt_188, ql_188, true_implies, false_implies, not_true_eq_false, not_false_eq_true, true_and, and_true, implies_true, or_true, true_or, or_false, false_or, Int.reduceEq, Int.one_ne_zero, Nat.reduceEqDiff, k0, k40, GS_up]
        exact fin _ (vi 0) (by unfold gd1; rw [if_pos g])
      · simp only [k19_92, k19_93, k19_95, k19_96]
        refine n17 hc (CK_of hk (fun a i ha => GS_ne (by omega))) hp (co p) hl'.1 hl'.2 r0 r1 (fun h => ?_) (fun h => ?_)
        · simp only [q_kn_v, k19_99, k19_102, k19_103, k19_106, k19_107, k19_108, k19_109, k19_110, k19_113, k19_114, k19_115, NS_lo hc, NS_g hc, NS_f hc, NS_u hc, NS_uf hc, Nat.reduceLT, Nat.reduceLeDiff, Nat.reduceEqDiff, not_false_eq_true, qt_1, ql_1, qt_2, ql_2, qt_3, ql_3, qt_6, ql_6, qt_7, ql_7, qt_8, ql_8, qt_10, ql_10, qt_11, ql_11, qt_12, ql_12, qt_13, ql_13, qt_14, ql_14, qt_15, ql_15, qt_16, ql_16, qt_17, ql_17, qt_18, ql_18, qt_19, ql_19, qt_20, ql_20, qt_21, ql_21, qt_22, ql_22, qt_23, ql_23, qt_24, ql_24, qt_25, ql_25, qt_26, ql_26, qt_28, ql_28, qt_29, ql_29, qt_30, ql_30, qt_31, ql_31, qt_32, ql_32, qt_33, ql_33, qt_34, ql_34, qt_35, ql_35, qt_36, ql_36, qt_37, ql_37, qt_38, ql_38, qt_40, ql_40, qt_41, ql_41, qt_42, ql_42, qt_43, ql_43, qt_44, ql_44, qt_45, ql_45, qt_46, ql_46, qt_47, ql_47, qt_48, ql_48, qt_49, ql_49, qt_50, ql_50, qt_51, ql_51, qt_52, ql_52, qt_53, ql_53, qt_54, ql_54, qt_56, ql_56, qt_57, ql_57, qt_58, ql_58, qt_59, ql_59, qt_60, ql_60, qt_61, ql_61, qt_62, ql_62, qt_63, ql_63, qt_64, ql_64, qt_65, ql_65, qt_67, ql_67, qt_68, ql_68, qt_69, ql_69, qt_70, ql_70, qt_71, ql_71, qt_73, ql_73, qt_74, ql_74, qt_75, ql_75, qt_76, ql_76, qt_78, ql_78, qt_79, ql_79, qt_80, ql_80, qt_81, ql_81, qt_82, ql_82, qt_83, ql_83, qt_84, ql_84, qt_85, ql_85, qt_86, ql_86, qt_87, ql_87, qt_89, ql_89, qt_90, ql_90, qt_91, ql_91, qt_92, ql_92, qt_93, ql_93, qt_94, ql_94, qt_95, ql_95, qt_96, ql_96, qt_97, ql_97, qt_98, ql_98, qt_99, ql_99, qt_100, ql_100, qt_101, ql_101, qt_102, ql_102, qt_103, ql_103, qt_105, ql_105, qt_106, ql_106, qt_107, ql_107, qt_108, ql_108, qt_109, ql_109, qt_110, ql_110, qt_111, ql_111, qt_113, ql_113, qt_114, ql_114, qt_115, ql_115, qt_116, ql_116, qt_117, ql_117, qt_118, ql_118, qt_119, ql_119, qt_120, ql_120, qt_121, ql_121, qt_122, ql_122, qt_123, ql_123, qt_124, ql_124, qt_125, ql_125, qt_126, ql_126, qt_127, ql_127, qt_129, ql_129, qt_130, ql_130, qt_131, ql_131, qt_132, ql_132, qt_133, ql_133, qt_134, ql_134, qt_135, ql_135, qt_137, ql_137, qt_138, ql_138, qt_139, ql_139, qt_140, ql_140, qt_141, ql_141, qt_142, ql_142, qt_143, ql_143, qt_144, ql_144, qt_145, ql_145, qt_146, ql_146, qt_147, ql_147, qt_148, ql_148, qt_149, ql_149, qt_150, ql_150, qt_151, ql_151, qt_152, ql_152, qt_153, ql_153, qt_154, ql_154, qt_155, ql_155, qt_156, ql_156, qt_157, ql_157, qt_158, ql_158, qt_159, ql_159, qt_160, ql_160, qt_161, ql_161, qt_162, ql_162, qt_163, ql_163, qt_164, ql_164, qt_165, ql_165, qt_166, ql_166, qt_167, ql_167, qt_168, ql_168, qt_169, ql_169, qt_170, ql_170, qt_171, ql_171, qt_172, ql_172, qt_173, ql_173, qt_174, ql_174, qt_175, ql_175, qt_176, ql_176, qt_177, ql_177, qt_178, ql_178, qt_179, ql_179, qt_180, ql_180, qt_181, ql_181, qt_182, ql_182, qt_183, ql_183, qt_184, ql_184, qt_185, ql_185, qt_186, ql_186, qt_187, ql_187, qt_188, ql_188, true_implies, false_implies, not_true_eq_false, not_false_eq_true, true_and, and_true, implies_true, or_true, true_or, or_false, false_or, Int.reduceEq, Int.one_ne_zero, Nat.reduceEqDiff, k0, k40, GS_up]
          exact fin _ (vi 0) (by unfold gd1; rw [if_neg g, if_pos h])
        · simp only [q_kn_v, k19_99, true_implies, false_implies, not_true_eq_false, not_false_eq_true, true_and, and_true, implies_true, or_true, true_or, or_false, false_or, Int.reduceEq, Int.one_ne_zero, Nat.reduceEqDiff]
          exact fin _ (vi 0) (by unfold gd1; rw [if_neg g, if_neg h])
theorem n19 (hc : q_C c) (hk : CK C r G pl V S K Ln) (hp : PRO G pl V S K Ln) (hco : r 72 2 = c) (k0 : 0 ≤ k) (k1 : k < K) (h3 : r 73 k = -1) (h4 : r 74 k = -1) (kk : Q (.inl none) bb (NS c C (GS r k (gd G (RT G (gC G k).1).1 5 (gC G k).2.2 (-1, -1))))) : qx sc (D + 1) 19 0 [vr 72, vi k, vn, vn, vn, vn] [] (0, 0) bb (NS c C r) Q := by
  obtain ⟨⟨w1, w2, w3, w4, w5, w6, ⟨w7, w8⟩, -⟩, pd, b1, b2⟩ := PRO_k hp k0 k1
  have hb := hp.2.1
  have k40 : k < 40 := by omega
  have e28 : r 28 k = (gC G k).1 := (hk.2.2.2.2.2 k k0 k1).1
  have e12 : C 12 k = (gK G k).1 := (hk.1.2.1 k k0 k1).1
  have e9 : C 9 (gK G k).1 = (gC G k).2.2 := by rw [(hk.1.1 _ w1.1 w1.2).2.2.2.2.2.2.2.1]; exact w8
  have L0 : 0 ≤ (gC G k).1 := w4.1
  have LV : (gC G k).1 < V := by omega
  have L240 : (gC G k).1 < 240 := by omega
  have s0 : 0 ≤ (gK G k).1 := w1.1
  have s40 : (gK G k).1 < 40 := by omega
  obtain ⟨q16, -⟩ := RT_C hp.1 hb.2.1 hk.2.2.2.1.1 240 _ L240 L0 LV
  have rb := RT_b hp.1 hb.2.1 240 _ L240 L0 LV
  have eg : r = GS r k (-1, -1) := by
    funext b j
    unfold GS
    simp only [q_up_app]
    by_cases e1 : b = 74 ∧ j = k
    · rw [if_pos e1, e1.1, e1.2, h4]
    · rw [if_neg e1]
      by_cases e2 : b = 73 ∧ j = k
      · rw [if_pos e2, e2.1, e2.2, h3]
      · rw [if_neg e2]
  simp only [k19_0, k19_1, k19_4, k19_7, k19_8, k19_11, k19_14, k19_15, k19_16, k19_17, k19_18, k19_19, k19_22 hc, k19_25, k19_26, k19_29 hc, k19_32, k19_33, k19_34, k19_35, k19_36, k19_37, NS_lo hc, NS_g hc, NS_f hc, NS_u hc, NS_uf hc, Nat.reduceLT, Nat.reduceLeDiff, Nat.reduceEqDiff, not_false_eq_true, qtc_1 hc, qlc_1 hc, qtc_2 hc, qlc_2 hc, qtc_3 hc, qlc_3 hc, qtc_4 hc, qlc_4 hc, qtc_5 hc, qlc_5 hc, qtc_6 hc, qlc_6 hc, qtc_7 hc, qlc_7 hc, qtc_8 hc, qlc_8 hc, qtc_9 hc, qlc_9 hc, qtc_10 hc, qlc_10 hc, qtc_11 hc, qlc_11 hc, qtc_12 hc, qlc_12 hc, qtc_13 hc, qlc_13 hc, qtc_14 hc, qlc_14 hc, qtc_15 hc, qlc_15 hc, qtc_17 hc, qlc_17 hc, qtc_19 hc, qlc_19 hc, qtc_20 hc, qlc_20 hc, qtc_22 hc, qlc_22 hc, qtc_23 hc, qlc_23 hc, qtc_18 hc, qlc_18 hc, qtc_21 hc, qlc_21 hc, c18_0, c18_1, c21_0, c21_1, qt_1, ql_1, qt_2, ql_2, qt_3, ql_3, qt_6, ql_6, qt_7, ql_7, qt_8, ql_8, qt_10, ql_10, qt_11, ql_11, qt_12, ql_12, qt_13, ql_13, qt_14, ql_14, qt_15, ql_15, qt_16, ql_16, qt_17, ql_17, qt_18, ql_18, qt_19, ql_19, qt_20, ql_20, qt_21, ql_21, qt_22, ql_22, qt_23, ql_23, qt_24, ql_24, qt_25, ql_25, qt_26, ql_26, qt_28, ql_28, qt_29, ql_29, qt_30, ql_30, qt_31, ql_31, qt_32, ql_32, qt_33, ql_33, qt_34, ql_34, qt_35, ql_35, qt_36, ql_36, qt_37, ql_37, qt_38, ql_38, qt_40, ql_40, qt_41, ql_41, qt_42, ql_42, qt_43, ql_43, qt_44, ql_44, qt_45, ql_45, qt_46, ql_46, qt_47, ql_47, qt_48, ql_48, qt_49, ql_49, qt_50, ql_50, qt_51, ql_51, qt_52, ql_52, qt_53, ql_53, qt_54, ql_54, qt_56, ql_56, qt_57, ql_57, qt_58, ql_58, qt_59, ql_59, qt_60, ql_60, qt_61, ql_61, qt_62, ql_62, qt_63, ql_63, qt_64, ql_64, qt_65, ql_65, qt_67, ql_67, qt_68, ql_68, qt_69, ql_69, qt_70, ql_70, qt_71, ql_71, qt_73, ql_73, qt_74, ql_74, qt_75, ql_75, qt_76, ql_76, qt_78, ql_78, qt_79, ql_79, qt_80, ql_80, qt_81, ql_81, qt_82, ql_82, qt_83, ql_83, qt_84, ql_84, qt_85, ql_85, qt_86, ql_86, qt_87, ql_87, qt_89, ql_89, qt_90, ql_90, qt_91, ql_91, qt_92, ql_92, qt_93, ql_93, qt_94, ql_94, qt_95, ql_95, qt_96, ql_96, qt_97, ql_97, qt_98, ql_98, qt_99, ql_99, qt_100, ql_100, qt_101, ql_101, qt_102, ql_102, qt_103, ql_103, qt_105, ql_105, qt_106, ql_106, qt_107, ql_107, qt_108, ql_108, qt_109, ql_109, qt_110, ql_110, qt_111, ql_111, qt_113, ql_113, qt_114, ql_114, qt_115, ql_115, qt_116, ql_116, qt_117, ql_117, qt_118, ql_118, qt_119, ql_119, qt_120, ql_120, qt_121, ql_121, qt_122, ql_122, qt_123, ql_123, qt_124, ql_124, qt_125, ql_125, qt_126, ql_126, qt_127, ql_127, qt_129, ql_129, qt_130, ql_130, qt_131, ql_131, qt_132, ql_132, qt_133, ql_133, qt_134, ql_134, qt_135, ql_135, qt_137, ql_137, qt_138, ql_138, qt_139, ql_139, qt_140, ql_140, qt_141, ql_141, qt_142, ql_142, qt_143, ql_143, qt_144, ql_144, qt_145, ql_145, qt_146, ql_146, qt_147, ql_147, qt_148, ql_148, qt_149, ql_149, qt_150, ql_150, qt_151, ql_151, qt_152, ql_152, qt_153, ql_153, qt_154, ql_154, qt_155, ql_155, qt_156, ql_156, qt_157, ql_157, qt_158, ql_158, qt_159, ql_159, qt_160, ql_160, qt_161, ql_161, qt_162, ql_162, qt_163, ql_163, qt_164, ql_164, qt_165, ql_165, qt_166, ql_166, qt_167, ql_167, qt_168, ql_168, qt_169, ql_169, qt_170, ql_170, qt_171, ql_171, qt_172, ql_172, qt_173, ql_173, qt_174, ql_174, qt_175, ql_175, qt_176, ql_176, qt_177, ql_177, qt_178, ql_178, qt_179, ql_179, qt_180, ql_180, qt_181, ql_181, qt_182, ql_182, qt_183, ql_183, qt_184, ql_184, qt_185, ql_185, qt_186, ql_186, qt_187, ql_187, qt_188, ql_188, true_implies, false_implies, not_true_eq_false, not_false_eq_true, true_and, and_true, implies_true, or_true, true_or, or_false, false_or, Int.reduceEq, Int.one_ne_zero, Nat.reduceEqDiff, hco, c_nn, Int.toNat_natCast, k0, k40, e28, L0, L240, q16, e12, s0, s40, e9]
  have := n19_l (sc := sc) (D := D) (bb := bb) (Q := Q) hc hk hp hco k0 k40 rb.1 (by omega) 5 (gC G k).2.2 (-1, -1) vn 0 (by decide) (by decide) pd (by omega) kk
  rw [← eg] at this
  exact this
/-- what perform leaves, k checks being done -/
def GRI (r0 r : St) (c : Nat) (G : GT) (pl : Int → Int) (V : Nat) (k : Nat) : Prop := (∀ a i, ¬ (72 ≤ a ∧ a ≤ 76) → r a i = r0 a i) ∧ r 72 2 = c ∧ (∀ i, ¬ (i = 2 ∨ i = 8) → r 72 i = r0 72 i) ∧ (∀ j : Int, 0 ≤ j → j < k → r 73 j = (gdr G pl V j).1 ∧ r 74 j = (gdr G pl V j).2) ∧
  r 72 8 = l_sm (fun j => if (gdr G pl V j).1 = -1 then 0 else 1) k ∧ (∀ l : Int, 0 ≤ l → l < 40 → r 75 l = l_sm (fun j => if (gdr G pl V j).1 = l then 1 else 0) k ∧ r 76 l = l_sm (fun j => if (gdr G pl V j).1 = l then 2 - shU G pl V (-1) j - shD G pl V (-1) j else 0) k)
end GRD
