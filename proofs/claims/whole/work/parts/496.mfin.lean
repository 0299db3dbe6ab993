/-! mostFinite -/
def mf_r (G : GT) (tn : Int) (v : Nat) : Int := max 0 (tn * (gV G v).2.2.1)
def mf_1 (τ : Int × Int × Int) (tn m : Int) : Int := if τ.1 = 1 then max m (tn * τ.2.1) else m
def mf_m (G : GT) (tn : Int) : Nat → Int
  | 0 => 0
  | v + 1 => mf_1 (gV G v).2.2.2.2 tn (mf_1 (gV G v).2.2.2.1 tn (mf_m G tn v))
section MFN
variable {sc : Nat × (Nat → Int32)} {D : Nat} {bb : Bool} {Q : QP} {c a V v : Nat} {σ C r : St} {G : GT} {pl q : Int → Int} {b wo tn m N i : Int}
theorem WV_a (h : WV G pl N i) : (-99 ≤ (gV G i).2.2.1 ∧ (gV G i).2.2.1 ≤ 99) ∧ TOK pl i (gV G i).2.2.2.1 ∧ TOK pl i (gV G i).2.2.2.2 := by
  by_cases hm : v_meet (gV G i)
  · have e := (WV_m h hm).2.2.1
    rw [e]
    exact ⟨by dsimp only; omega, TOK_0, TOK_0⟩
  · exact (WV_n h hm).2
theorem WV_p (h : WV G pl N i) (hf : (gV G i).1.2.2.2.1 = -1 ∨ v_meet (gV G i)) : (gV G i).2.2.1 = 0 := by
  by_cases hm : v_meet (gV G i)
  · rw [(WV_m h hm).2.2.1]
  · have hf' : (gV G i).1.2.2.2.1 = -1 := by
      rcases hf with h | h
      · exact h
      · exact absurd h hm
    obtain ⟨-, h⟩ := h
    rcases h with h | h | h | h | h | h
    · rw [h.2.2]
    · obtain ⟨a, b1, c⟩ := h
      rcases c with ⟨c1, c2, c3, c4⟩ | ⟨c1, c2, c3, c4⟩ | ⟨c1, c2, c3, c4⟩ | ⟨c1, c2, c4⟩
      · rw [c4]
      · rw [c4]
      · omega
      · rw [c4]
    · have := h.2.1; omega
    · obtain ⟨a, b1, c, d, ⟨e0, e1⟩, f⟩ := h
      rcases f with ⟨f1, f2, f3, f4⟩ | ⟨f1, f2, f3, f4⟩ <;> rw [f4]
    · exact absurd (Or.inl h.1) hm
    · exact absurd (Or.inr h.1) hm
theorem mf_1_b {τ : Int × Int × Int} (ht : TOK pl i τ) (hn : tn = 1 ∨ tn = -1) (h0 : 0 ≤ m) (h1 : m ≤ 99) : m ≤ mf_1 τ tn m ∧ mf_1 τ tn m ≤ 99 := by
  unfold mf_1
  obtain ⟨-, ht⟩ := ht
  split
  · rcases hn with rfl | rfl <;> omega
  · omega
theorem mf_m_b (hn : tn = 1 ∨ tn = -1) (hW : ∀ i : Int, 0 ≤ i → i < V → WV G pl V i) : ∀ v : Nat, v ≤ V → 0 ≤ mf_m G tn v ∧ mf_m G tn v ≤ 99 := by
  intro v
  induction v with
  | zero => intro _; exact ⟨Int.le_refl 0, (by decide : (0 : Int) ≤ 99)⟩
  | succ v ih =>
    intro hv
    obtain ⟨a1, a2⟩ := ih (by omega)
    obtain ⟨-, u1, u2⟩ := WV_a (hW v (by omega) (by omega))
    obtain ⟨b1, b2⟩ := mf_1_b u1 hn a1 a2
    obtain ⟨c1, c2⟩ := mf_1_b u2 hn (by omega) b2
    rw [mf_m]
    omega
/-- each number that is told is no more -/
theorem mf_m_ge (hn : tn = 1 ∨ tn = -1) (hW : ∀ i : Int, 0 ≤ i → i < V → WV G pl V i) : ∀ v : Nat, v ≤ V → ∀ w : Nat, w < v → ((gV G w).2.2.2.1.1 = 1 → tn * (gV G w).2.2.2.1.2.1 ≤ mf_m G tn v) ∧ ((gV G w).2.2.2.2.1 = 1 → tn * (gV G w).2.2.2.2.2.1 ≤ mf_m G tn v) := by
  intro v
  induction v with
  | zero => intro _ w hw; omega
  | succ v ih =>
    intro hv w hw
    obtain ⟨a1, a2⟩ := mf_m_b hn hW v (by omega)
    obtain ⟨-, u1, u2⟩ := WV_a (hW v (by omega) (by omega))
    obtain ⟨b1, b2⟩ := mf_1_b u1 hn a1 a2
    obtain ⟨c1, c2⟩ := mf_1_b u2 hn (by omega) b2
    rw [mf_m]
    by_cases e : w = v
    · subst e
      refine ⟨fun h => ?_, fun h => ?_⟩
      · have : tn * (gV G w).2.2.2.1.2.1 ≤ mf_1 (gV G w).2.2.2.1 tn (mf_m G tn w) := by
          unfold mf_1
          rw [if_pos h]
          omega
        omega
      · generalize mf_1 (gV G w).2.2.2.1 tn (mf_m G tn w) = z at *
        unfold mf_1
        rw [if_pos h]
        omega
    · obtain ⟨d1, d2⟩ := ih (by omega) w (by omega)
      refine ⟨fun h => ?_, fun h => ?_⟩
      · have := d1 h; omega
      · have := d2 h; omega
theorem mf_r_eq (hW : ∀ i : Int, 0 ≤ i → i < V → WV G pl V i) (ht : tn = if b = 3 then -1 else 1) (hv : v < V) : mf_r G tn v = l_pl (E_G G q b wo) v := by
  have hw := hW v (by omega) (by omega)
  unfold mf_r
  by_cases hm : v_meet (gV G v)
  · have e : E_G G q b wo v = .inl ((gV G v).1.2.2.2.1.toNat, (gV G v).1.2.2.2.2.toNat) := by unfold E_G; rw [if_pos hm]
    rw [WV_p hw (Or.inr hm)]
    unfold l_pl
    rw [e]
    simp
  · have e : E_G G q b wo v = .inr (e_fr b (gV G v), if (v : Int) = wo then .inl none else e_tm q b (e_tt b (gV G v))) := by unfold E_G; rw [if_neg hm]
    rw [l_pl_of e]
    unfold e_fr l_uf
    by_cases hf : (gV G v).1.2.2.2.1 = -1
    · rw [if_pos hf, WV_p hw (Or.inl hf)]
      simp
    · rw [if_neg hf, ht]
      dsimp only
      split <;> omega
theorem l_sm_eq {f g : Nat → Int} : ∀ V : Nat, (∀ v, v < V → f v = g v) → l_sm f V = l_sm g V := by
  intro V
  induction V with
  | zero => intro _; rfl
  | succ V ih => intro h; rw [l_sm, l_sm, ih (fun v hv => h v (by omega)), h V (by omega)]
/-- one direction -/
theorem n4_i0 (hc : q_C c) (h : CV c C r G V pl) (hv : v < V) (hn : tn = 1 ∨ tn = -1) {l1 l4 : V2} (kk : qx sc D 4 55 [vr 55, l1, vi tn, vi (mf_1 (gV G v).2.2.2.1 tn m), l4, vi v, vi 1] [] (0, 0) bb (NS c C r) Q) : qx sc D 4 55 [vr 55, l1, vi tn, vi m, l4, vi v, vi 0] [] (0, 0) bb (NS c C r) Q := by
  obtain ⟨-, ru, -⟩ := CV_raw h hv
  have hu := (WV_a (h.1 v (by omega) (by omega)).2).2.1
  rw [← ru] at kk hu
  obtain ⟨-, hu⟩ := hu
  dsimp only at hu
  have h240 := h.2.2.1
  have v0 : (0 : Int) ≤ (v : Int) := by omega
  have v1 : (v : Int) < 240 := by omega
  have e19 : NS c C r 19 v = r 19 v := NS_lo hc (by decide) (by decide)
  have e22 : NS c C r 22 v = r 22 v := NS_lo hc (by decide) (by decide)
  have z0 : (0 : Int).toNat = 0 := rfl
  unfold mf_1 at kk
  dsimp only at kk
  rw [k4_55]
  simp only [k4_57, k4_58, k4_61, k4_62, k4_65, k4_68, k4_70, k4_71, k4_73, k4_74, k4_75, k4_78, k4_79, k4_80, k4_81, k4_84, k4_87, k4_89, k4_90, k4_92, k4_93, k4_94, k4_97, k4_98, k4_101, z0, Nat.reduceAdd, qt_1, ql_1, qt_2, ql_2, qt_3, ql_3, qt_6, ql_6, qt_7, ql_7, qt_8, ql_8, qt_10, ql_10, qt_11, ql_11, qt_12, ql_12, qt_13, ql_13, qt_14, ql_14, qt_15, ql_15, qt_16, ql_16, qt_17, ql_17, qt_18, ql_18, qt_19, ql_19, qt_20, ql_20, qt_21, ql_21, qt_22, ql_22, qt_23, ql_23, qt_24, ql_24, qt_25, ql_25, qt_26, ql_26, qt_28, ql_28, qt_29, ql_29, qt_30, ql_30, qt_31, ql_31, qt_32, ql_32, qt_33, ql_33, qt_34, ql_34, qt_35, ql_35, qt_36, ql_36, qt_37, ql_37, qt_38, ql_38, qt_40, ql_40, qt_41, ql_41, qt_42, ql_42, qt_43, ql_43, qt_44, ql_44, qt_45, ql_45, qt_46, ql_46, qt_47, ql_47, qt_48, ql_48, qt_49, ql_49, qt_50, ql_50, qt_51, ql_51, qt_52, ql_52, qt_53, ql_53, qt_54, ql_54, qt_56, ql_56, qt_57, ql_57, qt_58, ql_58, qt_59, ql_59, qt_60, ql_60, qt_61, ql_61, qt_62, ql_62, qt_63, ql_63, qt_64, ql_64, qt_65, ql_65, qt_67, ql_67, qt_68, ql_68, qt_69, ql_69, qt_70, ql_70, qt_71, ql_71, qt_73, ql_73, qt_74, ql_74, qt_75, ql_75, qt_76, ql_76, qt_78, ql_78, qt_79, ql_79, qt_80, ql_80, qt_81, ql_81, qt_82, ql_82, qt_83, ql_83, qt_84, ql_84, qt_85, ql_85, qt_86, ql_86, qt_87, ql_87, qt_89, ql_89, qt_90, ql_90, qt_91, ql_91, qt_92, ql_92, qt_93, ql_93, qt_94, ql_94, qt_95, ql_95, qt_96, ql_96, qt_97, ql_97, qt_98, ql_98, qt_99, ql_99, qt_100, ql_100, qt_101, ql_101, qt_102, ql_102, qt_103, ql_103, qt_105, ql_105, qt_106, ql_106, qt_107, ql_107, qt_108, ql_108, qt_109, ql_109, qt_110, ql_110, qt_111, ql_111, qt_113, ql_113, qt_114, ql_114, qt_115, ql_115, qt_116, ql_116, qt_117, ql_117, qt_118, ql_118, qt_119, ql_119, qt_120, ql_120, qt_121, ql_121, qt_122, ql_122, qt_123, ql_123, qt_124, ql_124, qt_125, ql_125, qt_126, ql_126, qt_127, ql_127, qt_129, ql_129, qt_130, ql_130, qt_131, ql_131, qt_132, ql_132, qt_133, ql_133, qt_134, ql_134, qt_135, ql_135, qt_137, ql_137, qt_138, ql_138, qt_139, ql_139, qt_140, ql_140, qt_141, ql_141, qt_142, ql_142, qt_143, ql_143, qt_144, ql_144, qt_145, ql_145, qt_146, ql_146, qt_147, ql_147, qt_148, ql_148, qt_149, ql_149, qt_150, ql_150, qt_151, ql_151, qt_152, ql_152, qt_153, ql_153, qt_154, ql_154, qt_155, ql_155, qt_156, ql_156, qt_157, ql_157, qt_158, ql_158, qt_159, ql_159, qt_160, ql_160, qt_161, ql_161, qt_162, ql_162, qt_163, ql_163, qt_164, ql_164, qt_165, ql_165, qt_166, ql_166, qt_167, ql_167, qt_168, ql_168, qt_169, ql_169, qt_170, ql_170, qt_171, ql_171, qt_172, ql_172, qt_173, ql_173, qt_174, ql_174, qt_175, ql_175, qt_176, ql_176, qt_177, ql_177, qt_178, ql_178, qt_179, ql_179, qt_180, ql_180, qt_181, ql_181, qt_182, ql_182, qt_183, ql_183, qt_184, ql_184, qt_185, ql_185, qt_186, ql_186, qt_187, ql_187, qt_188, ql_188, true_implies, false_implies, not_true_eq_false, not_false_eq_true, true_and, and_true, implies_true, or_true, true_or, or_false, false_or, Int.reduceEq, Int.one_ne_zero, Nat.reduceEqDiff, v0, v1, e19, e22, Int.reduceLE, Int.reduceLT, Int.reduceAdd]
  refine ⟨fun g => ?_, fun g => ?_⟩
  · rw [if_pos g] at kk
    exact ⟨by rcases hn with rfl | rfl <;> (unfold q_R; omega), by decide, kk⟩
  · rw [if_neg g] at kk
    exact ⟨by decide, kk⟩
theorem n4_i1 (hc : q_C c) (h : CV c C r G V pl) (hv : v < V) (hn : tn = 1 ∨ tn = -1) {l1 l4 : V2} (kk : qx sc D 4 55 [vr 55, l1, vi tn, vi (mf_1 (gV G v).2.2.2.2 tn m), l4, vi v, vi 2] [] (0, 0) bb (NS c C r) Q) : qx sc D 4 55 [vr 55, l1, vi tn, vi m, l4, vi v, vi 1] [] (0, 0) bb (NS c C r) Q := by
  obtain ⟨-, -, ru⟩ := CV_raw h hv
  have hu := (WV_a (h.1 v (by omega) (by omega)).2).2.2
  rw [← ru] at kk hu
  obtain ⟨-, hu⟩ := hu
  dsimp only at hu
  have h240 := h.2.2.1
  have v0 : (0 : Int) ≤ (v : Int) := by omega
  have v1 : (v : Int) < 240 := by omega
  have e20 : NS c C r 20 v = r 20 v := NS_lo hc (by decide) (by decide)
  have e23 : NS c C r 23 v = r 23 v := NS_lo hc (by decide) (by decide)
  have z1 : (1 : Int).toNat = 1 := rfl
  unfold mf_1 at kk
  dsimp only at kk
  rw [k4_55]
  simp only [k4_57, k4_58, k4_61, k4_62, k4_65, k4_68, k4_70, k4_71, k4_73, k4_74, k4_75, k4_78, k4_79, k4_80, k4_81, k4_84, k4_87, k4_89, k4_90, k4_92, k4_93, k4_94, k4_97, k4_98, k4_101, z1, Nat.reduceAdd, qt_1, ql_1, qt_2, ql_2, qt_3, ql_3, qt_6, ql_6, qt_7, ql_7, qt_8, ql_8, qt_10, ql_10, qt_11, ql_11, qt_12, ql_12, qt_13, ql_13, qt_14, ql_14, qt_15, ql_15, qt_16, ql_16, qt_17, ql_17, qt_18, ql_18, qt_19, ql_19, qt_20, ql_20, qt_21, ql_21, qt_22, ql_22, qt_23, ql_23, qt_24, ql_24, qt_25, ql_25, qt_26, ql_26, qt_28, ql_28, qt_29, ql_29, qt_30, ql_30, qt_31, ql_31, qt_32, ql_32, qt_33, ql_33, qt_34, ql_34, qt_35, ql_35, qt_36, ql_36, qt_37, ql_37, qt_38, ql_38, qt_40, ql_40, qt_41, ql_41, qt_42, ql_42, qt_43, ql_43, qt_44, ql_44, qt_45, ql_45, qt_46, ql_46, qt_47, ql_47, qt_48, ql_48, qt_49, ql_49, qt_50, ql_50, qt_51, ql_51, qt_52, ql_52, qt_53, ql_53, qt_54, ql_54, qt_56, ql_56, qt_57, ql_57, qt_58, ql_58, qt_59, ql_59, qt_60, ql_60, qt_61, ql_61, qt_62, ql_62, qt_63, ql_63, qt_64, ql_64, qt_65, ql_65, qt_67, ql_67, qt_68, ql_68, qt_69, ql_69, qt_70, ql_70, qt_71, ql_71, qt_73, ql_73, qt_74, ql_74, qt_75, ql_75, qt_76, ql_76, qt_78, ql_78, qt_79, ql_79, qt_80, ql_80, qt_81, ql_81, qt_82, ql_82, qt_83, ql_83, qt_84, ql_84, qt_85, ql_85, qt_86, ql_86, qt_87, ql_87, qt_89, ql_89, qt_90, ql_90, qt_91, ql_91, qt_92, ql_92, qt_93, ql_93, qt_94, ql_94, qt_95, ql_95, qt_96, ql_96, qt_97, ql_97, qt_98, ql_98, qt_99, ql_99, qt_100, ql_100, qt_101, ql_101, qt_102, ql_102, qt_103, ql_103, qt_105, ql_105, qt_106, ql_106, qt_107, ql_107, qt_108, ql_108, qt_109, ql_109, qt_110, ql_110, qt_111, ql_111, qt_113, ql_113, qt_114, ql_114, qt_115, ql_115, qt_116, ql_116, qt_117, ql_117, qt_118, ql_118, qt_119, ql_119, qt_120, ql_120, qt_121, ql_121, qt_122, ql_122, qt_123, ql_123, qt_124, ql_124, qt_125, ql_125, qt_126, ql_126, qt_127, ql_127, qt_129, ql_129, qt_130, ql_130, qt_131, ql_131, qt_132, ql_132, qt_133, ql_133, qt_134, ql_134, qt_135, ql_135, qt_137, ql_137, qt_138, ql_138, qt_139, ql_139, qt_140, ql_140, qt_141, ql_141, qt_142, ql_142, qt_143, ql_143, qt_144, ql_144, qt_145, ql_145, qt_146, ql_146, qt_147, ql_147, qt_148, ql_148, qt_149, ql_149, qt_150, ql_150, qt_151, ql_151, qt_152, ql_152, qt_153, ql_153, qt_154, ql_154, qt_155, ql_155, qt_156, ql_156, qt_157, ql_157, qt_158, ql_158, qt_159, ql_159, qt_160, ql_160, qt_161, ql_161, qt_162, ql_162, qt_163, ql_163, qt_164, ql_164, qt_165, ql_165, qt_166, ql_166, qt_167, ql_167, qt_168, ql_168, qt_169, ql_169, qt_170, ql_170, qt_171, ql_171, qt_172, ql_172, qt_173, ql_173, qt_174, ql_174, qt_175, ql_175, qt_176, ql_176, qt_177, ql_177, qt_178, ql_178, qt_179, ql_179, qt_180, ql_180, qt_181, ql_181, qt_182, ql_182, qt_183, ql_183, qt_184, ql_184, qt_185, ql_185, qt_186, ql_186, qt_187, ql_187, qt_188, ql_188, true_implies, false_implies, not_true_eq_false, not_false_eq_true, true_and, and_true, implies_true, or_true, true_or, or_false, false_or, Int.reduceEq, Int.one_ne_zero, Nat.reduceEqDiff, v0, v1, e20, e23, Int.reduceLE, Int.reduceLT, Int.lt_irrefl, Int.reduceAdd]
  refine ⟨fun g => ?_, fun g => ?_⟩
  · rw [if_pos g] at kk
    exact ⟨by rcases hn with rfl | rfl <;> (unfold q_R; omega), by decide, kk⟩
  · rw [if_neg g] at kk
    exact ⟨by decide, kk⟩
theorem mf_r_b (hn : tn = 1 ∨ tn = -1) (hW : ∀ i : Int, 0 ≤ i → i < V → WV G pl V i) : ∀ v : Nat, v ≤ V → 0 ≤ l_sm (mf_r G tn) v ∧ l_sm (mf_r G tn) v ≤ 99 * v := by
  intro v
  induction v with
  | zero => intro _; exact ⟨Int.le_refl 0, Int.le_refl 0⟩
  | succ v ih =>
    intro hv
    have a := ih (by omega)
    obtain ⟨u, -⟩ := WV_a (hW v (by omega) (by omega))
    rw [l_sm]
    unfold mf_r at *
    rcases hn with rfl | rfl <;> omega
theorem n4_l (hc : q_C c) (h : CV c C r G V pl) (hn : tn = 1 ∨ tn = -1) {l1 : V2} (kk : Q (.inl (some (vi (mf_m G tn V + l_sm (mf_r G tn) V)))) bb (NS c C r)) : ∀ (d v : Nat) (l6 : V2), v + d = V → qx sc D 4 19 [vr 55, l1, vi tn, vi (mf_m G tn v), vi (l_sm (mf_r G tn) v), vi v, l6] [] (0, 0) bb (NS c C r) Q := by
  have hW : ∀ i : Int, 0 ≤ i → i < V → WV G pl V i := fun i i0 i1 => (h.1 i i0 i1).2
  have e9 : NS c C r 9 0 = V := by rw [NS_lo hc (by decide) (by decide)]; exact h.2.1
  have h240 := h.2.2.1
  intro d
  induction d with
  | zero =>
    intro v l6 hv
    have e : v = V := by omega
    subst e
    have b1 := mf_m_b hn hW v (Nat.le_refl _)
    have b2 := mf_r_b hn hW v (Nat.le_refl _)
    rw [k4_19]
    simp only [k4_21, k4_22, k4_25, k4_28, e9, k4_110, k4_111, k4_113, k4_114]
    exact ⟨fun hh => by omega, fun _ => ⟨by unfold q_R; omega, kk⟩⟩
  | succ d ih =>
    intro v l6 hv
    have hvV : v < V := by omega
    have v0 : (0 : Int) ≤ (v : Int) := by omega
    have v1 : (v : Int) < 240 := by omega
    have b2 := mf_r_b hn hW v (by omega)
    have b3 := mf_r_b hn hW (v + 1) (by omega)
    obtain ⟨⟨-, -, -, r15⟩, -⟩ := CV_raw h hvV
    have e15 : NS c C r 15 v = (gV G v).2.2.1 := by rw [NS_lo hc (by decide) (by decide)]; exact r15
    obtain ⟨u, -⟩ := WV_a (hW v (by omega) (by omega))
    rw [k4_19]
    simp only [k4_21, k4_22, k4_25, k4_28, k4_31, k4_33, k4_34, k4_35, k4_36, k4_39, k4_42, k4_44, k4_45, k4_46, k4_49, k4_50, k4_52, k4_53, e9, qt_1, ql_1, qt_2, ql_2, qt_3, ql_3, qt_6, ql_6, qt_7, ql_7, qt_8, ql_8, qt_10, ql_10, qt_11, ql_11, qt_12, ql_12, qt_13, ql_13, qt_14, ql_14, qt_15, ql_15, qt_16, ql_16, qt_17, ql_17, qt_18, ql_18, qt_19, ql_19, qt_20, ql_20, qt_21, ql_21, qt_22, ql_22, qt_23, ql_23, qt_24, ql_24, qt_25, ql_25, qt_26, ql_26, qt_28, ql_28, qt_29, ql_29, qt_30, ql_30, qt_31, ql_31, qt_32, ql_32, qt_33, ql_33, qt_34, ql_34, qt_35, ql_35, qt_36, ql_36, qt_37, ql_37, qt_38, ql_38, qt_40, ql_40, qt_41, ql_41, qt_42, ql_42, qt_43, ql_43, qt_44, ql_44, qt_45, ql_45, qt_46, ql_46, qt_47, ql_47, qt_48, ql_48, qt_49, ql_49, qt_50, ql_50, qt_51, ql_51, qt_52, ql_52, qt_53, ql_53, qt_54, ql_54, qt_56, ql_56, qt_57, ql_57, qt_58, ql_58, qt_59, ql_59, qt_60, ql_60, qt_61, ql_61, qt_62, ql_62, qt_63, ql_63, qt_64, ql_64, qt_65, ql_65, qt_67, ql_67, qt_68, ql_68, qt_69, ql_69, qt_70, ql_70, qt_71, ql_71, qt_73, ql_73, qt_74, ql_74, qt_75, ql_75, qt_76, ql_76, qt_78, ql_78, qt_79, ql_79, qt_80, ql_80, qt_81, ql_81, qt_82, ql_82, qt_83, ql_83, qt_84, ql_84, qt_85, ql_85, qt_86, ql_86, qt_87, ql_87, qt_89, ql_89, qt_90, ql_90, qt_91, ql_91, qt_92, ql_92, qt_93, ql_93, qt_94, ql_94, qt_95, ql_95, qt_96, ql_96, qt_97, ql_97, qt_98, ql_98, qt_99, ql_99, qt_100, ql_100, qt_101, ql_101, qt_102, ql_102, qt_103, ql_103, qt_105, ql_105, qt_106, ql_106, qt_107, ql_107, qt_108, ql_108, qt_109, ql_109, qt_110, ql_110, qt_111, ql_111, qt_113, ql_113, qt_114, ql_114, qt_115, ql_115, qt_116, ql_116, qt_117, ql_117, qt_118, ql_118, qt_119, ql_119, qt_120, ql_120, qt_121, ql_121, qt_122, ql_122, qt_123, ql_123, qt_124, ql_124, qt_125, ql_125, qt_126, ql_126, qt_127, ql_127, qt_129, ql_129, qt_130, ql_130, qt_131, ql_131, qt_132, ql_132, qt_133, ql_133, qt_134, ql_134, qt_135, ql_135, qt_137, ql_137, qt_138, ql_138, qt_139, ql_139, qt_140, ql_140, qt_141, ql_141, qt_142, ql_142, qt_143, ql_143, qt_144, ql_144, qt_145, ql_145, qt_146, ql_146, qt_147, ql_147, qt_148, ql_148, qt_149, ql_149, qt_150, ql_150, qt_151, ql_151, qt_152, ql_152, qt_153, ql_153, qt_154, ql_154, qt_155, ql_155, qt_156, ql_156, qt_157, ql_157, qt_158, ql_158, qt_159, ql_159, qt_160, ql_160, qt_161, ql_161, qt_162, ql_162, qt_163, ql_163, qt_164, ql_164, qt_165, ql_165, qt_166, ql_166, qt_167, ql_167, qt_168, ql_168, qt_169, ql_169, qt_170, ql_170, qt_171, ql_171, qt_172, ql_172, qt_173, ql_173, qt_174, ql_174, qt_175, ql_175, qt_176, ql_176, qt_177, ql_177, qt_178, ql_178, qt_179, ql_179, qt_180, ql_180, qt_181, ql_181, qt_182, ql_182, qt_183, ql_183, qt_184, ql_184, qt_185, ql_185, qt_186, ql_186, qt_187, ql_187, qt_188, ql_188, true_implies, false_implies, not_true_eq_false, not_false_eq_true, true_and, and_true, implies_true, or_true, true_or, or_false, false_or, Int.reduceEq, Int.one_ne_zero, Nat.reduceEqDiff, v0, v1, e15]
    refine ⟨fun _ => ⟨by rcases hn with rfl | rfl <;> (unfold q_R; omega), ?_, ?_⟩, fun hh => by omega⟩
    · rw [l_sm] at b3
      unfold mf_r at b3
      unfold q_R
      unfold mf_r
      unfold mf_r at b2
      omega
    · refine n4_i0 hc h hvV hn (n4_i1 hc h hvV hn ?_)
      rw [k4_55]
      simp only [k4_57, k4_58, k4_104, k4_107, Int.reduceLT, true_implies, false_implies, not_true_eq_false, not_false_eq_true, true_and, and_true, implies_true, or_true, true_or, or_false, false_or, Int.reduceEq, Int.one_ne_zero, Nat.reduceEqDiff]
      refine ⟨by omega, ?_⟩
      have := ih (v + 1) (vi 2) (by omega)
      rw [l_sm, mf_m, Int.natCast_add] at this
      exact this
/-- mostFinite -/
theorem n4 (hc : q_C c) (h : CV c C r G V pl) (ht : tn = if b = 3 then -1 else 1) (kk : Q (.inl (some (vi (mf_m G tn V + l_sm (mf_r G tn) V)))) bb (NS c C r)) : qx sc D 4 0 [vr 55, vi b, vn, vn, vn, vn, vn] [] (0, 0) bb (NS c C r) Q := by
  simp only [k4_0, k4_1, k4_2]
  refine ⟨fun g => ?_, fun g => ?_⟩
  · rw [if_pos g] at ht
    subst ht
    simp only [k4_5, k4_6, k4_9, k4_10, k4_11, k4_12, k4_13, k4_14, k4_16, k4_17]
    exact n4_l hc h (Or.inr rfl) kk V 0 _ (by omega)
  · rw [if_neg g] at ht
    subst ht
    simp only [k4_9, k4_10, k4_11, k4_12, k4_13, k4_14, k4_16, k4_17]
    exact n4_l hc h (Or.inl rfl) kk V 0 _ (by omega)
end MFN
