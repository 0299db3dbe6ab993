/-! perform: a run from its beginning, in the class -/
/-- how a run begins -/
def INI (r r0 : St) (c : Nat) (pl : Int → Int) (V : Nat) (how : Int) : Prop := (∀ a i, ¬ RUC a → ¬ a = 85 → ¬ (a = 77 ∧ (i = 8 ∨ i = 9)) → r0 a i = r a i) ∧ (r0 77 8 = c ∧ r0 77 9 = how) ∧ (∀ x, 0 ≤ x → x ≤ 7 → r0 78 x = 0) ∧ (∀ l, 0 ≤ l → l < 40 → r0 79 l = 0) ∧ (∀ j : Int, 0 ≤ j → j < V → r0 80 j = 0) ∧ (r0 87 0 = 0 ∧ r0 87 1 = -1 ∧ r0 87 2 = 0 ∧ r0 87 3 = 0 ∧ r0 87 4 = 0 ∧ r0 87 5 = 0 ∧ r0 87 6 = 0) ∧ (∀ b, 0 ≤ b → b ≤ 2 → r0 85 b = max (r 3 b) (pl b)) ∧ (∀ j, 0 ≤ j → j < 40 → r0 82 j = j ∧ r0 83 j = j ∧ r0 84 j = j)
theorem PCX_P {pl : Int → Int} {L : List (ST 5)} (h : VALl (VALS pl 5) L) : PCX (GG L) (nV L) (nS L) (nK L) (nL L) (s_L 5 L (-1) 0 0 0) (n_LL 5 L 0 0 0 8 0 (-1) id8) (-1) 0 0 0 8 0 id8 := by
  have hlen := VS_len L
  have hsg := GG_seg L
  have hni : NWI id8 8 := by
    intro i i0 i1
    unfold id8 nz
    rw [if_pos ⟨i0, i1⟩]
    dsimp only
    omega
  have hbeg := v_beg_at 8 0 (GG_V L).1
  have hnv : NWV (GG L) id8 := by
    intro x x0 x1
    have e : id8 x = x := by unfold id8 nz; rw [if_pos ⟨x0, x1⟩]
    rw [e, hbeg x x0 (by omega)]
  have ok := (PO_L 5 L) 0 0 0 8 0 (-1) id8 nz_nz
  have wk := ((WKN_S (pl := pl) 5).2 L h (GG L) 0 (-1) 0 0 0 8 0 id8 (by decide) (by decide) hni nz_nz hnv (by decide) (by decide) rfl hsg).2
  refine ⟨⟨by decide, by decide, by decide, by decide⟩, ⟨hni, nz_nz, hnv⟩, ⟨by decide, by decide, 0, rfl⟩, ⟨?_, ?_, ?_, ?_⟩, ⟨NWI_OKO hni (by decide) ok.1, ok.2, wk⟩, hsg⟩
  · rw [Int.zero_add]; exact Int.le_refl _
  · rw [Int.zero_add]; exact Int.le_refl _
  · rw [Int.zero_add]; exact Int.le_refl _
  · show 8 + ((n_P L).2.1.length : Int) ≤ ((VS L).length : Int)
    omega
section RPF
variable {sc : Nat × (Nat → Int32)} {D : Nat} {bb : Bool} {Q : QP} {c V S K Ln a : Nat} {C r r' r0 : St} {G : GT} {pl ln : Int → Int} {how row j : Int} {L : List (ST 5)}
theorem id8_at {x : Int} (x0 : 0 ≤ x) (x1 : x ≤ 7) : id8 x = x := by unfold id8 nz; rw [if_pos ⟨x0, x1⟩]
theorem INI_GST (hv : VALl (VALS pl 5) L) (hp : PRO (GG L) pl (nV L) (nS L) (nK L) (nL L)) (h3 : ∀ b, 0 ≤ b → b ≤ 2 → 0 ≤ r 3 b ∧ r 3 b ≤ 40) (h2 : ∀ d, 0 ≤ d → d ≤ 2 → -99 ≤ r 2 d ∧ r 2 d ≤ 99) (h : INI r r0 c pl (nV L) how) : LNO pl (fun b => max (r 3 b) (pl b)) ∧ GST (GG L) pl (nV L) (nK L) (fun b => max (r 3 b) (pl b)) 8 0 id8 r0 := by
  obtain ⟨i1, i2, i3, i4, i5, ⟨e0, e1, e2, e3, e4, e5, e6⟩, i7, i8⟩ := h
  have hL : LNO pl (fun b => max (r 3 b) (pl b)) := fun b _ _ _ => by dsimp only; omega
  have hpl := hp.2.2.1
  have hb := hp.2.1
  have hbeg := v_beg_at 8 0 (GG_V L).1
  refine ⟨hL, ?_⟩
  refine GST_of (m := 1) (n := 0) (o := 0) (st := 0) ?_ e2 (by decide) (by decide) (by decide)
  refine ⟨⟨⟨fun x x0 x1 => by rw [i3 x x0 x1]; decide, fun j j0 j1 => by rw [i5 j j0 j1]; decide, fun j j0 j1 => by rw [(i8 j j0 j1).1]; unfold B99; omega, fun j j0 j1 => by rw [(i8 j j0 j1).2.1]; unfold B99; omega, fun j j0 j1 => by rw [(i8 j j0 j1).2.2]; unfold B99; omega⟩, ?_, ?_, ⟨fun b b0 b1 => ⟨i7 b b0 b1, ?_⟩, fun d d0 d1 => ?_⟩, fun l l0 l1 => Or.inl (i4 l l0 l1), ?_, ⟨e0, e1⟩⟩, fun j j0 j1 => i4 j j0 j1, fun x x0 x1 => ?_, fun l l0 l1 hl => ?_⟩
  · unfold BC; rw [e4, e5, e6]; decide
  · rw [e3]; decide
  · have h1 := h3 b b0 b1
    have h4 := hpl b (by omega)
    dsimp only
    omega
  · rw [i1 2 d (by unfold RUC; omega) (by decide) (by omega)]; exact h2 d d0 d1
  · rw [e2]; decide
  · rw [id8_at x0 x1]
    have hg := hbeg x x0 (by omega)
    have e80 := i5 x x0 (by omega)
    have e78 := i3 x x0 x1
    refine IWX_new hp x0 (by omega) ?_ (by rw [e80, e78]) ?_
    · rw [e78]
      refine SB_n hp hL x0 (by omega) (by rw [hg]; unfold v_meet; dsimp only; omega) (Or.inl (by rw [hg])) (Or.inr ⟨0, by rw [hg]; exact Or.inl ⟨rfl, rfl⟩, by rw [hg]; dsimp only; decide⟩) (Or.inr ⟨0, by rw [hg]; exact Or.inl ⟨rfl, rfl⟩, by rw [hg]; dsimp only; decide⟩)
    · intro hf
      rw [hg] at hf
      unfold v_fol at hf
      dsimp only at hf
      omega
  · rw [i4 l l0 l1] at hl
    omega
theorem q72_j (hc : q_C c) (ha : 81 + 1 + row.toNat = a) (ht : q_ty a = 0) (hl : q_ln a = 40) (h88 : a < 88) (h39 : ¬ a = 39) (hr0 : 0 ≤ row) (hr3 : row < 3) {l1 l2 : V2} : ∀ (d : Nat) (j : Int) (r : St), j + d = 40 → 0 ≤ j → (∀ i, 0 ≤ i → i < j → r a i = i) → (∀ r', (∀ i, 0 ≤ i → i < 40 → r' a i = i) → (∀ b i, ¬ b = a → r' b i = r b i) → qx sc D 72 122 [vr 77, l1, l2, vi row, vi 40] [] (0, 0) bb (NS c C r') Q) → qx sc D 72 98 [vr 77, l1, l2, vi row, vi j] [] (0, 0) bb (NS c C r) Q := by
  intro d
  induction d with
  | zero =>
    intro j r hj j0 hi kk
    have e : j = 40 := by omega
    subst e
    rw [k72_98]
    simp only [k72_100, k72_102, Int.lt_irrefl, true_implies, false_implies, not_true_eq_false, not_false_eq_true, true_and, and_true, implies_true, or_true, true_or, or_false, false_or, Int.reduceEq, Int.one_ne_zero, Nat.reduceEqDiff]
    exact kk r hi (fun _ _ _ => rfl)
  | succ d ih =>
    intro j r hj j0 hi kk
    have g : j < 40 := by omega
    have R1 : q_R (j + 1) = True := eq_true (by omega)
    rw [k72_98]
    simp only [k72_100, k72_102, k72_105, k72_106, k72_109, k72_110, k72_111, k72_113, k72_115, k72_116, k72_119, qt_1, ql_1, qt_2, ql_2, qt_3, ql_3, qt_6, ql_6, qt_7, ql_7, qt_8, ql_8, qt_10, ql_10, qt_11, ql_11, qt_12, ql_12, qt_13, ql_13, qt_14, ql_14, qt_15, ql_15, qt_16, ql_16, qt_17, ql_17, qt_18, ql_18, qt_19, ql_19, qt_20, ql_20, qt_21, ql_21, qt_22, ql_22, qt_23, ql_23, qt_24, ql_24, qt_25, ql_25, qt_26, ql_26, qt_28, ql_28, qt_29, ql_29, qt_30, ql_30, qt_31, ql_31, qt_32, ql_32, qt_33, ql_33, qt_34, ql_34, qt_35, ql_35, qt_36, ql_36, qt_37, ql_37, qt_38, ql_38, qt_40, ql_40, qt_41, ql_41, qt_42, ql_42, qt_43, ql_43, qt_44, ql_44, qt_45, ql_45, qt_46, ql_46, qt_47, ql_47, qt_48, ql_48, qt_49, ql_49, qt_50, ql_50, qt_51, ql_51, qt_52, ql_52, qt_53, ql_53, qt_54, ql_54, qt_56, ql_56, qt_57, ql_57, qt_58, ql_58, qt_59, ql_59, qt_60, ql_60, qt_61, ql_61, qt_62, ql_62, qt_63, ql_63, qt_64, ql_64, qt_65, ql_65, qt_67, ql_67, qt_68, ql_68, qt_69, ql_69, qt_70, ql_70, qt_71, ql_71, qt_73, ql_73, qt_74, ql_74, qt_75, ql_75, qt_76, ql_76, qt_78, ql_78, qt_79, ql_79, qt_80, ql_80, qt_81, ql_81, qt_82, ql_82, qt_83, ql_83, qt_84, ql_84, qt_85, ql_85, qt_86, ql_86, qt_87, ql_87, qt_89, ql_89, qt_90, ql_90, qt_91, ql_91, qt_92, ql_92, qt_93, ql_93, qt_94, ql_94, qt_95, ql_95, qt_96, ql_96, qt_97, ql_97, qt_98, ql_98, qt_99, ql_99, qt_100, ql_100, qt_101, ql_101, qt_102, ql_102, qt_103, ql_103, qt_105, ql_105, qt_106, ql_106, qt_107, ql_107, qt_108, ql_108, qt_109, ql_109, qt_110, ql_110, qt_111, ql_111, qt_113, ql_113, qt_114, ql_114, qt_115, ql_115, qt_116, ql_116, qt_117, ql_117, qt_118, ql_118, qt_119, ql_119, qt_120, ql_120, qt_121, ql_121, qt_122, ql_122, qt_123, ql_123, qt_124, ql_124, qt_125, ql_125, qt_126, ql_126, qt_127, ql_127, qt_129, ql_129, qt_130, ql_130, qt_131, ql_131, qt_132, ql_132, qt_133, ql_133, qt_134, ql_134, qt_135, ql_135, qt_137, ql_137, qt_138, ql_138, qt_139, ql_139, qt_140, ql_140, qt_141, ql_141, qt_142, ql_142, qt_143, ql_143, qt_144, ql_144, qt_145, ql_145, qt_146, ql_146, qt_147, ql_147, qt_148, ql_148, qt_149, ql_149, qt_150, ql_150, qt_151, ql_151, qt_152, ql_152, qt_153, ql_153, qt_154, ql_154, qt_155, ql_155, qt_156, ql_156, qt_157, ql_157, qt_158, ql_158, qt_159, ql_159, qt_160, ql_160, qt_161, ql_161, qt_162, ql_162, qt_163, ql_163, qt_164, ql_164, qt_165, ql_165, qt_166, ql_166, qt_167, ql_167, qt_168, ql_168, qt_169, ql_169, qt_170, ql_170, qt_171, ql_171, qt_172, ql_172, qt_173, ql_173, qt_174, ql_174, qt_175, ql_175, qt_176, ql_176, qt_177, ql_177, qt_178, ql_178, qt_179, ql_179, qt_180, ql_180, qt_181, ql_181, qt_182, ql_182, qt_183, ql_183, qt_184, ql_184, qt_185, ql_185, qt_186, ql_186, qt_187, ql_187, qt_188, ql_188, true_implies, false_implies, not_true_eq_false, not_false_eq_true, true_and, and_true, implies_true, or_true, true_or, or_false, false_or, Int.reduceEq, Int.one_ne_zero, Nat.reduceEqDiff, g, hr0, hr3, ha, ht, hl, j0, R1, NS_u hc h88 h39]
    refine ih (j + 1) _ (by omega) (by omega) (fun i i0 i1 => ?_) (fun r' h1 h2 => kk r' h1 (fun b i hb => by rw [h2 b i hb, q_up_ne _ _ _ _ hb]))
    by_cases e : i = j
    · subst e; exact q_up_eq _ _ _ _
    · rw [q_up_ne2 _ _ _ e]; exact hi i i0 (by omega)
theorem q72_r (hc : q_C c) (ha : 81 + 1 + row.toNat = a) (ht : q_ty a = 0) (hl : q_ln a = 40) (h88 : a < 88) (h82 : 82 ≤ a ∧ a ≤ 84) (hr0 : 0 ≤ row) (hr3 : row < 3) (h8 : r 77 8 = c) (hC : C 1 row = pl row) {l1 l2 l4 : V2} (kk : ∀ r', (∀ i, 0 ≤ i → i < 40 → r' a i = i) → r' 85 row = max (r 3 row) (pl row) → (∀ b i, ¬ b = a → ¬ (b = 85 ∧ i = row) → r' b i = r b i) → qx sc D 72 66 [vr 77, l1, l2, vi (row + 1), vi 40] [] (0, 0) bb (NS c C r') Q) : qx sc D 72 66 [vr 77, l1, l2, vi row, l4] [] (0, 0) bb (NS c C r) Q := by
  rw [k72_66]
  simp only [k72_67, k72_68, k72_71, k72_72, k72_75, k72_76, k72_77, k72_80, k72_81, k72_82, k72_83, k72_86 hc, k72_89, k72_90, k72_91, k72_94, k72_95, k72_96, NS_lo hc, NS_g hc, NS_f hc, NS_u hc, NS_uf hc, Nat.reduceLT, Nat.reduceLeDiff, Nat.reduceEqDiff, not_false_eq_true, qtc_1 hc, qlc_1 hc, qtc_2 hc, qlc_2 hc, qtc_3 hc, qlc_3 hc, qtc_4 hc, qlc_4 hc, qtc_5 hc, qlc_5 hc, qtc_6 hc, qlc_6 hc, qtc_7 hc, qlc_7 hc, qtc_8 hc, qlc_8 hc, qtc_9 hc, qlc_9 hc, qtc_10 hc, qlc_10 hc, qtc_11 hc, qlc_11 hc, qtc_12 hc, qlc_12 hc, qtc_13 hc, qlc_13 hc, qtc_14 hc, qlc_14 hc, qtc_15 hc, qlc_15 hc, qtc_17 hc, qlc_17 hc, qtc_19 hc, qlc_19 hc, qtc_20 hc, qlc_20 hc, qtc_22 hc, qlc_22 hc, qtc_23 hc, qlc_23 hc, qtc_18 hc, qlc_18 hc, qtc_21 hc, qlc_21 hc, c18_0, c18_1, c21_0, c21_1, qt_1, ql_1, qt_2, ql_2, qt_3, ql_3, qt_6, ql_6, qt_7, ql_7, qt_8, ql_8, qt_10, ql_10, qt_11, ql_11, qt_12, ql_12, qt_13, ql_13, qt_14, ql_14, qt_15, ql_15, qt_16, ql_16, qt_17, ql_17, qt_18, ql_18, qt_19, ql_19, qt_20, ql_20, qt_21, ql_21, qt_22, ql_22, qt_23, ql_23, qt_24, ql_24, qt_25, ql_25, qt_26, ql_26, qt_28, ql_28, qt_29, ql_29, qt_30, ql_30, qt_31, ql_31, qt_32, ql_32, qt_33, ql_33, qt_34, ql_34, qt_35, ql_35, qt_36, ql_36, qt_37, ql_37, qt_38, ql_38, qt_40, ql_40, qt_41, ql_41, qt_42, ql_42, qt_43, ql_43, qt_44, ql_44, qt_45, ql_45, qt_46, ql_46, qt_47, ql_47, qt_48, ql_48, qt_49, ql_49, qt_50, ql_50, qt_51, ql_51, qt_52, ql_52, qt_53, ql_53, qt_54, ql_54, qt_56, ql_56, qt_57, ql_57, qt_58, ql_58, qt_59, ql_59, qt_60, ql_60, qt_61, ql_61, qt_62, ql_62, qt_63, ql_63, qt_64, ql_64, qt_65, ql_65, qt_67, ql_67, qt_68, ql_68, qt_69, ql_69, qt_70, ql_70, qt_71, ql_71, qt_73, ql_73, qt_74, ql_74, qt_75, ql_75, qt_76, ql_76, qt_78, ql_78, qt_79, ql_79, qt_80, ql_80, qt_81, ql_81, qt_82, ql_82, qt_83, ql_83, qt_84, ql_84, qt_85, ql_85, qt_86, ql_86, qt_87, ql_87, qt_89, ql_89, qt_90, ql_90, qt_91, ql_91, qt_92, ql_92, qt_93, ql_93, qt_94, ql_94, qt_95, ql_95, qt_96, ql_96, qt_97, ql_97, qt_98, ql_98, qt_99, ql_99, qt_100, ql_100, qt_101, ql_101, qt_102, ql_102, qt_103, ql_103, qt_105, ql_105, qt_106, ql_106, qt_107, ql_107, qt_108, ql_108, qt_109, ql_109, qt_110, ql_110, qt_111, ql_111, qt_113, ql_113, qt_114, ql_114, qt_115, ql_115, qt_116, ql_116, qt_117, ql_117, qt_118, ql_118, qt_119, ql_119, qt_120, ql_120, qt_121, ql_121, qt_122, ql_122, qt_123, ql_123, qt_124, ql_124, qt_125, ql_125, qt_126, ql_126, qt_127, ql_127, qt_129, ql_129, qt_130, ql_130, qt_131, ql_131, qt_132, ql_132, qt_133, ql_133, qt_134, ql_134, qt_135, ql_135, qt_137, ql_137, qt_138, ql_138, qt_139, ql_139, qt_140, ql_140, qt_141, ql_141, qt_142, ql_142, qt_143, ql_143, qt_144, ql_144, qt_145, ql_145, qt_146, ql_146, qt_147, ql_147, qt_148, ql_148, qt_149, ql_149, qt_150, ql_150, qt_151, ql_151, qt_152, ql_152, qt_153, ql_153, qt_154, ql_154, qt_155, ql_155, qt_156, ql_156, qt_157, ql_157, qt_158, ql_158, qt_159, ql_159, qt_160, ql_160, qt_161, ql_161, qt_162, ql_162, qt_163, ql_163, qt_164, ql_164, qt_165, ql_165, qt_166, ql_166, qt_167, ql_167, qt_168, ql_168, qt_169, ql_169, qt_170, ql_170, qt_171, ql_171, qt_172, ql_172, qt_173, ql_173, qt_174, ql_174, qt_175, ql_175, qt_176, ql_176, qt_177, ql_177, qt_178, ql_178, qt_179, ql_179, qt_180, ql_180, qt_181, ql_181, qt_182, ql_182, qt_183, ql_183, qt_184, ql_184, qt_185, ql_185, qt_186, ql_186, qt_187, ql_187, qt_188, ql_188, true_implies, false_implies, not_true_eq_false, not_false_eq_true, true_and, and_true, implies_true, or_true, true_or, or_false, false_or, Int.reduceEq, Int.one_ne_zero, Nat.reduceEqDiff, hr0, hr3, h8, c_nn, Int.toNat_natCast, hC]
  refine q72_j hc ha ht hl h88 (by omega) hr0 hr3 40 0 _ (by decide) (by decide) (fun i i0 i1 => by omega) (fun r' h1 h2 => ?_)
  have R1 : q_R (row + 1) = True := eq_true (by omega)
  simp only [k72_122, k72_125, R1, true_implies, false_implies, not_true_eq_false, not_false_eq_true, true_and, and_true, implies_true, or_true, true_or, or_false, false_or, Int.reduceEq, Int.one_ne_zero, Nat.reduceEqDiff]
  refine kk r' h1 ?_ (fun b i hb hi => ?_)
  · rw [h2 85 row (by omega)]; exact q_up_eq _ _ _ _
  · rw [h2 b i hb]
    by_cases e : b = 85
    · subst e; exact q_up_ne2 _ _ _ (by omega)
    · exact q_up_ne _ _ _ _ e
/-- perform -/
theorem q72 (hc : q_C c) (hv : VALl (VALS pl 5) L) (hk : CST c C r (GG L) pl (nV L) (nS L) (nK L) (nL L)) (h3 : ∀ b, 0 ≤ b → b ≤ 2 → 0 ≤ r 3 b ∧ r 3 b ≤ 40) (h2 : ∀ d, 0 ≤ d → d ≤ 2 → -99 ≤ r 2 d ∧ r 2 d ≤ 99) (kk : ∀ r0, INI r r0 c pl (nV L) how → Q (.inl none) bb (NS c C (r_L (GG L) pl (nV L) (nK L) how 5 L 0 r0).1)) : qx sc (D + 15) 72 0 [vr 77, vr c, vi how, vn, vn] [] (0, 0) bb (NS c C r) Q := by
  have hp := hk.1
  have hb := hp.2.1
  have c6 : c < 1000000 := by unfold q_C at hc; omega
  have e9 : r 9 0 = (nV L : Nat) := hk.2.1.2.2.2.1.2
  have V0 : (0 : Int) ≤ ((nV L : Nat) : Int) := by omega
  have V1 : ((nV L : Nat) : Int) ≤ 240 := by omega
  have hC1 : ∀ k, k = 0 ∨ k = 1 ∨ k = 2 → C 1 k = pl k := hk.2.1.2.2.1
  simp only [k72_0, k72_1, k72_2, k72_5, k72_6, k72_7, k72_10, k72_11, k72_14, k72_15, NS_lo hc, NS_g hc, NS_f hc, NS_u hc, NS_uf hc, Nat.reduceLT, Nat.reduceLeDiff, Nat.reduceEqDiff, not_false_eq_true, true_implies, false_implies, not_true_eq_false, not_false_eq_true, true_and, and_true, implies_true, or_true, true_or, or_false, false_or, Int.reduceEq, Int.one_ne_zero, Nat.reduceEqDiff, c6]
  refine c249 qt_78 (by rw [ql_78]; decide) (by rw [ql_78]; decide) ?_
  rw [NS_uf hc (by decide) (by decide)]
  simp only [q_kn_n, k72_18, k72_19, k72_22, k72_23]
  refine c249 qt_79 (by rw [ql_79]; decide) (by rw [ql_79]; decide) ?_
  rw [NS_uf hc (by decide) (by decide)]
  simp only [q_kn_n, k72_26, k72_27, k72_30, k72_31, k72_32, k72_35, k72_38, k72_39, NS_lo hc, NS_g hc, NS_f hc, NS_u hc, NS_uf hc, Nat.reduceLT, Nat.reduceLeDiff, Nat.reduceEqDiff, not_false_eq_true, q_up_eq, q_up_ne, q_up_ne2, q_upf_ne, q_upf_eq, not_false_eq_true, true_implies, false_implies, not_true_eq_false, not_false_eq_true, true_and, and_true, implies_true, or_true, true_or, or_false, false_or, Int.reduceEq, Int.one_ne_zero, Nat.reduceEqDiff, e9]
  refine c250 (D := D + 13) qt_80 (by rw [ql_80]; decide) (by decide) V0 (by rw [ql_80]; exact V1) ?_
  rw [NS_uf hc (by decide) (by decide)]
  simp only [q_kn_n, k72_42, k72_43, k72_46, k72_47]
  refine c249 qt_87 (by rw [ql_87]; decide) (by rw [ql_87]; decide) ?_
  rw [NS_uf hc (by decide) (by decide)]
  simp only [q_kn_n, k72_50, k72_51, k72_54, k72_55, k72_56, k72_57, k72_58, k72_61, k72_62, k72_63, k72_64, k72_65, NS_lo hc, NS_g hc, NS_f hc, NS_u hc, NS_uf hc, Nat.reduceLT, Nat.reduceLeDiff, Nat.reduceEqDiff, not_false_eq_true, qt_1, ql_1, qt_2, ql_2, qt_3, ql_3, qt_6, ql_6, qt_7, ql_7, qt_8, ql_8, qt_10, ql_10, qt_11, ql_11, qt_12, ql_12, qt_13, ql_13, qt_14, ql_14, qt_15, ql_15, qt_16, ql_16, qt_17, ql_17, qt_18, ql_18, qt_19, ql_19, qt_20, ql_20, qt_21, ql_21, qt_22, ql_22, qt_23, ql_23, qt_24, ql_24, qt_25, ql_25, qt_26, ql_26, qt_28, ql_28, qt_29, ql_29, qt_30, ql_30, qt_31, ql_31, qt_32, ql_32, qt_33, ql_33, qt_34, ql_34, qt_35, ql_35, qt_36, ql_36, qt_37, ql_37, qt_38, ql_38, qt_40, ql_40, qt_41, ql_41, qt_42, ql_42, qt_43, ql_43, qt_44, ql_44, qt_45, ql_45, qt_46, ql_46, qt_47, ql_47, qt_48, ql_48, qt_49, ql_49, qt_50, ql_50, qt_51, ql_51, qt_52, ql_52, qt_53, ql_53, qt_54, ql_54, qt_56, ql_56, qt_57, ql_57, qt_58, ql_58, qt_59, ql_59, qt_60, ql_60, qt_61, ql_61, qt_62, ql_62, qt_63, ql_63, qt_64, ql_64, qt_65, ql_65, qt_67, ql_67, qt_68, ql_68, qt_69, ql_69, qt_70, ql_70, qt_71, ql_71, qt_73, ql_73, qt_74, ql_74, qt_75, ql_75, qt_76, ql_76, qt_78, ql_78, qt_79, ql_79, qt_80, ql_80, qt_81, ql_81, qt_82, ql_82, qt_83, ql_83, qt_84, ql_84, qt_85, ql_85, qt_86, ql_86, qt_87, ql_87, qt_89, ql_89, qt_90, ql_90, qt_91, ql_91, qt_92, ql_92, qt_93, ql_93, qt_94, ql_94, qt_95, ql_95, qt_96, ql_96, qt_97, ql_97, qt_98, ql_98, qt_99, ql_99, qt_100, ql_100, qt_101, ql_101, qt_102, ql_102, qt_103, ql_103, qt_105, ql_105, qt_106, ql_106, qt_107, ql_107, qt_108, ql_108, qt_109, ql_109, qt_110, ql_110, qt_111, ql_111, qt_113, ql_113, qt_114, ql_114, qt_115, ql_115, qt_116, ql_116, qt_117, ql_117, qt_118, ql_118, qt_119, ql_119, qt_120, ql_120, qt_121, ql_121, qt_122, ql_122, qt_123, ql_123, qt_124, ql_124, qt_125, ql_125, qt_126, ql_126, qt_127, ql_127, qt_129, ql_129, qt_130, ql_130, qt_131, ql_131, qt_132, ql_132, qt_133, ql_133, qt_134, ql_134, qt_135, ql_135, qt_137, ql_137, qt_138, ql_138, qt_139, ql_139, qt_140, ql_140, qt_141, ql_141, qt_142, ql_142, qt_143, ql_143, qt_144, ql_144, qt_145, ql_145, qt_146, ql_146, qt_147, ql_147, qt_148, ql_148, qt_149, ql_149, qt_150, ql_150, qt_151, ql_151, qt_152, ql_152, qt_153, ql_153, qt_154, ql_154, qt_155, ql_155, qt_156, ql_156, qt_157, ql_157, qt_158, ql_158, qt_159, ql_159, qt_160, ql_160, qt_161, ql_161, qt_162, ql_162, qt_163, ql_163, qt_164, ql_164, qt_165, ql_165, qt_166, ql_166, qt_167, ql_167, qt_168, ql_168, qt_169, ql_169, qt_170, ql_170, qt_171, ql_171, qt_172, ql_172, qt_173, ql_173, qt_174, ql_174, qt_175, ql_175, qt_176, ql_176, qt_177, ql_177, qt_178, ql_178, qt_179, ql_179, qt_180, ql_180, qt_181, ql_181, qt_182, ql_182, qt_183, ql_183, qt_184, ql_184, qt_185, ql_185, qt_186, ql_186, qt_187, ql_187, qt_188, ql_188, true_implies, false_implies, not_true_eq_false, not_false_eq_true, true_and, and_true, implies_true, or_true, true_or, or_false, false_or, Int.reduceEq, Int.one_ne_zero, Nat.reduceEqDiff, Int.reduceLE, Int.reduceLT]
  -- all but rows and sizes
  obtain ⟨R, hRd⟩ : ∃ R : St, R = _ := ⟨_, rfl⟩
  refine (fun (q : qx sc (D + 15) 72 66 [vr 77, vr c, vi how, vi 0, vn] [] (0, 0) bb (NS c C R) Q) => ?_) ?_
  · rw [hRd] at q
    exact q
  have p1 : ∀ a i, ¬ RUC a → ¬ (a = 77 ∧ (i = 8 ∨ i = 9)) → R a i = r a i := by
    intro a i ha hi
    rw [hRd]
    have a87 : ¬ a = 87 := fun q => ha (by subst q; unfold RUC; omega)
    have a80 : ¬ a = 80 := fun q => ha (by subst q; unfold RUC; omega)
    have a79 : ¬ a = 79 := fun q => ha (by subst q; unfold RUC; omega)
    have a78 : ¬ a = 78 := fun q => ha (by subst q; unfold RUC; omega)
    rw [q_up_ne _ _ _ _ a87, q_up_ne _ _ _ _ a87, q_upf_ne _ _ _ a87, q_upf_ne _ _ _ a80, q_upf_ne _ _ _ a79, q_upf_ne _ _ _ a78]
    by_cases e : a = 77
    · subst e
      rw [q_up_ne2 _ _ _ (by omega), q_up_ne2 _ _ _ (by omega)]
    · rw [q_up_ne _ _ _ _ e, q_up_ne _ _ _ _ e]
  have p2 : R 77 8 = c ∧ R 77 9 = how := by rw [hRd]; exact ⟨rfl, rfl⟩
  have p3 : ∀ x, 0 ≤ x → x ≤ 7 → R 78 x = 0 := by
    intro x x0 x1
    rw [hRd, q_up_ne _ _ _ _ (by decide), q_up_ne _ _ _ _ (by decide), q_upf_ne _ _ _ (by decide), q_upf_ne _ _ _ (by decide), q_upf_ne _ _ _ (by decide), q_upf_eq]
    exact if_pos ⟨x0, by first | omega | (rw [ql_78]; omega)⟩
  have p4 : ∀ x, 0 ≤ x → x < 40 → R 79 x = 0 := by
    intro x x0 x1
    rw [hRd, q_up_ne _ _ _ _ (by decide), q_up_ne _ _ _ _ (by decide), q_upf_ne _ _ _ (by decide), q_upf_ne _ _ _ (by decide), q_upf_eq]
    exact if_pos ⟨x0, by first | omega | (rw [ql_79]; omega)⟩
  have p5 : ∀ j : Int, 0 ≤ j → j < (nV L : Nat) → R 80 j = 0 := by
    intro x x0 x1
    rw [hRd, q_up_ne _ _ _ _ (by decide), q_up_ne _ _ _ _ (by decide), q_upf_ne _ _ _ (by decide), q_upf_eq]
    exact if_pos ⟨x0, x1⟩
  have p6 : R 87 0 = 0 ∧ R 87 1 = -1 ∧ ∀ i, 2 ≤ i → i < 7 → R 87 i = 0 := by
    rw [hRd]
    refine ⟨rfl, rfl, fun i i0 i1 => ?_⟩
    rw [q_up_ne2 _ _ _ (by omega), q_up_ne2 _ _ _ (by omega), q_upf_eq]
    exact if_pos ⟨by omega, by first | omega | (rw [ql_87]; omega)⟩
  clear hRd
  refine q72_r (pl := pl) (a := 82) hc rfl qt_82 ql_82 (by decide) (by decide) (by decide) (by decide) p2.1 (hC1 0 (by omega)) (fun r1 u1 u2 u3 => ?_)
  refine q72_r (pl := pl) (a := 83) (row := 1) hc rfl qt_83 ql_83 (by decide) (by decide) (by decide) (by decide) (by rw [u3 77 8 (by decide) (by omega)]; exact p2.1) (hC1 1 (by omega)) (fun r2 v1 v2 v3 => ?_)
  refine q72_r (pl := pl) (a := 84) (row := 2) hc rfl qt_84 ql_84 (by decide) (by decide) (by decide) (by decide) (by rw [v3 77 8 (by decide) (by omega), u3 77 8 (by decide) (by omega)]; exact p2.1) (hC1 2 (by omega)) (fun r3 w1 w2 w3 => ?_)
  have lo : ∀ a i, ¬ (82 ≤ a ∧ a ≤ 85) → r3 a i = R a i := fun a i ha => by rw [w3 a i (by omega) (by omega), v3 a i (by omega) (by omega), u3 a i (by omega) (by omega)]
  have e3 : ∀ i, R 3 i = r 3 i := fun i => p1 3 i (by unfold RUC; omega) (by omega)
  have hI : INI r r3 c pl (nV L) how := by
    refine ⟨fun a i h1 h2 h3 => ?_, ?_, fun x x0 x1 => ?_, fun x x0 x1 => ?_, fun x x0 x1 => ?_, ?_, fun b b0 b1 => ?_, fun j j0 j1 => ⟨?_, ?_, w1 j j0 j1⟩⟩
    · rw [lo a i (by unfold RUC at h1; omega)]; exact p1 a i h1 h3
    · rw [lo 77 8 (by decide), lo 77 9 (by decide)]; exact p2
    · rw [lo 78 x (by decide)]; exact p3 x x0 x1
    · rw [lo 79 x (by decide)]; exact p4 x x0 x1
    · rw [lo 80 x (by decide)]; exact p5 x x0 x1
    · rw [lo 87 0 (by decide), lo 87 1 (by decide), lo 87 2 (by decide), lo 87 3 (by decide), lo 87 4 (by decide), lo 87 5 (by decide), lo 87 6 (by decide)]
      exact ⟨p6.1, p6.2.1, p6.2.2 2 (by decide) (by decide), p6.2.2 3 (by decide) (by decide), p6.2.2 4 (by decide) (by decide), p6.2.2 5 (by decide) (by decide), p6.2.2 6 (by decide) (by decide)⟩
    · have : b = 0 ∨ b = 1 ∨ b = 2 := by omega
      rcases this with rfl | rfl | rfl
      · rw [w3 85 0 (by decide) (by decide), v3 85 0 (by decide) (by decide), u2, e3]
      · rw [w3 85 1 (by decide) (by decide), v2, u3 3 1 (by decide) (by decide), e3]
      · rw [w2, v3 3 2 (by decide) (by decide), u3 3 2 (by decide) (by decide), e3]
    · rw [w3 82 j (by decide) (by omega), v3 82 j (by decide) (by omega)]; exact u1 j j0 j1
    · rw [w3 83 j (by decide) (by omega)]; exact v1 j j0 j1
  obtain ⟨hL, hG⟩ := INI_GST hv hp h3 h2 hI
  have hk3 : RCK c C r3 (GG L) pl (nV L) (nS L) (nK L) (nL L) how := ⟨CST_of hk (fun a i q => hI.1 a i (by unfold CSX at q; unfold RUC; omega) (by unfold CSX at q; omega) (by unfold CSX at q; omega)), hI.2.1⟩
  have eS : C 0 0 = (nS L : Nat) := hk.2.1.2.1.1
  have h8 := hk3.2.1
  rw [k72_66]
  simp only [k72_67, k72_68, k72_128, k72_129, k72_130, k72_131, k72_134 hc, k72_137, k72_138, NS_lo hc, NS_g hc, NS_f hc, NS_u hc, NS_uf hc, Nat.reduceLT, Nat.reduceLeDiff, Nat.reduceEqDiff, not_false_eq_true, true_implies, false_implies, not_true_eq_false, not_false_eq_true, true_and, and_true, implies_true, or_true, true_or, or_false, false_or, Int.reduceEq, Int.one_ne_zero, Nat.reduceEqDiff, Int.reduceLT, Int.reduceAdd, h8, c_nn, Int.toNat_natCast, eS]
  refine q64_e (lf := vn) (by decide) ?_
  have hgo := ((CGO (how := how) (C := C) hc hp hL 5).2 L hv (-1) 0 0 0 8 0 id8 (PCX_P hv)) D 0 sc bb (q_kn sc (D + 15) 72 141 [vr 77, vr c, vi how, vi 3, vi 40] [] (0, 0) Q) r3 (vi 0) (by decide) hk3 hG
  have ez : (0 : Int) + ((s_L 5 L (-1) 0 0 0).1.length : Nat) = (nS L : Nat) := by rw [Int.zero_add]; rfl
  rw [ez] at hgo
  refine hgo ?_
  simp only [q_kn_v, k72_141, k72_142]
  exact kk r3 hI
end RPF
