/-! solve -/
def thC (G : GT) (M : Int) : Nat → Option Int := fun v => if e_rd G v = true then some M else none
def XUP (B : Int) (V : Nat) (X : Nat → Option Int) : Prop := ∀ v, v < V → ∀ a, X v = some a → a ≤ B + 99 * v
def XLO (V : Nat) (X : Nat → Option Int) : Prop := ∀ v, v < V → ∀ a, X v = some a → -200000 ≤ a
/-- a row with bounds in it -/
def RW (r : St) (a : Nat) (X : Nat → Option Int) (V : Nat) : St := q_upf r a (fun j => if 0 ≤ j ∧ j < V then enC (X j.toNat) else r a j)
/-- has a ROUND one moved among the first k -/
def mvB (G : GT) (E : LE) (thr : Nat → Option Int) (X : Nat → Option Int) : Nat → Bool
  | 0 => false
  | k + 1 => mvB G E thr X k || (e_rd G k && decide (l_sw E thr (k + 1) X k ≠ X k))
section SLV
variable {sc : Nat × (Nat → Int32)} {D : Nat} {bb : Bool} {Q : QP} {c a V v : Nat} {σ C r : St} {G : GT} {pl q : Int → Int} {b wo tn m N i M B : Int} {X : Nat → Option Int} {E : LE} {thr : Nat → Option Int}
theorem mvB_t : ∀ k : Nat, mvB G E thr X k = true ↔ ∃ v, v < k ∧ e_rd G v = true ∧ l_sw E thr k X v ≠ X v := by
  intro k
  induction k with
  | zero => simp [mvB]
  | succ k ih =>
    rw [mvB, Bool.or_eq_true, Bool.and_eq_true, decide_eq_true_eq, ih]
    constructor
    · rintro (⟨v, h1, h2, h3⟩ | ⟨h1, h2⟩)
      · refine ⟨v, by omega, h2, ?_⟩
        rw [l_sw_lt (show v < k + 1 by omega), ← l_sw_lt (show v < k by omega)]
        exact h3
      · exact ⟨k, by omega, h1, h2⟩
    · rintro ⟨v, h1, h2, h3⟩
      by_cases e : v = k
      · subst e
        exact Or.inr ⟨h2, h3⟩
      · refine Or.inl ⟨v, by omega, h2, ?_⟩
        rw [l_sw_lt (show v < k by omega), ← l_sw_lt (show v < k + 1 by omega)]
        exact h3
theorem RW_at (hv : v < V) : RW r a X V a v = enC (X v) := by
  unfold RW
  rw [q_upf_eq, if_pos (by omega), Int.toNat_natCast]
theorem RW_ne {a' : Nat} (h : ¬ a' = a) : RW r a X V a' i = r a' i := q_upf_ne _ _ _ h
theorem RW_up {k : Nat} {o : Option Int} (hk : k < V) : q_up (RW r a X V) a k (enC o) = RW r a (fun w => if w = k then o else X w) V := by
  funext a' j
  rw [q_up_app]
  unfold RW
  by_cases e : a' = a
  · subst e
    rw [q_upf_eq, q_upf_eq]
    by_cases e2 : j = k
    · rw [if_pos ⟨rfl, e2⟩, if_pos (by omega)]; dsimp only; rw [if_pos (by omega)]
    · rw [if_neg (fun h => e2 h.2)]
      by_cases e3 : 0 ≤ j ∧ j < V
      · rw [if_pos e3, if_pos e3]; dsimp only; rw [if_neg (by omega)]
      · rw [if_neg e3, if_neg e3]
  · rw [if_neg (fun h => e h.1), q_upf_ne _ _ _ e, q_upf_ne _ _ _ e]
theorem VRokC_low {r' : St} {x : VR} (h : VRokC r i x) (he : ∀ a j, 10 ≤ a ∧ a ≤ 26 → r' a j = r a j) : VRokC r' i x := VRokC_of h (fun a j ha _ => he a j ha)
theorem CV_RW (ha : ROW a) (h : CV c C r G V pl) : CV c C (RW r a X V) G V pl := by
  obtain ⟨h1, h2, h3, h4, h5⟩ := h
  have h55 := ha.2.2.2.2
  refine ⟨fun i i0 i1 => ⟨VRokC_low (h1 i i0 i1).1 (fun a' j ha' => RW_ne (by omega)), (h1 i i0 i1).2⟩, ?_, h3, h4, ?_⟩
  · rw [RW_ne (by omega)]; exact h2
  · rw [RW_ne (by omega)]; exact h5
theorem NS_RWu (hc : q_C c) (ha : ROW a) {k : Nat} {o : Option Int} (hk : k < V) : q_up (NS c C (RW r a X V)) a k (enC o) = NS c C (RW r a (fun w => if w = k then o else X w) V) := by
  rw [NS_u hc ha.2.2.1 ha.2.2.2.1, RW_up hk]
theorem l_sw_up (hW : ∀ i : Int, 0 ≤ i → i < V → WV G pl V i) (hq : QPL q) (hb : 0 ≤ b ∧ b ≤ 3) (hB : 99 ≤ B) (hM : M ≤ B) (hX : XUP B V X) : ∀ k : Nat, k ≤ V → XUP B V (l_sw (E_G G q b wo) (thC G M) k X) := by
  intro k
  induction k with
  | zero => intro _; exact hX
  | succ k ih =>
    intro hk w hw z hz
    replace ih := ih (by omega)
    rw [l_sw] at hz
    generalize l_sw (E_G G q b wo) (thC G M) k X = Y at *
    unfold l_sw1 at hz
    by_cases e : w = k
    · subst e
      rw [if_pos rfl] at hz
      have hw' := hW w (by omega) (by omega)
      by_cases hr : e_rd G w = true
      · unfold l_T thC at hz
        rw [if_pos hr] at hz
        generalize l_F (E_G G q b wo) Y w = o at hz
        cases o with
        | none => cases hz
        | some y =>
          dsimp only at hz
          split at hz
          · cases hz
          · cases hz; omega
      · have hz2 : l_F (E_G G q b wo) Y w = some z := l_T_some hz
        unfold l_F E_G at hz2
        by_cases hm : v_meet (gV G w)
        · rw [if_pos hm] at hz2
          obtain ⟨m1, m2, -, m4⟩ := WV_m hw' hm
          have m5 : (gV G w).1.2.1 = 5 := by
            rcases hm with h | h
            · exact h
            · exact absurd (decide_eq_true h) hr
          have m6 := m4 m5
          dsimp only at hz2
          have y1 := ih (gV G w).1.2.2.2.1.toNat (by omega)
          have y2 := ih (gV G w).1.2.2.2.2.toNat (by omega)
          generalize Y (gV G w).1.2.2.2.1.toNat = o1 at *
          generalize Y (gV G w).1.2.2.2.2.toNat = o2 at *
          cases o1 with
          | none => cases hz2
          | some p1 =>
            cases o2 with
            | none => cases hz2
            | some p2 =>
              have := y1 p1 rfl
              have := y2 p2 rfl
              cases hz2
              omega
        · rw [if_neg hm] at hz2
          obtain ⟨f1, f2, f3⟩ := WV_n hw' hm
          dsimp only at hz2
          have bf : ∀ y, l_fr Y (e_fr b (gV G w)) = some y → y ≤ B + 99 * w := by
            intro y hy
            unfold e_fr at hy
            split at hy
            · cases hy
            · unfold l_fr at hy
              dsimp only at hy
              have hx := ih (gV G w).1.2.2.2.1.toNat (by omega)
              generalize Y (gV G w).1.2.2.2.1.toNat = o at *
              cases o with
              | none => cases hy
              | some y' =>
                have := hx y' rfl
                cases hy
                split <;> omega
          have bt : ∀ y, l_tm Y (if (w : Int) = wo then .inl none else e_tm q b (e_tt b (gV G w))) = some y → y ≤ B + 99 * w := by
            intro y hy
            split at hy
            · cases hy
            · obtain ⟨tk0, tk⟩ := TOK_tt (b := b) f3
              generalize e_tt b (gV G w) = τ at *
              unfold e_tm at hy
              split at hy
              · unfold l_tm at hy
                dsimp only at hy
                cases hy
                split
                · omega
                · have := hq b (by omega) (by omega)
                  omega
              · split at hy
                · unfold l_tm at hy
                  dsimp only at hy
                  have := hq τ.2.1 (by omega) (by omega)
                  split at hy
                  · cases hy; omega
                  · split at hy
                    · cases hy; omega
                    · cases hy
                · split at hy
                  · unfold l_tm at hy
                    dsimp only at hy
                    have hx := ih τ.2.1.toNat (by omega)
                    generalize Y τ.2.1.toNat = o at *
                    cases o with
                    | none => cases hy
                    | some y' =>
                      have := hx y' rfl
                      cases hy
                      omega
                  · cases hy
          generalize l_fr Y (e_fr b (gV G w)) = o1 at *
          generalize l_tm Y (if (w : Int) = wo then .inl none else e_tm q b (e_tt b (gV G w))) = o2 at *
          cases o1 with
          | none =>
            cases o2 with
            | none => cases hz2
            | some p2 => cases hz2; exact bt _ rfl
          | some p1 =>
            cases o2 with
            | none => cases hz2; exact bf _ rfl
            | some p2 =>
              have := bf p1 rfl
              cases hz2
              omega
    · rw [if_neg e] at hz
      exact ih w hw z hz
theorem l_dn_100 (hW : ∀ i : Int, 0 ≤ i → i < V → WV G pl V i) : ∀ v : Nat, v ≤ V → 0 ≤ l_sm (l_dn (E_G G q b wo)) v ∧ l_sm (l_dn (E_G G q b wo)) v ≤ 100 * v := by
  intro v
  induction v with
  | zero => intro _; exact ⟨Int.le_refl 0, Int.le_refl 0⟩
  | succ v ih =>
    intro hv
    have := ih (by omega)
    obtain ⟨nf, nt, e1, e2, e3, e4, e5, e6⟩ := E_G_up (q := q) (b := b) (wo := wo) hW (show v < V by omega)
    rw [l_sm]
    have : 0 ≤ e_as G v ∧ e_as G v ≤ 1 := by unfold e_as; split <;> decide
    have : 0 ≤ (if e_rd G v = true then (1 : Int) else 0) := by split <;> decide
    omega
theorem l_sw_lo (hW : ∀ i : Int, 0 ≤ i → i < V → WV G pl V i) (hl : l_W (E_G G q b wo) V) (h240 : V ≤ 240) (hX : XLO V X) : ∀ k : Nat, k ≤ V → XLO V (l_sw (E_G G q b wo) (thC G M) k X) := by
  intro k hk w hw z hz
  by_cases h : w < k
  · have h1 := l_sw_low hl k hk w h z hz
    have h2 := l_dn_100 (q := q) (b := b) (wo := wo) hW (w + 1) (by omega)
    omega
  · rw [l_sw_ge (by omega)] at hz
    exact hX w hw z hz
theorem XOK_of (h1 : XUP B V X) (h2 : XLO V X) (hB : B ≤ 60000) (h240 : V ≤ 240) : XOK V X := by
  intro v hv z hz
  have := h1 v hv z hz
  have := h2 v hv z hz
  omega
theorem enC_inj {o1 o2 : Option Int} (h1 : ∀ x, o1 = some x → x ≤ 90000) (h2 : ∀ x, o2 = some x → x ≤ 90000) : enC o1 = enC o2 ↔ o1 = o2 := by
  constructor
  · intro h
    cases o1 with
    | none => cases o2 with
      | none => rfl
      | some y => have := h2 y rfl; have h : (99999 : Int) = y := h; omega
    | some x => cases o2 with
      | none => have := h1 x rfl; have h : x = (99999 : Int) := h; omega
      | some y => have h : x = y := h; rw [h]
  · rintro rfl; rfl
theorem enC_T (hM : M ≤ 60000) {o : Option Int} {v : Nat} (hr : e_rd G v = true) : enC (l_T (thC G M) v o) = if M < enC o then 99999 else enC o := by
  unfold l_T thC
  rw [if_pos hr]
  cases o with
  | none => show (99999 : Int) = if M < 99999 then 99999 else 99999; rw [if_pos (by omega)]
  | some z =>
    show enC (if M < z then none else some z) = if M < z then 99999 else z
    split <;> rfl
theorem l_T_no {o : Option Int} {v : Nat} (hr : ¬ e_rd G v = true) : l_T (thC G M) v o = o := by
  unfold l_T thC
  rw [if_neg hr]
/-- one sweep -/
theorem n6_i (hc : q_C c) (h : CV c C r G V pl) (ha : ROW a) (hb : 0 ≤ b ∧ b ≤ 3) (hp : ¬ b = 3 → ¬ pl b = -1) (hB : 99 ≤ B ∧ B ≤ 60000) (hM : 0 ≤ M ∧ M ≤ B) (hX1 : XUP B V X) (hX2 : XLO V X) {l6 : V2}
    (kk : ∀ l8, qx sc (D + 3) 6 132 [vr 55, vr a, vi b, vi wo, vi M, vi (if mvB G (E_G G (q_of pl) b wo) (thC G M) X V = true then 1 else 0), l6, vi V, l8] [] (0, 0) bb (NS c C (RW r a (l_sw (E_G G (q_of pl) b wo) (thC G M) V X) V)) Q) :
    ∀ (d k : Nat) (l8 : V2), k + d = V → qx sc (D + 3) 6 45 [vr 55, vr a, vi b, vi wo, vi M, vi (if mvB G (E_G G (q_of pl) b wo) (thC G M) X k = true then 1 else 0), l6, vi k, l8] [] (0, 0) bb (NS c C (RW r a (l_sw (E_G G (q_of pl) b wo) (thC G M) k X) V)) Q := by
  have hW : ∀ i : Int, 0 ≤ i → i < V → WV G pl V i := fun i i0 i1 => (h.1 i i0 i1).2
  have hq := CV_q h
  have hl := E_G_W (b := b) (wo := wo) hW hq hb
  have h240 := h.2.2.1
  obtain ⟨t1, t2, t3, t4, t5⟩ := ha
  have ha : ROW a := ⟨t1, t2, t3, t4, t5⟩
  intro d
  induction d with
  | zero =>
    intro k l8 hk
    have e : k = V := by omega
    subst e
    have e9 : ∀ X, NS c C (RW r a X k) 9 0 = k := fun X => by rw [NS_lo hc (by decide) (by decide), RW_ne (by omega)]; exact h.2.1
    rw [k6_45]
    simp only [k6_47, k6_48, k6_51, k6_54, e9]
    exact ⟨fun hh => by omega, fun _ => kk _⟩
  | succ d ih =>
    intro k l8 hk
    have hkV : k < V := by omega
    have k0 : (0 : Int) ≤ (k : Int) := by omega
    have k1 : (k : Int) < 240 := by omega
    have hY1 := l_sw_up (wo := wo) hW hq hb hB.1 hM.2 hX1 k (by omega)
    have hY2 := l_sw_lo (M := M) hW hl h240 hX2 k (by omega)
    have hY1' := l_sw_up (wo := wo) hW hq hb hB.1 hM.2 hX1 (k + 1) (by omega)
    have hY2' := l_sw_lo (M := M) hW hl h240 hX2 (k + 1) (by omega)
    have hYk : l_sw (E_G G (q_of pl) b wo) (thC G M) k X k = X k := l_sw_ge (Nat.le_refl _)
    have hnx := ih (k + 1)
    have eS : l_sw (E_G G (q_of pl) b wo) (thC G M) (k + 1) X = l_sw1 (E_G G (q_of pl) b wo) (thC G M) k (l_sw (E_G G (q_of pl) b wo) (thC G M) k X) := rfl
    have eM : mvB G (E_G G (q_of pl) b wo) (thC G M) X (k + 1) = (mvB G (E_G G (q_of pl) b wo) (thC G M) X k || (e_rd G k && decide (l_sw (E_G G (q_of pl) b wo) (thC G M) (k + 1) X k ≠ X k))) := rfl
    rw [eM] at hnx
    have eat : l_sw (E_G G (q_of pl) b wo) (thC G M) (k + 1) X k = l_T (thC G M) k (l_F (E_G G (q_of pl) b wo) (l_sw (E_G G (q_of pl) b wo) (thC G M) k X) k) := l_sw_at
    have ob1 : ∀ z, l_sw (E_G G (q_of pl) b wo) (thC G M) (k + 1) X k = some z → z ≤ 90000 := fun z hz => by have := hY1' k hkV z hz; omega
    have ob2 : ∀ z, X k = some z → z ≤ 90000 := fun z hz => by have := hX1 k hkV z hz; omega
    have hinj := enC_inj ob1 ob2
    rw [eat] at hnx hinj ob1
    rw [eS] at hnx
    unfold l_sw1 at hnx
    generalize l_sw (E_G G (q_of pl) b wo) (thC G M) k X = Y at *
    have hXo := XOK_of hY1 hY2 hB.2 h240
    have e9 : NS c C (RW r a Y V) 9 0 = V := by rw [NS_lo hc (by decide) (by decide), RW_ne (by omega)]; exact h.2.1
    have e11 : NS c C (RW r a Y V) 11 k = (gV G k).1.2.1 := by rw [NS_lo hc (by decide) (by decide), RW_ne (by omega)]; exact (CV_raw h hkV).1.1
    have ea : NS c C (RW r a Y V) a k = enC (X k) := by rw [NS_lo hc t3 t4, RW_at hkV, hYk]
    have kV : ((k : Int) < (V : Int)) := by omega
    rw [k6_45]
    simp only [k6_47, k6_48, k6_51, k6_54, k6_57, k6_58, k6_59, k6_60, k6_62, k6_63, e9, kV, true_implies, false_implies, not_true_eq_false, not_false_eq_true, true_and, and_true, implies_true, or_true, true_or, or_false, false_or, Int.reduceEq, Int.one_ne_zero, Nat.reduceEqDiff]
    refine n8 hc (CV_RW ha h) ha hkV (fun w hw => RW_at hw) hXo hb hp ?_
    simp only [q_kn_v, k6_66, k6_68, k6_69, k6_72, k6_75, k6_77, k6_78, k6_80, e11, qt_1, ql_1, qt_2, ql_2, qt_3, ql_3, qt_6, ql_6, qt_7, ql_7, qt_8, ql_8, qt_10, ql_10, qt_11, ql_11, qt_12, ql_12, qt_13, ql_13, qt_14, ql_14, qt_15, ql_15, qt_16, ql_16, qt_17, ql_17, qt_18, ql_18, qt_19, ql_19, qt_20, ql_20, qt_21, ql_21, qt_22, ql_22, qt_23, ql_23, qt_24, ql_24, qt_25, ql_25, qt_26, ql_26, qt_28, ql_28, qt_29, ql_29, qt_30, ql_30, qt_31, ql_31, qt_32, ql_32, qt_33, ql_33, qt_34, ql_34, qt_35, ql_35, qt_36, ql_36, qt_37, ql_37, qt_38, ql_38, qt_40, ql_40, qt_41, ql_41, qt_42, ql_42, qt_43, ql_43, qt_44, ql_44, qt_45, ql_45, qt_46, ql_46, qt_47, ql_47, qt_48, ql_48, qt_49, ql_49, qt_50, ql_50, qt_51, ql_51, qt_52, ql_52, qt_53, ql_53, qt_54, ql_54, qt_56, ql_56, qt_57, ql_57, qt_58, ql_58, qt_59, ql_59, qt_60, ql_60, qt_61, ql_61, qt_62, ql_62, qt_63, ql_63, qt_64, ql_64, qt_65, ql_65, qt_67, ql_67, qt_68, ql_68, qt_69, ql_69, qt_70, ql_70, qt_71, ql_71, qt_73, ql_73, qt_74, ql_74, qt_75, ql_75, qt_76, ql_76, qt_78, ql_78, qt_79, ql_79, qt_80, ql_80, qt_81, ql_81, qt_82, ql_82, qt_83, ql_83, qt_84, ql_84, qt_85, ql_85, qt_86, ql_86, qt_87, ql_87, qt_89, ql_89, qt_90, ql_90, qt_91, ql_91, qt_92, ql_92, qt_93, ql_93, qt_94, ql_94, qt_95, ql_95, qt_96, ql_96, qt_97, ql_97, qt_98, ql_98, qt_99, ql_99, qt_100, ql_100, qt_101, ql_101, qt_102, ql_102, qt_103, ql_103, qt_105, ql_105, qt_106, ql_106, qt_107, ql_107, qt_108, ql_108, qt_109, ql_109, qt_110, ql_110, qt_111, ql_111, qt_113, ql_113, qt_114, ql_114, qt_115, ql_115, qt_116, ql_116, qt_117, ql_117, qt_118, ql_118, qt_119, ql_119, qt_120, ql_120, qt_121, ql_121, qt_122, ql_122, qt_123, ql_123, qt_124, ql_124, qt_125, ql_125, qt_126, ql_126, qt_127, ql_127, qt_129, ql_129, qt_130, ql_130, qt_131, ql_131, qt_132, ql_132, qt_133, ql_133, qt_134, ql_134, qt_135, ql_135, qt_137, ql_137, qt_138, ql_138, qt_139, ql_139, qt_140, ql_140, qt_141, ql_141, qt_142, ql_142, qt_143, ql_143, qt_144, ql_144, qt_145, ql_145, qt_146, ql_146, qt_147, ql_147, qt_148, ql_148, qt_149, ql_149, qt_150, ql_150, qt_151, ql_151, qt_152, ql_152, qt_153, ql_153, qt_154, ql_154, qt_155, ql_155, qt_156, ql_156, qt_157, ql_157, qt_158, ql_158, qt_159, ql_159, qt_160, ql_160, qt_161, ql_161, qt_162, ql_162, qt_163, ql_163, qt_164, ql_164, qt_165, ql_165, qt_166, ql_166, qt_167, ql_167, qt_168, ql_168, qt_169, ql_169, qt_170, ql_170, qt_171, ql_171, qt_172, ql_172, qt_173, ql_173, qt_174, ql_174, qt_175, ql_175, qt_176, ql_176, qt_177, ql_177, qt_178, ql_178, qt_179, ql_179, qt_180, ql_180, qt_181, ql_181, qt_182, ql_182, qt_183, ql_183, qt_184, ql_184, qt_185, ql_185, qt_186, ql_186, qt_187, ql_187, qt_188, ql_188, true_implies, false_implies, not_true_eq_false, not_false_eq_true, true_and, and_true, implies_true, or_true, true_or, or_false, false_or, Int.reduceEq, Int.one_ne_zero, Nat.reduceEqDiff, k0, k1]
    -- the end of a turn
    have fin : ∀ (fl : Bool) (o : Option Int), o = l_T (thC G M) k (l_F (E_G G (q_of pl) b wo) Y k) → fl = (mvB G (E_G G (q_of pl) b wo) (thC G M) X k || (e_rd G k && decide (l_T (thC G M) k (l_F (E_G G (q_of pl) b wo) Y k) ≠ X k))) → qx sc (D + 3) 6 120 [vr 55, vr a, vi b, vi wo, vi M, vi (if fl = true then 1 else 0), l6, vi k, vi (enC o)] [] (0, 0) bb (NS c C (RW r a Y V)) Q := by
      intro fl o ho hfl
      subst ho hfl
      simp only [k6_120, k6_121, k6_123, k6_125, k6_126, k6_129, t1, t2, true_implies, false_implies, not_true_eq_false, not_false_eq_true, true_and, and_true, implies_true, or_true, true_or, or_false, false_or, Int.reduceEq, Int.one_ne_zero, Nat.reduceEqDiff, k0, k1, NS_RWu hc ha hkV]
      exact ⟨by omega, hnx _ (by omega)⟩
    refine ⟨fun g => ?_, fun g => ?_⟩
    · have hr : e_rd G k = true := decide_eq_true g
      have hT := enC_T (o := l_F (E_G G (q_of pl) b wo) Y k) (by omega : M ≤ 60000) hr
      have mid : ∀ z, z = enC (l_T (thC G M) k (l_F (E_G G (q_of pl) b wo) Y k)) → qx sc (D + 3) 6 97 [vr 55, vr a, vi b, vi wo, vi M, vi (if mvB G (E_G G (q_of pl) b wo) (thC G M) X k = true then 1 else 0), l6, vi k, vi (enC (l_F (E_G G (q_of pl) b wo) Y k))] [vi z] (0, 0) bb (NS c C (RW r a Y V)) Q := by
        intro z hz
        subst hz
        cases hfl : mvB G (E_G G (q_of pl) b wo) (thC G M) X k with
        | true =>
          simp only [k6_97, k6_99, k6_101, k6_113, k6_114, k6_118, if_true, true_implies, false_implies, not_true_eq_false, not_false_eq_true, true_and, and_true, implies_true, or_true, true_or, or_false, false_or, Int.reduceEq, Int.one_ne_zero, Nat.reduceEqDiff]
          have := fin true _ rfl (by rw [hfl]; rfl)
          rw [if_pos rfl] at this
          exact this
        | false =>
          simp only [k6_97, k6_99, k6_101, k6_104, k6_106, k6_107, k6_109, k6_110, k6_113, k6_114, k6_117, k6_118, Bool.false_eq_true, if_false, true_implies, false_implies, not_true_eq_false, not_false_eq_true, true_and, and_true, implies_true, or_true, true_or, or_false, false_or, Int.reduceEq, Int.one_ne_zero, Nat.reduceEqDiff, ea, t1, t2, k0, k1]
          refine ⟨fun ne => ?_, fun ne => ?_⟩
          · have := fin false _ rfl (by rw [hfl, hr, hinj.mp ne]; simp)
            rw [if_neg (by decide)] at this
            exact this
          · have := fin true _ rfl (by rw [hfl, hr]; simp only [Bool.false_or, Bool.true_and]; have hne : l_T (thC G M) k (l_F (E_G G (q_of pl) b wo) Y k) ≠ X k := fun q => ne (hinj.mpr q); exact (decide_eq_true hne).symm)
            rw [if_pos rfl] at this
            exact this
      simp only [k6_83, k6_85, k6_87]
      refine ⟨fun gt => ?_, fun gt => ?_⟩
      · simp only [k6_90, k6_92]
        exact mid _ (by rw [hT, if_pos gt])
      · simp only [k6_95]
        exact mid _ (by rw [hT, if_neg gt])
    · have hr : ¬ e_rd G k = true := fun q => g (of_decide_eq_true q)
      have hr' : e_rd G k = false := by cases hq : e_rd G k with
        | true => exact absurd hq hr
        | false => rfl
      exact fin _ _ (l_T_no hr).symm (by rw [hr']; simp)
end SLV
