/-! the chain of a part, in the class -/
/-- what the analysis has laid down -/
def CSX (a : Nat) (i : Int) : Prop := (9 ≤ a ∧ a ≤ 38) ∨ (55 ≤ a ∧ a ≤ 60) ∨ (69 ≤ a ∧ a ≤ 76) ∨ (a = 66 ∧ ¬ i = 5)
theorem CST_of {c : Nat} {C r r' : St} {G : GT} {pl : Int → Int} {V S K Ln : Nat} (h : CST c C r G pl V S K Ln) (he : ∀ a i, CSX a i → r' a i = r a i) : CST c C r' G pl V S K Ln := by
  obtain ⟨hp, ⟨h1, h2, h3, ⟨h4, h5⟩, h6, h7⟩, hs, h66, h8, ⟨h9, h10⟩, h72, h11, h12, h13, h55⟩ := h
  refine ⟨hp, ⟨h1, h2, h3, ⟨fun i i0 i1 => VRokC_low (h4 i i0 i1) (fun a j ha => he a j (by unfold CSX; omega)), ?_⟩, fun i i0 i1 => MRokC_of (h6 i i0 i1) (fun a ha => he a i (by unfold CSX; omega)), fun i i0 i1 => NCokC_of (h7 i i0 i1) (fun a ha => he a i (by unfold CSX; omega))⟩, fun k' k1 k2 v hv => ?_, ?_, fun j j0 j1 => ?_, ⟨?_, ?_⟩, ?_, fun j j0 j1 => ?_, ?_, fun l l0 l1 => ?_, ?_⟩
  · rw [he 9 0 (by unfold CSX; omega)]; exact h5
  · rw [he _ _ (by unfold CSX; omega)]; exact hs k' k1 k2 v hv
  · rw [he _ _ (by unfold CSX; omega)]; exact h66
  · rw [he 70 j (by unfold CSX; omega), he 71 j (by unfold CSX; omega)]; exact h8 j j0 j1
  · rw [he _ _ (by unfold CSX; omega)]; exact h9
  · rw [he _ _ (by unfold CSX; omega)]; exact h10
  · rw [he _ _ (by unfold CSX; omega)]; exact h72
  · rw [he 73 j (by unfold CSX; omega), he 74 j (by unfold CSX; omega)]; exact h11 j j0 j1
  · rw [he _ _ (by unfold CSX; omega)]; exact h12
  · rw [he 75 l (by unfold CSX; omega), he 76 l (by unfold CSX; omega)]; exact h13 l l0 l1
  · rw [he _ _ (by unfold CSX; omega)]; exact h55
/-- the next one, all that were there being known -/
def c_nx (f : Int → Int) (v : Int) (vis : List Int) : Int := if f v < 1000 ∧ f v ∈ v :: vis then 1002 else f v
def c_it (f : Int → Int) (v0 : Int) : Nat → Int × List Int
  | 0 => (v0, [])
  | i + 1 => (c_nx f (c_it f v0 i).1 (c_it f v0 i).2, (c_it f v0 i).1 :: (c_it f v0 i).2)
theorem nodup_len : ∀ (V : Nat) (l : List Int), l.Nodup → (∀ w ∈ l, 0 ≤ w ∧ w < V) → l.length ≤ V := by
  intro V
  induction V with
  | zero =>
    intro l _ h
    cases l with
    | nil => exact Nat.le_refl _
    | cons a l => have := h a List.mem_cons_self; omega
  | succ V ih =>
    intro l hn h
    by_cases hm : (V : Int) ∈ l
    · have h1 := ih (l.erase (V : Int)) (hn.erase _) (fun w hw => by
        have h2 := (hn.mem_erase_iff).mp hw
        have h3 := h w h2.2
        have h4 := h2.1
        omega)
      have h2 := List.length_erase_of_mem hm
      omega
    · have h1 := ih l hn (fun w hw => by
        have h3 := h w hw
        have h4 : ¬ w = (V : Int) := fun e => hm (e ▸ hw)
        omega)
      omega
/-- a chain comes to an end -/
def c_T (f : Int → Int) (v0 : Int) (P : Int → Prop) (V T : Nat) : Prop := T ≤ V ∧ 1000 ≤ (c_it f v0 T).1 ∧ ∀ j, j < T → P (c_it f v0 j).1
theorem c_end {f : Int → Int} {v0 : Int} {P : Int → Prop} {V : Nat} (hP : ∀ v, P v → 0 ≤ v ∧ v < V) (hf : ∀ v, P v → (f v = 1000 ∨ f v = 1001) ∨ P (f v)) (h0 : P v0) : ∃ T, c_T f v0 P V T := by
  have key : ∀ n : Nat, (∃ T, T ≤ n ∧ 1000 ≤ (c_it f v0 T).1 ∧ ∀ j, j < T → P (c_it f v0 j).1) ∨ ((∀ j, j ≤ n → P (c_it f v0 j).1) ∧ ((c_it f v0 n).1 :: (c_it f v0 n).2).Nodup ∧ (∀ w ∈ (c_it f v0 n).1 :: (c_it f v0 n).2, P w) ∧ (c_it f v0 n).2.length = n) := by
    intro n
    induction n with
    | zero =>
      right
      refine ⟨fun j hj => ?_, ?_, fun w hw => ?_, rfl⟩
      · have : j = 0 := by omega
        subst this
        exact h0
      · exact List.nodup_cons.mpr ⟨List.not_mem_nil, List.nodup_nil⟩
      · rw [List.mem_singleton.mp hw]; exact h0
    | succ n ih =>
      rcases ih with ⟨T, t1, t2, t3⟩ | ⟨a1, a2, a3, a4⟩
      · exact Or.inl ⟨T, by omega, t2, t3⟩
      · have e1 : (c_it f v0 (n + 1)).1 = c_nx f (c_it f v0 n).1 (c_it f v0 n).2 := rfl
        have e2 : (c_it f v0 (n + 1)).2 = (c_it f v0 n).1 :: (c_it f v0 n).2 := rfl
        have hend : 1000 ≤ (c_it f v0 (n + 1)).1 → ∃ T, T ≤ n + 1 ∧ 1000 ≤ (c_it f v0 T).1 ∧ ∀ j, j < T → P (c_it f v0 j).1 := fun h => ⟨n + 1, Nat.le_refl _, h, fun j hj => a1 j (by omega)⟩
        have hfn := hf _ (a1 n (Nat.le_refl _))
        by_cases hm : f (c_it f v0 n).1 < 1000 ∧ f (c_it f v0 n).1 ∈ (c_it f v0 n).1 :: (c_it f v0 n).2
        · refine Or.inl (hend ?_)
          rw [e1]; unfold c_nx; rw [if_pos hm]; decide
        · have e3 : (c_it f v0 (n + 1)).1 = f (c_it f v0 n).1 := by rw [e1]; unfold c_nx; rw [if_neg hm]
          rcases hfn with h | h
          · refine Or.inl (hend ?_)
            rw [e3]; omega
          · by_cases h1000 : f (c_it f v0 n).1 < 1000
            · right
              refine ⟨fun j hj => ?_, ?_, ?_, ?_⟩
              · by_cases hj2 : j ≤ n
                · exact a1 j hj2
                · have : j = n + 1 := by omega
                  subst this
                  rw [e3]; exact h
              · rw [e2, e3]
                exact List.nodup_cons.mpr ⟨fun q => hm ⟨h1000, q⟩, a2⟩
              · intro w hw
                rw [e2, e3] at hw
                rcases List.mem_cons.mp hw with rfl | hw
                · exact h
                · exact a3 w hw
              · rw [e2, List.length_cons, a4]
            · refine Or.inl (hend ?_)
              rw [e3]; omega
  rcases key V with ⟨T, t1, t2, t3⟩ | ⟨a1, a2, a3, a4⟩
  · exact ⟨T, t1, t2, t3⟩
  · have := nodup_len V _ a2 (fun w hw => hP w (a3 w hw))
    rw [List.length_cons, a4] at this
    omega
/-- the x-th of a chain -/
noncomputable def chA (G : GT) (pl : Int → Int) (V : Nat) (b v0 x : Int) : Int := if 0 ≤ x ∧ ∀ j : Nat, j < x.toNat → (c_it (nxr G pl V b) v0 j).1 < 1000 then (c_it (nxr G pl V b) v0 x.toNat).1 else -1
/-- a version with a bound -/
def KNB (G : GT) (pl : Int → Int) (V : Nat) (b v : Int) : Prop := 0 ≤ v ∧ v < V ∧ ∃ a, l_L (E_G G (q_of pl) b (-1)) V v.toNat = some a
section LNK
variable {sc : Nat × (Nat → Int32)} {D : Nat} {bb : Bool} {Q : QP} {c V S K Ln Cn v T : Nat} {C r r0 σ : St} {G : GT} {pl : Int → Int} {b wo k i x y v0 ch : Int}
theorem KNB_T (hp : PRO G pl V S K Ln) (hb : 0 ≤ b ∧ b ≤ 3) (h0 : KNB G pl V b v0) : ∃ T, c_T (nxr G pl V b) v0 (KNB G pl V b) V T := by
  refine c_end (fun v h => ⟨h.1, h.2.1⟩) (fun v h => ?_) h0
  obtain ⟨h1, h2, a, h3⟩ := h
  have := nxr_ok (v := v.toNat) hp hb (by omega) h3
  rw [Int.toNat_of_nonneg h1] at this
  exact this
theorem chA_T (h240 : V ≤ 240) (hT : c_T (nxr G pl V b) v0 (KNB G pl V b) V T) : chA G pl V b v0 x = if 0 ≤ x ∧ x ≤ T then (c_it (nxr G pl V b) v0 x.toNat).1 else -1 := by
  obtain ⟨t1, t2, t3⟩ := hT
  unfold chA
  by_cases h : 0 ≤ x ∧ x ≤ T
  · have hc : 0 ≤ x ∧ ∀ j : Nat, j < x.toNat → (c_it (nxr G pl V b) v0 j).1 < 1000 := ⟨h.1, fun j hj => by
      have := (t3 j (by omega)).2.1
      omega⟩
    rw [if_pos h, if_pos hc]
  · rw [if_neg h, if_neg]
    intro q
    have := q.2 T (by omega)
    omega
def MKS (r0 r : St) (vis : List Int) (ch : Int) : Prop := (∀ a j, ¬ a = 67 → r a j = r0 a j) ∧ ∀ w, 0 ≤ w → w < 240 → (r 67 w ≤ ch ∧ (r 67 w = ch ↔ w ∈ vis))
theorem n34_l (hc : q_C c) (hk : CST c C r0 G pl V S K Ln) (hb : 0 ≤ b ∧ b ≤ 3) (hbt : ¬ b = 3 → ¬ pl b = -1) (hT : c_T (nxr G pl V b) v0 (KNB G pl V b) V T) (h5 : r0 66 5 = ch) {kn : Nat} {l1 l2 : V2}
    (kk : ∀ r', (∀ a j, ¬ a = 67 → r' a j = r0 a j) → (∀ w, 0 ≤ w → w < 240 → r' 67 w ≤ ch) → Q (.inl (some (vi (if kn ≤ T then (c_it (nxr G pl V b) v0 kn).1 else -1)))) bb (NS c C r')) (h1000 : kn ≤ 1000) :
    ∀ (d i : Nat) (r : St), i + d = kn → i ≤ T → MKS r0 r (c_it (nxr G pl V b) v0 i).2 ch → qx sc (D + 3) 34 56 [vr 66, l1, l2, vi kn, vi b, vi (c_it (nxr G pl V b) v0 i).1, vi i] [] (0, 0) bb (NS c C r) Q := by
  intro d
  have hp := hk.1
  have h240 := hp.2.1.2.1
  induction d with
  | zero =>
    intro i r hi hiT hM
    have e : i = kn := by omega
    subst e
    simp only [k34_56, k34_58, k34_59, k34_108, k34_110, Int.lt_irrefl, true_implies, false_implies, not_true_eq_false, not_false_eq_true, true_and, and_true, implies_true, or_true, true_or, or_false, false_or, Int.reduceEq, Int.one_ne_zero, Nat.reduceEqDiff]
    have := kk r hM.1 (fun w w0 w1 => (hM.2 w w0 w1).1)
    rw [if_pos hiT] at this
    exact this
  | succ d ih =>
    intro i r hi hiT hM
    have hlt : (i : Int) < kn := by omega
    have hk' : CST c C r G pl V S K Ln := CST_of hk (fun a i h => hM.1 a i (by unfold CSX at h; omega))
    have e9 : r 9 0 = V := hk'.2.1.2.2.2.1.2
    have e5 : r 66 5 = ch := by rw [hM.1 66 5 (by decide)]; exact h5
    obtain ⟨t1, t2, t3⟩ := hT
    simp only [k34_56, k34_58, k34_59, hlt, true_implies, false_implies, not_true_eq_false, not_false_eq_true, true_and, and_true, implies_true, or_true, true_or, or_false, false_or, Int.reduceEq, Int.one_ne_zero, Nat.reduceEqDiff]
    by_cases hi2 : i < T
    · obtain ⟨v0', v1', a, ha⟩ := t3 i hi2
      obtain ⟨n, hn⟩ : ∃ n : Nat, (c_it (nxr G pl V b) v0 i).1 = n := ⟨_, (Int.toNat_of_nonneg v0').symm⟩
      have eT : (c_it (nxr G pl V b) v0 (i + 1)).1 = c_nx (nxr G pl V b) n (c_it (nxr G pl V b) v0 i).2 := by rw [← hn]; rfl
      have eS : (c_it (nxr G pl V b) v0 (i + 1)).2 = (n : Int) :: (c_it (nxr G pl V b) v0 i).2 := by rw [← hn]; rfl
      rw [hn] at v0' v1' ha ⊢
      rw [Int.toNat_natCast] at ha
      have n0 : ¬ (n : Int) < 0 := by omega
      have n240 : (n : Int) < 240 := by omega
      simp only [k34_62, k34_64, k34_67, k34_69, k34_70, k34_73, k34_76, k34_79, k34_80, k34_81, k34_82, k34_85, k34_87, k34_88, k34_91, k34_92, k34_93, k34_95, k34_97, NS_lo hc, NS_g hc, NS_f hc, NS_u hc, NS_uf hc, Nat.reduceLT, Nat.reduceLeDiff, Nat.reduceEqDiff, not_false_eq_true, qt_1, ql_1, qt_2, ql_2, qt_3, ql_3, qt_6, ql_6, qt_7, ql_7, qt_8, ql_8, qt_10, ql_10, qt_11, ql_11, qt_12, ql_12, qt_13, ql_13, qt_14, ql_14, qt_15, ql_15, qt_16, ql_16, qt_17, ql_17, qt_18, ql_18, qt_19, ql_19, qt_20, ql_20, qt_21, ql_21, qt_22, ql_22, qt_23, ql_23, qt_24, ql_24, qt_25, ql_25, qt_26, ql_26, qt_28, ql_28, qt_29, ql_29, qt_30, ql_30, qt_31, ql_31, qt_32, ql_32, qt_33, ql_33, qt_34, ql_34, qt_35, ql_35, qt_36, ql_36, qt_37, ql_37, qt_38, ql_38, qt_40, ql_40, qt_41, ql_41, qt_42, ql_42, qt_43, ql_43, qt_44, ql_44, qt_45, ql_45, qt_46, ql_46, qt_47, ql_47, qt_48, ql_48, qt_49, ql_49, qt_50, ql_50, qt_51, ql_51, qt_52, ql_52, qt_53, ql_53, qt_54, ql_54, qt_56, ql_56, qt_57, ql_57, qt_58, ql_58, qt_59, ql_59, qt_60, ql_60, qt_61, ql_61, qt_62, ql_62, qt_63, ql_63, qt_64, ql_64, qt_65, ql_65, qt_67, ql_67, qt_68, ql_68, qt_69, ql_69, qt_70, ql_70, qt_71, ql_71, qt_73, ql_73, qt_74, ql_74, qt_75, ql_75, qt_76, ql_76, qt_78, ql_78, qt_79, ql_79, qt_80, ql_80, qt_81, ql_81, qt_82, ql_82, qt_83, ql_83, qt_84, ql_84, qt_85, ql_85, qt_86, ql_86, qt_87, ql_87, qt_89, ql_89, qt_90, ql_90, qt_91, ql_91, qt_92, ql_92, qt_93, ql_93, qt_94, ql_94, qt_95, ql_95, qt_96, ql_96, qt_97, ql_97, qt_98, ql_98, qt_99, ql_99, qt_100, ql_100, qt_101, ql_101, qt_102, ql_102, qt_103, ql_103, qt_105, ql_105, qt_106, ql_106, qt_107, ql_107, qt_108, ql_108, qt_109, ql_109, qt_110, ql_110, qt_111, ql_111, qt_113, ql_113, qt_114, ql_114, qt_115, ql_115, qt_116, ql_116, qt_117, ql_117, qt_118, ql_118, qt_119, ql_119, qt_120, ql_120, qt_121, ql_121, qt_122, ql_122, qt_123, ql_123, qt_124, ql_124, qt_125, ql_125, qt_126, ql_126, qt_127, ql_127, qt_129, ql_129, qt_130, ql_130, qt_131, ql_131, qt_132, ql_132, qt_133, ql_133, qt_134, ql_134, qt_135, ql_135, qt_137, ql_137, qt_138, ql_138, qt_139, ql_139, qt_140, ql_140, qt_141, ql_141, qt_142, ql_142, qt_143, ql_143, qt_144, ql_144, qt_145, ql_145, qt_146, ql_146, qt_147, ql_147, qt_148, ql_148, qt_149, ql_149, qt_150, ql_150, qt_151, ql_151, qt_152, ql_152, qt_153, ql_153, qt_154, ql_154, qt_155, ql_155, qt_156, ql_156, qt_157, ql_157, qt_158, ql_158, qt_159, ql_159, qt_160, ql_160, qt_161, ql_161, qt_162, ql_162, qt_163, ql_163, qt_164, ql_164, qt_165, ql_165, qt_166, ql_166, qt_167, ql_167, qt_168, ql_168, qt_169, ql_169, qt_170, ql_170, qt_171, ql_171, qt_172, ql_172, qt_173, ql_173, qt_174, ql_174, qt_175, ql_175, qt_176, ql_176, qt_177, ql_177, qt_178, ql_178, qt_179, ql_179, qt_180, ql_180, qt_181, ql_181, qt_182, ql_182, qt_183, ql_183, qt_184, ql_184, qt_185, ql_185, qt_186, ql_186, qt_187, ql_187, qt_188, ql_188, true_implies, false_implies, not_true_eq_false, not_false_eq_true, true_and, and_true, implies_true, or_true, true_or, or_false, false_or, Int.reduceEq, Int.one_ne_zero, Nat.reduceEqDiff, n0, v0', v1', n240, e9, e5]
      have hk2 : CST c C (q_up r 67 n ch) G pl V S K Ln := CST_of hk' (fun a i h => q_up_ne _ _ _ _ (by unfold CSX at h; omega))
      refine n36 (D := D) hc hk2 hb hbt (by omega) ha ?_
      have hnx := nxr_ok hp hb (show n < V by omega) ha
      have emk : ∀ w, 0 ≤ w → w < 240 → (q_up r 67 n ch 67 w ≤ ch ∧ (q_up r 67 n ch 67 w = ch ↔ w ∈ (n : Int) :: (c_it (nxr G pl V b) v0 i).2)) := by
        intro w w0 w1
        by_cases hw : w = n
        · subst hw
          rw [q_up_eq]
          exact ⟨Int.le_refl _, ⟨fun _ => List.mem_cons_self, fun _ => rfl⟩⟩
        · rw [q_up_ne2 _ _ _ hw]
          obtain ⟨m1, m2⟩ := hM.2 w w0 w1
          refine ⟨m1, ⟨fun q => List.mem_cons_of_mem _ (m2.mp q), fun q => ?_⟩⟩
          rcases List.mem_cons.mp q with q | q
          · exact absurd q hw
          · exact m2.mpr q
      have ev : (if nxr G pl V b n < 1000 ∧ q_up r 67 n ch 67 (nxr G pl V b n) = q_up r 67 n ch 66 5 then (1002 : Int) else nxr G pl V b n) = (c_it (nxr G pl V b) v0 (i + 1)).1 := by
        rw [eT]
        unfold c_nx
        rw [q_up_ne _ _ _ _ (show ¬ 66 = 67 by decide), e5]
        rcases hnx with hnx | ⟨x0, x1, -⟩
        · rw [if_neg (by omega), if_neg (by omega)]
        · have m := (emk _ x0 (by omega)).2
          by_cases hq : nxr G pl V b n ∈ (n : Int) :: (c_it (nxr G pl V b) v0 i).2
          · rw [if_pos ⟨by omega, m.mpr hq⟩, if_pos ⟨by omega, hq⟩]
          · rw [if_neg (fun q => hq (m.mp q.2)), if_neg (fun q => hq q.2)]
      rw [ev]
      simp only [q_kn_v, k34_100, k34_102, k34_105]
      refine ⟨by omega, ?_⟩
      have hi1 : ((i : Int) + 1) = ((i + 1 : Nat) : Int) := by omega
      rw [hi1]
      refine ih (i + 1) _ (by omega) (by omega) ⟨fun a j ha' => by rw [q_up_ne _ _ _ _ ha']; exact hM.1 a j ha', ?_⟩
      rw [eS]
      exact emk
    · have e : i = T := by omega
      subst e
      have g1 : ¬ (c_it (nxr G pl V b) v0 i).1 < 0 := by omega
      have g2 : ¬ (c_it (nxr G pl V b) v0 i).1 < (V : Int) := by omega
      simp only [k34_62, k34_64, k34_67, k34_69, k34_70, k34_73, k34_76, k34_79, k34_80, NS_lo hc, NS_g hc, NS_f hc, NS_u hc, NS_uf hc, Nat.reduceLT, Nat.reduceLeDiff, Nat.reduceEqDiff, not_false_eq_true, true_implies, false_implies, not_true_eq_false, not_false_eq_true, true_and, and_true, implies_true, or_true, true_or, or_false, false_or, Int.reduceEq, Int.one_ne_zero, Nat.reduceEqDiff, g1, g2, e9]
      have := kk r hM.1 (fun w w0 w1 => (hM.2 w w0 w1).1)
      rw [if_neg (by omega)] at this
      exact this
/-- link -/
theorem n34 (hc : q_C c) (hk : CST c C r G pl V S K Ln) (k0 : 0 ≤ k) (k1 : k < K) {ab : Int} (hab : ab = 0 ∨ ab = 1) (hsU : ab = 1 → shU G pl V (-1) k = 1) (hsD : ab = 0 → shD G pl V (-1) k = 1) (h5 : 0 ≤ r 66 5 ∧ r 66 5 ≤ 100000) (h67 : ∀ w, 0 ≤ w → w < 240 → r 67 w ≤ r 66 5)
    (kk : ∀ r', (∀ a i, ¬ a = 67 → ¬ (a = 66 ∧ i = 5) → r' a i = r a i) → (∀ w, 0 ≤ w → w < 240 → r' 67 w ≤ r' 66 5) → (r' 66 5 = r 66 5 ∨ r' 66 5 = r 66 5 + 1) → Q (.inl (some (vi (chA G pl V (if ab = 1 then (gK G k).2.1 else 3) (gC G k).1 x)))) bb (NS c C r')) : qx sc (D + 3) 34 0 [vr 66, vi k, vi ab, vi x, vn, vn, vn] [] (0, 0) bb (NS c C r) Q := by
  obtain ⟨hp, hck, -, h663, -⟩ := id hk
  have h240 := hp.2.1.2.1
  obtain ⟨⟨-, w2, -, w4, w5, -⟩, -⟩ := PRO_k hp k0 k1
  have h40 : k < 40 := by have := hp.2.1; omega
  have e28 : r 28 k = (gC G k).1 := (hck.2.2.2.2.2 k k0 k1).1
  have e13 : C 13 k = (gK G k).2.1 := (hck.1.2.1 k k0 k1).2.1
  have hb : 0 ≤ (if ab = 1 then (gK G k).2.1 else 3) ∧ (if ab = 1 then (gK G k).2.1 else 3) ≤ 3 := by split <;> omega
  have hbt : ¬ (if ab = 1 then (gK G k).2.1 else 3) = 3 → ¬ pl (if ab = 1 then (gK G k).2.1 else 3) = -1 := by
    split
    · exact fun _ => w2.2.2
    · exact fun q => absurd rfl q
  have hK : KNB G pl V (if ab = 1 then (gK G k).2.1 else 3) (gC G k).1 := by
    refine ⟨by omega, by omega, ?_⟩
    rcases hab with rfl | rfl
    · have h := hsD rfl
      rw [if_neg (by decide)]
      unfold shD at h
      cases hl : l_L (E_G G (q_of pl) 3 (-1)) V (gC G k).1.toNat with
      | some a => exact ⟨a, rfl⟩
      | none => rw [hl] at h; exact absurd h (by decide)
    · have h := hsU rfl
      rw [if_pos rfl]
      unfold shU at h
      cases hl : l_L (E_G G (q_of pl) (gK G k).2.1 (-1)) V (gC G k).1.toNat with
      | some a => exact ⟨a, rfl⟩
      | none => rw [hl] at h; exact absurd h (by decide)
  obtain ⟨T, hT⟩ := KNB_T hp hb hK
  have hch := chA_T (x := x) h240 hT
  have hT1 := hT.1
  have kk0 := kk r (fun _ _ _ _ => rfl) h67 (Or.inl rfl)
  simp only [k34_0, k34_1, k34_4, k34_5, k34_8, k34_11, k34_12, true_implies, false_implies, not_true_eq_false, not_false_eq_true, true_and, and_true, implies_true, or_true, true_or, or_false, false_or, Int.reduceEq, Int.one_ne_zero, Nat.reduceEqDiff]
  refine ⟨fun g => ?_, fun g => ⟨fun g2 => ?_, fun g2 => ?_⟩⟩
  · rw [hch, if_neg (by omega)] at kk0; exact kk0
  · rw [hch, if_neg (by omega)] at kk0; exact kk0
  · obtain ⟨xn, hxn⟩ : ∃ n : Nat, x = n := ⟨_, (Int.toNat_of_nonneg (by omega)).symm⟩
    subst hxn
    have main : ∀ b : Int, b = (if ab = 1 then (gK G k).2.1 else 3) → qx sc (D + 3) 34 30 [vr 66, vi k, vi ab, vi xn, vn, vn, vn] [vi b] (0, 0) bb (NS c C r) Q := by
      intro b eb
      rw [← eb] at hb hbt hK hT hch kk
      have hR : q_R (r 66 5 + 1) = True := eq_true (by omega)
      simp only [k34_30, k34_32, k34_33, k34_34, k34_37, k34_38, k34_39, k34_42, k34_43, k34_46, k34_49, k34_50, k34_51, k34_53, k34_54, NS_lo hc, NS_g hc, NS_f hc, NS_u hc, NS_uf hc, Nat.reduceLT, Nat.reduceLeDiff, Nat.reduceEqDiff, not_false_eq_true, qt_1, ql_1, qt_2, ql_2, qt_3, ql_3, qt_6, ql_6, qt_7, ql_7, qt_8, ql_8, qt_10, ql_10, qt_11, ql_11, qt_12, ql_12, qt_13, ql_13, qt_14, ql_14, qt_15, ql_15, qt_16, ql_16, qt_17, ql_17, qt_18, ql_18, qt_19, ql_19, qt_20, ql_20, qt_21, ql_21, qt_22, ql_22, qt_23, ql_23, qt_24, ql_24, qt_25, ql_25, qt_26, ql_26, qt_28, ql_28, qt_29, ql_29, qt_30, ql_30, qt_31, ql_31, qt_32, ql_32, qt_33, ql_33, qt_34, ql_34, qt_35, ql_35, qt_36, ql_36, qt_37, ql_37, qt_38, ql_38, qt_40, ql_40, qt_41, ql_41, qt_42, ql_42, qt_43, ql_43, qt_44, ql_44, qt_45, ql_45, qt_46, ql_46, qt_47, ql_47, qt_48, ql_48, qt_49, ql_49, qt_50, ql_50, qt_51, ql_51, qt_52, ql_52, qt_53, ql_53, qt_54, ql_54, qt_56, ql_56, qt_57, ql_57, qt_58, ql_58, qt_59, ql_59, qt_60, ql_60, qt_61, ql_61, qt_62, ql_62, qt_63, ql_63, qt_64, ql_64, qt_65, ql_65, qt_67, ql_67, qt_68, ql_68, qt_69, ql_69, qt_70, ql_70, qt_71, ql_71, qt_73, ql_73, qt_74, ql_74, qt_75, ql_75, qt_76, ql_76, qt_78, ql_78, qt_79, ql_79, qt_80, ql_80, qt_81, ql_81, qt_82, ql_82, qt_83, ql_83, qt_84, ql_84, qt_85, ql_85, qt_86, ql_86, qt_87, ql_87, qt_89, ql_89, qt_90, ql_90, qt_91, ql_91, qt_92, ql_92, qt_93, ql_93, qt_94, ql_94, qt_95, ql_95, qt_96, ql_96, qt_97, ql_97, qt_98, ql_98, qt_99, ql_99, qt_100, ql_100, qt_101, ql_101, qt_102, ql_102, qt_103, ql_103, qt_105, ql_105, qt_106, ql_106, qt_107, ql_107, qt_108, ql_108, qt_109, ql_109, qt_110, ql_110, qt_111, ql_111, qt_113, ql_113, qt_114, ql_114, qt_115, ql_115, qt_116, ql_116, qt_117, ql_117, qt_118, ql_118, qt_119, ql_119, qt_120, ql_120, qt_121, ql_121, qt_122, ql_122, qt_123, ql_123, qt_124, ql_124, qt_125, ql_125, qt_126, ql_126, qt_127, ql_127, qt_129, ql_129, qt_130, ql_130, qt_131, ql_131, qt_132, ql_132, qt_133, ql_133, qt_134, ql_134, qt_135, ql_135, qt_137, ql_137, qt_138, ql_138, qt_139, ql_139, qt_140, ql_140, qt_141, ql_141, qt_142, ql_142, qt_143, ql_143, qt_144, ql_144, qt_145, ql_145, qt_146, ql_146, qt_147, ql_147, qt_148, ql_148, qt_149, ql_149, qt_150, ql_150, qt_151, ql_151, qt_152, ql_152, qt_153, ql_153, qt_154, ql_154, qt_155, ql_155, qt_156, ql_156, qt_157, ql_157, qt_158, ql_158, qt_159, ql_159, qt_160, ql_160, qt_161, ql_161, qt_162, ql_162, qt_163, ql_163, qt_164, ql_164, qt_165, ql_165, qt_166, ql_166, qt_167, ql_167, qt_168, ql_168, qt_169, ql_169, qt_170, ql_170, qt_171, ql_171, qt_172, ql_172, qt_173, ql_173, qt_174, ql_174, qt_175, ql_175, qt_176, ql_176, qt_177, ql_177, qt_178, ql_178, qt_179, ql_179, qt_180, ql_180, qt_181, ql_181, qt_182, ql_182, qt_183, ql_183, qt_184, ql_184, qt_185, ql_185, qt_186, ql_186, qt_187, ql_187, qt_188, ql_188, q_up_eq, q_up_ne, q_up_ne2, q_upf_ne, q_upf_eq, not_false_eq_true, true_implies, false_implies, not_true_eq_false, not_false_eq_true, true_and, and_true, implies_true, or_true, true_or, or_false, false_or, Int.reduceEq, Int.one_ne_zero, Nat.reduceEqDiff, hR, k0, h40, e28]
      have hk2 : CST c C (q_up r 66 5 (r 66 5 + 1)) G pl V S K Ln := CST_of hk (fun a i h => by
        by_cases ha : a = 66
        · subst ha
          exact q_up_ne2 _ _ _ (by unfold CSX at h; omega)
        · exact q_up_ne _ _ _ _ ha)
      refine n34_l (D := D) (v0 := (gC G k).1) (kn := xn) (ch := r 66 5 + 1) hc hk2 hb hbt hT (q_up_eq _ _ _ _) (fun r' q1 q2 => ?_) (by omega) xn 0 _ (by omega) (Nat.zero_le _) ⟨fun _ _ _ => rfl, fun w w0 w1 => ?_⟩
      · have e5 : r' 66 5 = r 66 5 + 1 := by rw [q1 66 5 (by decide)]; exact q_up_eq _ _ _ _
        have := kk r' (fun a i h1 h2 => by
          rw [q1 a i h1]
          by_cases ha : a = 66
          · subst ha
            exact q_up_ne2 _ _ _ (by omega)
          · exact q_up_ne _ _ _ _ ha) (fun w w0 w1 => by rw [e5]; exact q2 w w0 w1) (Or.inr e5)
        rw [hch, Int.toNat_natCast] at this
        by_cases hx : xn ≤ T
        · rw [if_pos hx]; rw [if_pos (by omega)] at this; exact this
        · rw [if_neg hx]; rw [if_neg (by omega)] at this; exact this
      · rw [q_up_ne _ _ _ _ (show ¬ 67 = 66 by decide)]
        have := h67 w w0 w1
        refine ⟨by omega, ⟨fun q => by omega, fun q => absurd q List.not_mem_nil⟩⟩
    rcases hab with rfl | rfl
    · simp only [k34_13, k34_14, k34_29, true_implies, false_implies, not_true_eq_false, not_false_eq_true, true_and, and_true, implies_true, or_true, true_or, or_false, false_or, Int.reduceEq, Int.one_ne_zero, Nat.reduceEqDiff]
      exact main 3 (by rw [if_neg (by decide)])
    · have z : ¬ (1 : Int) = 0 := by decide
      simp only [k34_13, k34_14, k34_17, k34_18, k34_21 hc, k34_24, k34_25, k34_26, NS_lo hc, NS_g hc, NS_f hc, NS_u hc, NS_uf hc, Nat.reduceLT, Nat.reduceLeDiff, Nat.reduceEqDiff, not_false_eq_true, qtc_1 hc, qlc_1 hc, qtc_2 hc, qlc_2 hc, qtc_3 hc, qlc_3 hc, qtc_4 hc, qlc_4 hc, qtc_5 hc, qlc_5 hc, qtc_6 hc, qlc_6 hc, qtc_7 hc, qlc_7 hc, qtc_8 hc, qlc_8 hc, qtc_9 hc, qlc_9 hc, qtc_10 hc, qlc_10 hc, qtc_11 hc, qlc_11 hc, qtc_12 hc, qlc_12 hc, qtc_13 hc, qlc_13 hc, qtc_14 hc, qlc_14 hc, qtc_15 hc, qlc_15 hc, qtc_17 hc, qlc_17 hc, qtc_19 hc, qlc_19 hc, qtc_20 hc, qlc_20 hc, qtc_22 hc, qlc_22 hc, qtc_23 hc, qlc_23 hc, qtc_18 hc, qlc_18 hc, qtc_21 hc, qlc_21 hc, c18_0, c18_1, c21_0, c21_1, true_implies, false_implies, not_true_eq_false, not_false_eq_true, true_and, and_true, implies_true, or_true, true_or, or_false, false_or, Int.reduceEq, Int.one_ne_zero, Nat.reduceEqDiff, z, h663, c_nn, Int.toNat_natCast, k0, h40, e13]
      exact main _ (by rw [if_pos rfl])
end LNK
