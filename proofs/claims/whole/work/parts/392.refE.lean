section RE
variable {sc : Nat × (Nat → Int32)} {D : Nat} {bb : Bool} {S r : St} {Q : QP} {p b ft dp s : Int} {α : Type} {x : PX α} {pl : Int → Int}
/-- out, behind its word -/
def p_out2 (f : Int → Int) (n p : Int) : PX Int := p_b (p_va f n p) fun v p => p_b (p_sg f n 59 p) fun _ p => .inr (v, p)
theorem m_196 (hr : RH r) (hx : RA r x p ft) (hs : 0 ≤ s ∧ s < 40) (hc : 0 ≤ S 136 18 ∧ S 136 18 + 2 ≤ 3000)
    (kk : ∀ S' p' b' ft', RA r (p_b x (fun _ q => p_out2 (r 139) (r 136 6) q)) p' ft' → (∀ v q, p_b x (fun _ q => p_out2 (r 139) (r 136 6) q) = .inr (v, q) → S' = F_lay (F_lay (q_up S 143 s v) 0 s 0) 4 v 0) → CG 2 5 1 S S' → CH s S S' → Q (.inl none) bb (RP S' r p' b' ft' dp)) : qx sc (D + 5) 196 0 [vr 136, vi s, vn, vn, vn] [] (0, 0) bb (RP S r p b ft dp) Q := by
  simp only [k196_0, k196_1]
  refine m_228 hr hx (fun v p1 b1 ft1 h1 e1 u1 u2 => ?_)
  simp only [q_kn_v, k196_4, k196_5, k196_6, k196_8]
  refine m_127 hr h1 (by decide) (by decide) (by decide) (by decide) (fun p2 b2 ft2 h2 => ?_)
  simp only [q_kn_n, k196_1, k196_4, k196_5, k196_6, k196_8, k196_11, k196_12, k196_15, k196_16, k196_17, k196_18, k196_19, k196_20, k196_21, k196_22, k196_25, k196_26, k196_27, k196_28, k196_29, k196_30, k196_33, k196_35, RP_p, RP_b, RP_ft, RP_dp, RP_n, RP_told, RP_src, RP_least, RP_14, RP_15, RP_16, RP_17, RP_18, RP_49, RP_51, RP_c142, RP_u142, RP_c143, RP_u143, RP_c144, RP_u144, RP_c145, RP_u145, RP_c146, RP_u146, RP_c147, RP_u147, RP_c148, RP_u148, RP_c149, RP_u149, RP_c150, RP_u150, RP_c151, RP_u151, RP_c152, RP_u152, RP_c153, RP_u153, RP_c154, RP_u154, RP_c155, RP_u155, RP_c156, RP_u156, RP_c157, RP_u157, RP_c158, RP_u158, RP_c159, RP_u159, RP_c160, RP_u160, RP_c161, RP_u161, RP_c162, RP_u162, RP_c163, RP_u163, RP_c164, RP_u164, RP_c165, RP_u165, RP_c166, RP_u166, RP_c167, RP_u167, RP_c168, RP_u168, RP_c169, RP_u169, RP_c170, RP_u170, RP_c171, RP_u171, RP_c172, RP_u172, RP_upp, RP_upb, RP_upft, RP_updp, RP_uptold, RP_upleast, RP_up14, RP_up15, RP_up16, RP_up17, RP_up18, RP_up49, RP_up51, qt_143, ql_143, true_implies, false_implies, not_true_eq_false, not_false_eq_true, true_and, and_true, implies_true, or_true, true_or, or_false, false_or, Int.reduceEq, Int.one_ne_zero, Nat.reduceEqDiff]
  refine ⟨hs, ?_⟩
  rw [c172 (by simp only [F_lay_ne, F_lay_f, F_lay_18, F_mk_ne, F_mk_f, F_mk_15, q_up_eq, q_up_ne, q_up_ne2, q_upf_ne, q_upf_eq, not_false_eq_true, Nat.reduceEqDiff, Int.reduceEq]; omega) (by simp only [F_lay_ne, F_lay_f, F_lay_18, F_mk_ne, F_mk_f, F_mk_15, q_up_eq, q_up_ne, q_up_ne2, q_upf_ne, q_upf_eq, not_false_eq_true, Nat.reduceEqDiff, Int.reduceEq]; omega)]
  simp only [q_kn_v, k196_1, k196_4, k196_5, k196_6, k196_8, k196_11, k196_12, k196_15, k196_16, k196_17, k196_18, k196_19, k196_20, k196_21, k196_22, k196_25, k196_26, k196_27, k196_28, k196_29, k196_30, k196_33, k196_35]
  rw [c172 (by simp only [F_lay_ne, F_lay_f, F_lay_18, F_mk_ne, F_mk_f, F_mk_15, q_up_eq, q_up_ne, q_up_ne2, q_upf_ne, q_upf_eq, not_false_eq_true, Nat.reduceEqDiff, Int.reduceEq]; omega) (by simp only [F_lay_ne, F_lay_f, F_lay_18, F_mk_ne, F_mk_f, F_mk_15, q_up_eq, q_up_ne, q_up_ne2, q_upf_ne, q_upf_eq, not_false_eq_true, Nat.reduceEqDiff, Int.reduceEq]; omega)]
  simp only [q_kn_v, k196_1, k196_4, k196_5, k196_6, k196_8, k196_11, k196_12, k196_15, k196_16, k196_17, k196_18, k196_19, k196_20, k196_21, k196_22, k196_25, k196_26, k196_27, k196_28, k196_29, k196_30, k196_33, k196_35]
  have hcg : CG 2 5 1 S (F_lay (F_lay (q_up S 143 s v) 0 s 0) 4 v 0) := by
    simp only [CG, F_lay_ne, F_lay_f, F_lay_18, F_mk_ne, F_mk_f, F_mk_15, q_up_eq, q_up_ne, q_up_ne2, q_upf_ne, q_upf_eq, not_false_eq_true, Nat.reduceEqDiff, Int.reduceEq, true_implies, false_implies, not_true_eq_false, not_false_eq_true, true_and, and_true, implies_true, or_true, true_or, or_false, false_or, Int.reduceEq, Int.one_ne_zero, Nat.reduceEqDiff] <;> omega
  have hch : CH s S (F_lay (F_lay (q_up S 143 s v) 0 s 0) 4 v 0) := CH_lay (CH_lay (CH_up CH_refl (by omega)) (by simp only [F_lay_ne, F_lay_f, F_lay_18, F_mk_ne, F_mk_f, F_mk_15, q_up_eq, q_up_ne, q_up_ne2, q_upf_ne, q_upf_eq, not_false_eq_true, Nat.reduceEqDiff, Int.reduceEq]; omega)) (by simp only [F_lay_ne, F_lay_f, F_lay_18, F_mk_ne, F_mk_f, F_mk_15, q_up_eq, q_up_ne, q_up_ne2, q_upf_ne, q_upf_eq, not_false_eq_true, Nat.reduceEqDiff, Int.reduceEq]; omega)
  have hy : p_b x (fun _ q => p_out2 (r 139) (r 136 6) q) = p_b (p_b x (fun _ q => p_va (r 139) (r 136 6) q)) (fun v p => p_b (p_sg (r 139) (r 136 6) 59 p) fun _ p => .inr (v, p)) := by
    rw [p_b_b]; rfl
  rw [hy] at kk
  generalize p_b x (fun _ q => p_va (r 139) (r 136 6) q) = y at *
  rcases y with y | ⟨y, z⟩
  · exact kk _ _ _ _ h2 (fun v q e => by cases e) hcg hch
  · have := e1 y z rfl
    subst this
    simp only [p_b_inr] at kk h2
    generalize p_sg (r 139) (r 136 6) 59 z = y2 at *
    rcases y2 with y2 | ⟨y2, z2⟩
    · exact kk _ _ _ _ h2 (fun v q e => by cases e) hcg hch
    · exact kk _ _ _ _ h2 (fun v q e => by cases e; rfl) hcg hch
/-- a row's statement -/
def p_sto2 (f : Int → Int) (n : Int) (pl : Int → Int) (p : Int) : PX ((Int × Int) × Int) := p_b (p_el f n pl p) fun e p => p_b (p_sg f n 61 p) fun _ p => p_b (p_va f n p) fun v p => p_b (p_sg f n 59 p) fun _ p => .inr ((e, v), p)
theorem F_chk_15 {k r' v : Int} : F_chk S s r' v 136 15 = S 136 15 + 1 ∧ F_chk S s r' v 136 18 = S 136 18 + 2 ∧ F_chk S s r' v 136 16 = S 136 16 + 1 ∧ F_chk S s r' v 136 14 = S 136 14 ∧ F_chk S s r' v 136 17 = S 136 17 ∧ F_chk S s r' v 136 51 = S 136 51 ∧ F_chk S s r' v 136 49 = S 136 49 ∧ F_chk S s r' v 157 (S 136 16) = S 171 v := by
  simp only [F_chk, F_lay_ne, F_lay_f, F_lay_18, F_mk_ne, F_mk_f, F_mk_15, q_up_eq, q_up_ne, q_up_ne2, q_upf_ne, q_upf_eq, not_false_eq_true, Nat.reduceEqDiff, Int.reduceEq, true_implies, false_implies, not_true_eq_false, not_false_eq_true, true_and, and_true, implies_true, or_true, true_or, or_false, false_or, Int.reduceEq, Int.one_ne_zero, Nat.reduceEqDiff]
  omega
theorem m_218 (hr : RH r) (hpl : PL r pl) (hx : RA r x p ft) (hs : 0 ≤ s ∧ s < 40) (hk : 0 ≤ S 136 16 ∧ S 136 16 < 40) (hv : 0 ≤ S 136 15 ∧ S 136 15 + 2 < 700) (hc : 0 ≤ S 136 18 ∧ S 136 18 + 4 ≤ 3000) (hn : ∀ i, 0 ≤ i → i ≤ 7 → 0 ≤ S 171 i ∧ S 171 i < 700)
    (kk : ∀ S' p' b' ft', RA r (p_b x (fun _ q => p_sto2 (r 139) (r 136 6) pl q)) p' ft' → (∀ e q, p_b x (fun _ q => p_sto2 (r 139) (r 136 6) pl q) = .inr (e, q) → S' = F_lay (q_up (F_chk (F_lay S 0 s 0) s e.1.1 e.1.2) 143 s (F_chk (F_lay S 0 s 0) s e.1.1 e.1.2 147 (F_chk (F_lay S 0 s 0) s e.1.1 e.1.2 157 (S 136 16)))) 3 (S 136 16) e.2) → CG 2 5 1 S S' → CH s S S' → Q (.inl none) bb (RP S' r p' b' ft' dp)) : qx sc (D + 6) 218 0 [vr 136, vi s, vn, vn, vn, vn] [] (0, 0) bb (RP S r p b ft dp) Q := by
  simp only [k218_0, k218_1, k218_2, k218_3, k218_4]
  rw [c172 hc.1 (by omega)]
  simp only [q_kn_v, k218_7, k218_8, k218_9, k218_10]
  refine m_200 hr hpl hx hs (by simp only [F_lay_ne, F_lay_f, F_lay_18, F_mk_ne, F_mk_f, F_mk_15, q_up_eq, q_up_ne, q_up_ne2, q_upf_ne, q_upf_eq, not_false_eq_true, Nat.reduceEqDiff, Int.reduceEq]; omega) (by simp only [F_lay_ne, F_lay_f, F_lay_18, F_mk_ne, F_mk_f, F_mk_15, q_up_eq, q_up_ne, q_up_ne2, q_upf_ne, q_upf_eq, not_false_eq_true, Nat.reduceEqDiff, Int.reduceEq]; omega) (by simp only [F_lay_ne, F_lay_f, F_lay_18, F_mk_ne, F_mk_f, F_mk_15, q_up_eq, q_up_ne, q_up_ne2, q_upf_ne, q_upf_eq, not_false_eq_true, Nat.reduceEqDiff, Int.reduceEq]; omega) (fun S1 k p1 b1 ft1 h1 e1 e2 => ?_)
  have hCG1 : CG 1 3 1 S S1 ∧ CH s S S1 := by
    generalize p_b x (fun _ q => p_el (r 139) (r 136 6) pl q) = y at *
    rcases y with y | ⟨y, z⟩
    · obtain ⟨rfl, -⟩ := e2 y rfl
      refine ⟨?_, CH_lay CH_refl (Int.le_refl _)⟩
      simp only [CG, F_lay_ne, F_lay_f, F_lay_18, F_mk_ne, F_mk_f, F_mk_15, q_up_eq, q_up_ne, q_up_ne2, q_upf_ne, q_upf_eq, not_false_eq_true, Nat.reduceEqDiff, Int.reduceEq, true_implies, false_implies, not_true_eq_false, not_false_eq_true, true_and, and_true, implies_true, or_true, true_or, or_false, false_or, Int.reduceEq, Int.one_ne_zero, Nat.reduceEqDiff] <;> omega
    · obtain ⟨rfl, -⟩ := e1 y z rfl
      have := F_chk_15 (k := 0) (S := F_lay S 0 s 0) (s := s) (r' := y.1) (v := y.2)
      simp only [F_lay_ne, F_lay_f, F_lay_18, F_mk_ne, F_mk_f, F_mk_15, q_up_eq, q_up_ne, q_up_ne2, q_upf_ne, q_upf_eq, not_false_eq_true, Nat.reduceEqDiff, Int.reduceEq] at this
      refine ⟨?_, CH_chk (CH_lay CH_refl (Int.le_refl _)) (by simp only [F_lay_ne, F_lay_f, F_lay_18, F_mk_ne, F_mk_f, F_mk_15, q_up_eq, q_up_ne, q_up_ne2, q_upf_ne, q_upf_eq, not_false_eq_true, Nat.reduceEqDiff, Int.reduceEq]; omega) (by simp only [F_lay_ne, F_lay_f, F_lay_18, F_mk_ne, F_mk_f, F_mk_15, q_up_eq, q_up_ne, q_up_ne2, q_upf_ne, q_upf_eq, not_false_eq_true, Nat.reduceEqDiff, Int.reduceEq]; omega) (by simp only [F_lay_ne, F_lay_f, F_lay_18, F_mk_ne, F_mk_f, F_mk_15, q_up_eq, q_up_ne, q_up_ne2, q_upf_ne, q_upf_eq, not_false_eq_true, Nat.reduceEqDiff, Int.reduceEq]; omega)⟩
      simp only [CG]
      omega
  obtain ⟨hCG1, hch⟩ := hCG1
  simp only [q_kn_v, k218_13, k218_14, k218_15, k218_17]
  refine m_127 hr h1 (by decide) (by decide) (by decide) (by decide) (fun p2 b2 ft2 h2 => ?_)
  simp only [q_kn_n, k218_20, k218_21]
  refine m_228 hr h2 (fun v p3 b3 ft3 h3 e3 u3 u4 => ?_)
  simp only [q_kn_v, k218_24, k218_26, k218_27, k218_29]
  refine m_127 hr h3 (by decide) (by decide) (by decide) (by decide) (fun p4 b4 ft4 h4 => ?_)
  simp only [q_kn_n, k218_32, k218_33]
  have hy : p_b x (fun _ q => p_sto2 (r 139) (r 136 6) pl q) = p_b (p_b x (fun _ q => p_el (r 139) (r 136 6) pl q)) (fun e p => p_b (p_sg (r 139) (r 136 6) 61 p) fun _ p => p_b (p_va (r 139) (r 136 6) p) fun v p => p_b (p_sg (r 139) (r 136 6) 59 p) fun _ p => .inr ((e, v), p)) := by
    rw [p_b_b]; rfl
  rw [hy] at kk
  generalize p_b x (fun _ q => p_el (r 139) (r 136 6) pl q) = y at *
  have hcg : CG 2 5 1 S S1 := by unfold CG at hCG1 ⊢; omega
  refine m_154 h4 (fun q eq1 eq2 => ?_) (fun a q eq1 eq2 => ?_)
  · simp only [q_kn_v, k218_36, k218_39, true_implies, false_implies, not_true_eq_false, not_false_eq_true, true_and, and_true, implies_true, or_true, true_or, or_false, false_or, Int.reduceEq, Int.one_ne_zero, Nat.reduceEqDiff]
    rcases y with y | ⟨y, z⟩
    · exact kk _ _ _ _ h4 (fun e q e' => by cases e') hcg hch
    · simp only [p_b_inr] at kk h4 eq1
      generalize p_sg (r 139) (r 136 6) 61 z = y2 at *
      rcases y2 with y2 | ⟨y2, z2⟩
      · exact kk _ _ _ _ h4 (fun e q e' => by cases e') hcg hch
      · simp only [p_b_inr] at kk h4 eq1
        generalize p_va (r 139) (r 136 6) z2 = y3 at *
        rcases y3 with y3 | ⟨y3, z3⟩
        · exact kk _ _ _ _ h4 (fun e q e' => by cases e') hcg hch
        · simp only [p_b_inr] at kk h4 eq1
          generalize p_sg (r 139) (r 136 6) 59 z3 = y4 at *
          rcases y4 with y4 | ⟨y4, z4⟩
          · exact kk _ _ _ _ h4 (fun e q e' => by cases e') hcg hch
          · cases eq1
  · rcases y with y | ⟨y, z⟩
    · cases eq1
    · simp only [p_b_inr] at kk h4 eq1 e3
      generalize p_sg (r 139) (r 136 6) 61 z = y2 at *
      rcases y2 with y2 | ⟨y2, z2⟩
      · cases eq1
      · simp only [p_b_inr] at kk h4 eq1 e3
        generalize p_va (r 139) (r 136 6) z2 = y3 at *
        rcases y3 with y3 | ⟨y3, z3⟩
        · cases eq1
        · simp only [p_b_inr] at kk h4 eq1 e3
          have := e3 y3 z3 rfl
          subst this
          generalize p_sg (r 139) (r 136 6) 59 z3 = y4 at *
          rcases y4 with y4 | ⟨y4, z4⟩
          · cases eq1
          · obtain ⟨rfl, rfl, w1, w2⟩ := e1 y z rfl
            have hF := F_chk_15 (k := 0) (S := F_lay S 0 s 0) (s := s) (r' := y.1) (v := y.2)
            simp only [F_lay_ne, F_lay_f, F_lay_18, F_mk_ne, F_mk_f, F_mk_15, q_up_eq, q_up_ne, q_up_ne2, q_upf_ne, q_upf_eq, not_false_eq_true, Nat.reduceEqDiff, Int.reduceEq] at hF
            have hny := hn y.2 w1 w2
            simp only [q_kn_v, k218_1, k218_2, k218_3, k218_4, k218_7, k218_8, k218_9, k218_10, k218_13, k218_14, k218_15, k218_17, k218_20, k218_21, k218_24, k218_26, k218_27, k218_29, k218_32, k218_33, k218_36, k218_39, k218_40, k218_41, k218_44, k218_45, k218_46, k218_49, k218_50, k218_53, k218_54, k218_55, k218_56, k218_57, k218_58, k218_59, k218_60, k218_62, k218_65, k218_67, RP_p, RP_b, RP_ft, RP_dp, RP_n, RP_told, RP_src, RP_least, RP_14, RP_15, RP_16, RP_17, RP_18, RP_49, RP_51, RP_c142, RP_u142, RP_c143, RP_u143, RP_c144, RP_u144, RP_c145, RP_u145, RP_c146, RP_u146, RP_c147, RP_u147, RP_c148, RP_u148, RP_c149, RP_u149, RP_c150, RP_u150, RP_c151, RP_u151, RP_c152, RP_u152, RP_c153, RP_u153, RP_c154, RP_u154, RP_c155, RP_u155, RP_c156, RP_u156, RP_c157, RP_u157, RP_c158, RP_u158, RP_c159, RP_u159, RP_c160, RP_u160, RP_c161, RP_u161, RP_c162, RP_u162, RP_c163, RP_u163, RP_c164, RP_u164, RP_c165, RP_u165, RP_c166, RP_u166, RP_c167, RP_u167, RP_c168, RP_u168, RP_c169, RP_u169, RP_c170, RP_u170, RP_c171, RP_u171, RP_c172, RP_u172, RP_upp, RP_upb, RP_upft, RP_updp, RP_uptold, RP_upleast, RP_up14, RP_up15, RP_up16, RP_up17, RP_up18, RP_up49, RP_up51, F_lay_ne, F_lay_f, F_lay_18, F_mk_ne, F_mk_f, F_mk_15, q_up_eq, q_up_ne, q_up_ne2, q_upf_ne, q_upf_eq, not_false_eq_true, Nat.reduceEqDiff, Int.reduceEq, qt_143, ql_143, qt_147, ql_147, qt_157, ql_157, true_implies, false_implies, not_true_eq_false, not_false_eq_true, true_and, and_true, implies_true, or_true, true_or, or_false, false_or, Int.reduceEq, Int.one_ne_zero, Nat.reduceEqDiff]
            refine ⟨by omega, by rw [hF.2.2.2.2.2.2.2]; omega, hs, ?_⟩
            rw [c172 (by simp only [F_lay_ne, F_lay_f, F_lay_18, F_mk_ne, F_mk_f, F_mk_15, q_up_eq, q_up_ne, q_up_ne2, q_upf_ne, q_upf_eq, not_false_eq_true, Nat.reduceEqDiff, Int.reduceEq]; omega) (by simp only [F_lay_ne, F_lay_f, F_lay_18, F_mk_ne, F_mk_f, F_mk_15, q_up_eq, q_up_ne, q_up_ne2, q_upf_ne, q_upf_eq, not_false_eq_true, Nat.reduceEqDiff, Int.reduceEq]; omega)]
            simp only [q_kn_v, k218_1, k218_2, k218_3, k218_4, k218_7, k218_8, k218_9, k218_10, k218_13, k218_14, k218_15, k218_17, k218_20, k218_21, k218_24, k218_26, k218_27, k218_29, k218_32, k218_33, k218_36, k218_39, k218_40, k218_41, k218_44, k218_45, k218_46, k218_49, k218_50, k218_53, k218_54, k218_55, k218_56, k218_57, k218_58, k218_59, k218_60, k218_62, k218_65, k218_67, F_lay_ne, F_lay_f, F_lay_18, F_mk_ne, F_mk_f, F_mk_15, q_up_eq, q_up_ne, q_up_ne2, q_upf_ne, q_upf_eq, not_false_eq_true, Nat.reduceEqDiff, Int.reduceEq]
            refine kk _ _ _ _ h4 (fun e q e' => ?_) ?_ ?_
            · cases e'
              rfl
            · simp only [CG, F_lay_ne, F_lay_f, F_lay_18, F_mk_ne, F_mk_f, F_mk_15, q_up_eq, q_up_ne, q_up_ne2, q_upf_ne, q_upf_eq, not_false_eq_true, Nat.reduceEqDiff, Int.reduceEq, true_implies, false_implies, not_true_eq_false, not_false_eq_true, true_and, and_true, implies_true, or_true, true_or, or_false, false_or, Int.reduceEq, Int.one_ne_zero, Nat.reduceEqDiff] <;> omega
            · refine CH_lay (CH_up hch (by omega)) ?_
              simp only [F_lay_ne, F_lay_f, F_lay_18, F_mk_ne, F_mk_f, F_mk_15, q_up_eq, q_up_ne, q_up_ne2, q_upf_ne, q_upf_eq, not_false_eq_true, Nat.reduceEqDiff, Int.reduceEq]
              omega
/-- the end of an assignment -/
theorem m_128t {β : Type} {y : PX β} {v of sort n : Int} {l3 : V2} (hr : RH r) (hy : RA r y p ft) (hs : 0 ≤ s ∧ s < 40) (hv : 0 ≤ S 136 15 ∧ S 136 15 < 700) (hc : 0 ≤ S 136 18 ∧ S 136 18 < 3000) (hw : 0 ≤ v ∧ v ≤ 7) (hof : sort = 1 → 0 ≤ of ∧ of ≤ 7)
    (kk : ∀ S' p' b' ft', RA r (p_b y (fun _ q => p_sg (r 139) (r 136 6) 59 q)) p' ft' → (∀ u q, p_b y (fun _ q => p_sg (r 139) (r 136 6) 59 q) = .inr (u, q) → S' = F_lay (q_up (q_up (q_up (F_mk S v 1 s (if sort = 1 then S 171 of else -1) (-1)) 152 (S 136 15) sort) 153 (S 136 15) of) 154 (S 136 15) n) 2 (S 136 15) 0) → CG 1 1 0 S S' → CH s S S' → Q (.inl none) bb (RP S' r p' b' ft' dp)) : qx sc (D + 6) 128 194 [vr 136, vi s, vi v, l3, vi sort, vi of, vi n, vn, vn, vn] [] (0, 0) bb (RP S r p b ft dp) Q := by
  simp only [k128_194, k128_195, k128_197]
  refine m_127 hr hy (by decide) (by decide) (by decide) (by decide) (fun p1 b1 ft1 h1 => ?_)
  simp only [q_kn_n, k128_200, k128_201]
  refine m_154 h1 (fun q eq1 eq2 => ?_) (fun a q eq1 eq2 => ?_)
  · simp only [q_kn_v, k128_204, k128_207, true_implies, false_implies, not_true_eq_false, not_false_eq_true, true_and, and_true, implies_true, or_true, true_or, or_false, false_or, Int.reduceEq, Int.one_ne_zero, Nat.reduceEqDiff]
    exact kk _ _ _ _ h1 (fun u q e => by rw [eq1] at e; cases e) (by simp only [CG, true_implies, false_implies, not_true_eq_false, not_false_eq_true, true_and, and_true, implies_true, or_true, true_or, or_false, false_or, Int.reduceEq, Int.one_ne_zero, Nat.reduceEqDiff] <;> omega) CH_refl
  · have key : ∀ fr, (fr = if sort = 1 then S 171 of else -1) → qx sc (D + 6) 128 227 [vr 136, vi s, vi v, l3, vi sort, vi of, vi n, vi fr, vn, vn] [] (0, 0) bb (RP S r p1 b1 ft1 dp) Q := by
      intro fr hfr
      simp only [k128_227, k128_228, k128_229, k128_230, k128_231, k128_233, k128_234]
      rw [c180 hv.1 hv.2 hw.1 (by omega)]
      simp only [q_kn_v, k128_237, k128_239, k128_240, k128_243, k128_245, k128_247, k128_248, k128_249, k128_252, k128_254, k128_256, k128_257, k128_258, k128_261, k128_263, k128_265, k128_266, k128_267, k128_268, k128_270, k128_271, RP_p, RP_b, RP_ft, RP_dp, RP_n, RP_told, RP_src, RP_least, RP_14, RP_15, RP_16, RP_17, RP_18, RP_49, RP_51, RP_c142, RP_u142, RP_c143, RP_u143, RP_c144, RP_u144, RP_c145, RP_u145, RP_c146, RP_u146, RP_c147, RP_u147, RP_c148, RP_u148, RP_c149, RP_u149, RP_c150, RP_u150, RP_c151, RP_u151, RP_c152, RP_u152, RP_c153, RP_u153, RP_c154, RP_u154, RP_c155, RP_u155, RP_c156, RP_u156, RP_c157, RP_u157, RP_c158, RP_u158, RP_c159, RP_u159, RP_c160, RP_u160, RP_c161, RP_u161, RP_c162, RP_u162, RP_c163, RP_u163, RP_c164, RP_u164, RP_c165, RP_u165, RP_c166, RP_u166, RP_c167, RP_u167, RP_c168, RP_u168, RP_c169, RP_u169, RP_c170, RP_u170, RP_c171, RP_u171, RP_c172, RP_u172, RP_upp, RP_upb, RP_upft, RP_updp, RP_uptold, RP_upleast, RP_up14, RP_up15, RP_up16, RP_up17, RP_up18, RP_up49, RP_up51, qt_152, ql_152, qt_153, ql_153, qt_154, ql_154, true_implies, false_implies, not_true_eq_false, not_false_eq_true, true_and, and_true, implies_true, or_true, true_or, or_false, false_or, Int.reduceEq, Int.one_ne_zero, Nat.reduceEqDiff]
      refine ⟨hv, hv, hv, ?_⟩
      rw [c172 (by simp only [F_lay_ne, F_lay_f, F_lay_18, F_mk_ne, F_mk_f, F_mk_15, q_up_eq, q_up_ne, q_up_ne2, q_upf_ne, q_upf_eq, not_false_eq_true, Nat.reduceEqDiff, Int.reduceEq]; omega) (by simp only [F_lay_ne, F_lay_f, F_lay_18, F_mk_ne, F_mk_f, F_mk_15, q_up_eq, q_up_ne, q_up_ne2, q_upf_ne, q_upf_eq, not_false_eq_true, Nat.reduceEqDiff, Int.reduceEq]; omega)]
      simp only [q_kn_v, k128_274, k128_276, F_lay_ne, F_lay_f, F_lay_18, F_mk_ne, F_mk_f, F_mk_15, q_up_eq, q_up_ne, q_up_ne2, q_upf_ne, q_upf_eq, not_false_eq_true, Nat.reduceEqDiff, Int.reduceEq]
      refine kk _ _ _ _ h1 (fun u q e => ?_) ?_ ?_
      · rw [← hfr]
      · simp only [CG, F_lay_ne, F_lay_f, F_lay_18, F_mk_ne, F_mk_f, F_mk_15, q_up_eq, q_up_ne, q_up_ne2, q_upf_ne, q_upf_eq, not_false_eq_true, Nat.reduceEqDiff, Int.reduceEq, true_implies, false_implies, not_true_eq_false, not_false_eq_true, true_and, and_true, implies_true, or_true, true_or, or_false, false_or, Int.reduceEq, Int.one_ne_zero, Nat.reduceEqDiff] <;> omega
      · refine CH_lay (CH_up (CH_up (CH_up (CH_mk CH_refl (Int.le_refl _)) (by omega)) (by omega)) (by omega)) ?_
        simp only [F_lay_ne, F_lay_f, F_lay_18, F_mk_ne, F_mk_f, F_mk_15, q_up_eq, q_up_ne, q_up_ne2, q_upf_ne, q_upf_eq, not_false_eq_true, Nat.reduceEqDiff, Int.reduceEq]
        omega
    simp only [q_kn_v, k128_204, k128_208, k128_210, k128_211, k128_214, k128_215, k128_218, k128_220, k128_221, k128_224, k128_225, RP_p, RP_b, RP_ft, RP_dp, RP_n, RP_told, RP_src, RP_least, RP_14, RP_15, RP_16, RP_17, RP_18, RP_49, RP_51, RP_c142, RP_u142, RP_c143, RP_u143, RP_c144, RP_u144, RP_c145, RP_u145, RP_c146, RP_u146, RP_c147, RP_u147, RP_c148, RP_u148, RP_c149, RP_u149, RP_c150, RP_u150, RP_c151, RP_u151, RP_c152, RP_u152, RP_c153, RP_u153, RP_c154, RP_u154, RP_c155, RP_u155, RP_c156, RP_u156, RP_c157, RP_u157, RP_c158, RP_u158, RP_c159, RP_u159, RP_c160, RP_u160, RP_c161, RP_u161, RP_c162, RP_u162, RP_c163, RP_u163, RP_c164, RP_u164, RP_c165, RP_u165, RP_c166, RP_u166, RP_c167, RP_u167, RP_c168, RP_u168, RP_c169, RP_u169, RP_c170, RP_u170, RP_c171, RP_u171, RP_c172, RP_u172, RP_upp, RP_upb, RP_upft, RP_updp, RP_uptold, RP_upleast, RP_up14, RP_up15, RP_up16, RP_up17, RP_up18, RP_up49, RP_up51, qt_171, ql_171, true_implies, false_implies, not_true_eq_false, not_false_eq_true, true_and, and_true, implies_true, or_true, true_or, or_false, false_or, Int.reduceEq, Int.one_ne_zero, Nat.reduceEqDiff]
    refine ⟨fun h => ⟨by have := hof h; omega, key _ (by rw [if_pos h])⟩, fun h => key _ (by rw [if_neg h])⟩
end RE
