section CRG
variable {sc : Nat × (Nat → Int32)} {D N : Nat} {bb : Bool} {Q : QP} {c : Nat} {C C' r : St} {k ar n M s : Int} {f P pl : Int → Int}
theorem SOK_b {x : SB} (h1 : SRok C' (C 0 0) (x.1, (if x.2.1 = 1 then C 0 1 else -1, -1, ar, C 0 0 + 1, C 0 0 + 1), (0, (0, 0), (0, 0)))) (h2 : C' 0 0 = C 0 0 + 1) (h3 : C' 0 2 = C 0 2) (h4 : (¬ x.2.1 = 1 ∧ C' 0 1 = C 0 1) ∨ (x.2.1 = 1 ∧ C' 0 1 = C 0 1 + 1 ∧ KRok C' (C 0 1) (C 0 0, x.2.2.1, x.2.2.2))) (h5 : IVC C C') : SOK C C' (s_b x ar (C 0 0) (C 0 1) (C 0 2)) := by
  unfold SOK s_b
  dsimp only
  refine ⟨⟨h1, trivial⟩, ?_, trivial, by rw [h2]; rfl, ?_, by rw [h3]; simp, h5⟩
  · rcases h4 with ⟨a1, a2⟩ | ⟨a1, a2, a3⟩
    · rw [if_neg a1]; trivial
    · rw [if_pos a1]; exact ⟨a3, trivial⟩
  · rcases h4 with ⟨a1, a2⟩ | ⟨a1, a2, a3⟩
    · rw [if_neg a1, a2]; simp
    · rw [if_pos a1, a2]; rfl
theorem n_46 (hc : q_C c) (hT : TKS r f n P M) (hf : t_by f n) (h0 : 0 ≤ k) (hk : k ≤ M) (ht : ¬ tk f n (P k) = -1) (hs : 0 ≤ C 0 0 ∧ C 0 0 < 40)
    (kk : ∀ C' k' res, CX P M (p_out f n (P k)) k' res → (∀ x q, p_out f n (P k) = .inr (x, q) → SOK C C' (s_b x ar (C 0 0) (C 0 1) (C 0 2)) ∧ (x.2.1 = 0 ∨ x.2.1 = 1)) → Q (.inl (some (vi res))) bb (CS c C' r k' ar)) : qx sc (D + 1) 46 0 [vr 4, vn] [] (0, 0) bb (CS c C r k ar) Q := by
  obtain ⟨k1, e1, -⟩ := TKS_lt hT h0 hk ht
  have hM := hT.2.1
  unfold p_out at kk
  rw [← e1] at kk
  simp only [k46_0, k46_1, k46_4, k46_5, k46_6, k46_9 hc, CS_at, CS_ar, CS_co, CS_6 hc, CS_7 hc, CS_8 hc, CSf hc, CSuf hc, CS_upat, CS_upar, c_nn, Int.toNat_natCast, c18_0, c18_1, c21_0, c21_1, qt_6, ql_6, qt_7, ql_7, qt_8, ql_8, qtc_18 hc, qlc_18 hc, qtc_21 hc, qlc_21 hc, CSg1 hc, CSu1 hc, qtc_1 hc, qlc_1 hc, CSg2 hc, CSu2 hc, qtc_2 hc, qlc_2 hc, CSg3 hc, CSu3 hc, qtc_3 hc, qlc_3 hc, CSg4 hc, CSu4 hc, qtc_4 hc, qlc_4 hc, CSg5 hc, CSu5 hc, qtc_5 hc, qlc_5 hc, CSg6 hc, CSu6 hc, qtc_6 hc, qlc_6 hc, CSg7 hc, CSu7 hc, qtc_7 hc, qlc_7 hc, CSg8 hc, CSu8 hc, qtc_8 hc, qlc_8 hc, CSg9 hc, CSu9 hc, qtc_9 hc, qlc_9 hc, CSg10 hc, CSu10 hc, qtc_10 hc, qlc_10 hc, CSg11 hc, CSu11 hc, qtc_11 hc, qlc_11 hc, CSg12 hc, CSu12 hc, qtc_12 hc, qlc_12 hc, CSg13 hc, CSu13 hc, qtc_13 hc, qlc_13 hc, CSg14 hc, CSu14 hc, qtc_14 hc, qlc_14 hc, CSg15 hc, CSu15 hc, qtc_15 hc, qlc_15 hc, CSg17 hc, CSu17 hc, qtc_17 hc, qlc_17 hc, CSg19 hc, CSu19 hc, qtc_19 hc, qlc_19 hc, CSg20 hc, CSu20 hc, qtc_20 hc, qlc_20 hc, CSg22 hc, CSu22 hc, qtc_22 hc, qlc_22 hc, CSg23 hc, CSu23 hc, qtc_23 hc, qlc_23 hc, c12 hc hs, q_kn_v, k46_12, k46_13, k46_14, k46_15, k46_18, k46_19, k46_20, k46_23, k46_24, k46_27 hc, k46_30, k46_31, k46_32, true_implies, false_implies, not_true_eq_false, not_false_eq_true, true_and, and_true, implies_true, or_true, true_or, or_false, false_or, Int.reduceEq, Int.one_ne_zero, Nat.reduceEqDiff]
  refine ⟨by omega, ?_⟩
  refine n_57 hc hT hf (by omega) k1 (fun t2 k2 e2 => ?_) (fun t2 => ?_)
  · have x2 : p_va f n (P (k + 1)) = .inr (tk f n (P (k + 1)) - 97, P (k + 1 + 1)) := by unfold p_va; rw [if_pos t2, e2]
    have z : ¬ tk f n (P (k + 1)) - 97 = -1 := by omega
    rw [x2] at kk
    simp only [p_b_inr] at kk
    simp only [q_kn_v, k46_35, k46_36, k46_37, k46_40 hc, k46_43, k46_44, k46_45, k46_46, k46_49, k46_50, k46_52, CS_at, CS_ar, CS_co, CS_6 hc, CS_7 hc, CS_8 hc, CSf hc, CSuf hc, CS_upat, CS_upar, c_nn, Int.toNat_natCast, c18_0, c18_1, c21_0, c21_1, qt_6, ql_6, qt_7, ql_7, qt_8, ql_8, qtc_18 hc, qlc_18 hc, qtc_21 hc, qlc_21 hc, CSg1 hc, CSu1 hc, qtc_1 hc, qlc_1 hc, CSg2 hc, CSu2 hc, qtc_2 hc, qlc_2 hc, CSg3 hc, CSu3 hc, qtc_3 hc, qlc_3 hc, CSg4 hc, CSu4 hc, qtc_4 hc, qlc_4 hc, CSg5 hc, CSu5 hc, qtc_5 hc, qlc_5 hc, CSg6 hc, CSu6 hc, qtc_6 hc, qlc_6 hc, CSg7 hc, CSu7 hc, qtc_7 hc, qlc_7 hc, CSg8 hc, CSu8 hc, qtc_8 hc, qlc_8 hc, CSg9 hc, CSu9 hc, qtc_9 hc, qlc_9 hc, CSg10 hc, CSu10 hc, qtc_10 hc, qlc_10 hc, CSg11 hc, CSu11 hc, qtc_11 hc, qlc_11 hc, CSg12 hc, CSu12 hc, qtc_12 hc, qlc_12 hc, CSg13 hc, CSu13 hc, qtc_13 hc, qlc_13 hc, CSg14 hc, CSu14 hc, qtc_14 hc, qlc_14 hc, CSg15 hc, CSu15 hc, qtc_15 hc, qlc_15 hc, CSg17 hc, CSu17 hc, qtc_17 hc, qlc_17 hc, CSg19 hc, CSu19 hc, qtc_19 hc, qlc_19 hc, CSg20 hc, CSu20 hc, qtc_20 hc, qlc_20 hc, CSg22 hc, CSu22 hc, qtc_22 hc, qlc_22 hc, CSg23 hc, CSu23 hc, qtc_23 hc, qlc_23 hc, q_up_eq, q_up_ne, q_up_ne2, q_upf_ne, q_upf_eq, not_false_eq_true, z, true_implies, false_implies, not_true_eq_false, not_false_eq_true, true_and, and_true, implies_true, or_true, true_or, or_false, false_or, Int.reduceEq, Int.one_ne_zero, Nat.reduceEqDiff]
    refine ⟨hs, hs, ?_⟩
    refine n_51 hc hT (by omega) k2 (by decide) (fun t3 k3 e3 => ?_) (fun t3 => ?_)
    · have x3 : p_sg f n 59 (P (k + 1 + 1)) = .inr ((), P (k + 1 + 1 + 1)) := by unfold p_sg; rw [if_pos t3, e3]
      rw [x3] at kk
      simp only [p_b_inr] at kk
      simp only [q_kn_v, k46_55, k46_58, k46_59, k46_62, k46_63, true_implies, false_implies, not_true_eq_false, not_false_eq_true, true_and, and_true, implies_true, or_true, true_or, or_false, false_or, Int.reduceEq, Int.one_ne_zero, Nat.reduceEqDiff]
      refine kk _ _ _ ⟨by omega, k3, rfl, rfl⟩ (fun x q h => ?_)
      cases h
      refine ⟨SOK_b ?_ ?_ ?_ (Or.inl ⟨show ¬ (0 : Int) = 1 by decide, ?_⟩) ?_, Or.inl rfl⟩
      · unfold SRok
        simp only [q_up_app, K_beg_0, K_beg_ne, K_beg_2, K_beg_3, K_beg_4, K_beg_5, K_beg_6, K_beg_7, K_beg_8, K_beg_9, K_beg_10, K_beg_11, Nat.reduceEqDiff, false_and, true_and, and_true, if_true, if_false, Int.reduceLE, Int.reduceEq, false_implies]
      · simp only [q_up_eq, q_up_ne, q_up_ne2, q_upf_ne, q_upf_eq, not_false_eq_true, K_beg_0, K_beg_ne, K_beg_2, K_beg_3, K_beg_4, K_beg_5, K_beg_6, K_beg_7, K_beg_8, K_beg_9, K_beg_10, K_beg_11, Nat.reduceEqDiff, if_true]
      · simp only [q_up_eq, q_up_ne, q_up_ne2, q_upf_ne, q_upf_eq, not_false_eq_true, K_beg_0, K_beg_ne, K_beg_2, K_beg_3, K_beg_4, K_beg_5, K_beg_6, K_beg_7, K_beg_8, K_beg_9, K_beg_10, K_beg_11, Nat.reduceEqDiff, Int.reduceEq, if_false]
      · simp only [q_up_eq, q_up_ne, q_up_ne2, q_upf_ne, q_upf_eq, not_false_eq_true, K_beg_0, K_beg_ne, K_beg_2, K_beg_3, K_beg_4, K_beg_5, K_beg_6, K_beg_7, K_beg_8, K_beg_9, K_beg_10, K_beg_11, Nat.reduceEqDiff, Int.reduceEq, if_false]
      · exact IVC_up IVC_beg (by decide) (by unfold BEL; omega)
    · have x3 : p_sg f n 59 (P (k + 1 + 1)) = .inl (P (k + 1 + 1)) := by unfold p_sg; rw [if_neg t3]
      rw [x3] at kk
      simp only [q_kn_v, k46_55, k46_62, k46_63, true_implies, false_implies, not_true_eq_false, not_false_eq_true, true_and, and_true, implies_true, or_true, true_or, or_false, false_or, Int.reduceEq, Int.one_ne_zero, Nat.reduceEqDiff]
      exact kk _ _ _ ⟨by omega, k2, rfl, rfl⟩ (fun x q h => by cases h)
  · have x2 : p_va f n (P (k + 1)) = .inl (P (k + 1)) := by unfold p_va; rw [if_neg t2]
    rw [x2] at kk
    simp only [q_kn_v, k46_35, k46_36, k46_37, k46_40 hc, k46_43, k46_44, k46_45, k46_46, k46_62, k46_63, CS_at, CS_ar, CS_co, CS_6 hc, CS_7 hc, CS_8 hc, CSf hc, CSuf hc, CS_upat, CS_upar, c_nn, Int.toNat_natCast, c18_0, c18_1, c21_0, c21_1, qt_6, ql_6, qt_7, ql_7, qt_8, ql_8, qtc_18 hc, qlc_18 hc, qtc_21 hc, qlc_21 hc, CSg1 hc, CSu1 hc, qtc_1 hc, qlc_1 hc, CSg2 hc, CSu2 hc, qtc_2 hc, qlc_2 hc, CSg3 hc, CSu3 hc, qtc_3 hc, qlc_3 hc, CSg4 hc, CSu4 hc, qtc_4 hc, qlc_4 hc, CSg5 hc, CSu5 hc, qtc_5 hc, qlc_5 hc, CSg6 hc, CSu6 hc, qtc_6 hc, qlc_6 hc, CSg7 hc, CSu7 hc, qtc_7 hc, qlc_7 hc, CSg8 hc, CSu8 hc, qtc_8 hc, qlc_8 hc, CSg9 hc, CSu9 hc, qtc_9 hc, qlc_9 hc, CSg10 hc, CSu10 hc, qtc_10 hc, qlc_10 hc, CSg11 hc, CSu11 hc, qtc_11 hc, qlc_11 hc, CSg12 hc, CSu12 hc, qtc_12 hc, qlc_12 hc, CSg13 hc, CSu13 hc, qtc_13 hc, qlc_13 hc, CSg14 hc, CSu14 hc, qtc_14 hc, qlc_14 hc, CSg15 hc, CSu15 hc, qtc_15 hc, qlc_15 hc, CSg17 hc, CSu17 hc, qtc_17 hc, qlc_17 hc, CSg19 hc, CSu19 hc, qtc_19 hc, qlc_19 hc, CSg20 hc, CSu20 hc, qtc_20 hc, qlc_20 hc, CSg22 hc, CSu22 hc, qtc_22 hc, qlc_22 hc, CSg23 hc, CSu23 hc, qtc_23 hc, qlc_23 hc, q_up_eq, q_up_ne, q_up_ne2, q_upf_ne, q_upf_eq, not_false_eq_true, true_implies, false_implies, not_true_eq_false, not_false_eq_true, true_and, and_true, implies_true, or_true, true_or, or_false, false_or, Int.reduceEq, Int.one_ne_zero, Nat.reduceEqDiff]
    refine ⟨hs, hs, ?_⟩
    exact kk _ _ _ ⟨by omega, k1, rfl, rfl⟩ (fun x q h => by cases h)
theorem n_53 (hc : q_C c) (hT : TKS r f n P M) (hf : t_by f n) (hpl : ∀ i, i = 0 ∨ i = 1 ∨ i = 2 → C 1 i = pl i) (h0 : 0 ≤ k) (hk : k ≤ M) (hs : 0 ≤ C 0 0 ∧ C 0 0 < 40) (hck : 0 ≤ C 0 1 ∧ C 0 1 < 40)
    (kk : ∀ C' k' res, CX P M (p_sto f n pl (P k)) k' res → (∀ x q, p_sto f n pl (P k) = .inr (x, q) → SOK C C' (s_b x ar (C 0 0) (C 0 1) (C 0 2)) ∧ (x.2.1 = 0 ∨ x.2.1 = 1)) → Q (.inl (some (vi res))) bb (CS c C' r k' ar)) : qx sc (D + 2) 53 0 [vr 4, vn] [] (0, 0) bb (CS c C r k ar) Q := by
  have hM := hT.2.1
  unfold p_sto at kk
  simp only [k53_0, k53_1, k53_4, k53_5, k53_6, k53_9 hc, CS_at, CS_ar, CS_co, CS_6 hc, CS_7 hc, CS_8 hc, CSf hc, CSuf hc, CS_upat, CS_upar, c_nn, Int.toNat_natCast, c18_0, c18_1, c21_0, c21_1, qt_6, ql_6, qt_7, ql_7, qt_8, ql_8, qtc_18 hc, qlc_18 hc, qtc_21 hc, qlc_21 hc, CSg1 hc, CSu1 hc, qtc_1 hc, qlc_1 hc, CSg2 hc, CSu2 hc, qtc_2 hc, qlc_2 hc, CSg3 hc, CSu3 hc, qtc_3 hc, qlc_3 hc, CSg4 hc, CSu4 hc, qtc_4 hc, qlc_4 hc, CSg5 hc, CSu5 hc, qtc_5 hc, qlc_5 hc, CSg6 hc, CSu6 hc, qtc_6 hc, qlc_6 hc, CSg7 hc, CSu7 hc, qtc_7 hc, qlc_7 hc, CSg8 hc, CSu8 hc, qtc_8 hc, qlc_8 hc, CSg9 hc, CSu9 hc, qtc_9 hc, qlc_9 hc, CSg10 hc, CSu10 hc, qtc_10 hc, qlc_10 hc, CSg11 hc, CSu11 hc, qtc_11 hc, qlc_11 hc, CSg12 hc, CSu12 hc, qtc_12 hc, qlc_12 hc, CSg13 hc, CSu13 hc, qtc_13 hc, qlc_13 hc, CSg14 hc, CSu14 hc, qtc_14 hc, qlc_14 hc, CSg15 hc, CSu15 hc, qtc_15 hc, qlc_15 hc, CSg17 hc, CSu17 hc, qtc_17 hc, qlc_17 hc, CSg19 hc, CSu19 hc, qtc_19 hc, qlc_19 hc, CSg20 hc, CSu20 hc, qtc_20 hc, qlc_20 hc, CSg22 hc, CSu22 hc, qtc_22 hc, qlc_22 hc, CSg23 hc, CSu23 hc, qtc_23 hc, qlc_23 hc, c12 hc hs, q_kn_v, k53_12, k53_13, k53_14, k53_15, true_implies, false_implies, not_true_eq_false, not_false_eq_true, true_and, and_true, implies_true, or_true, true_or, or_false, false_or, Int.reduceEq, Int.one_ne_zero, Nat.reduceEqDiff]
  have b01 : K_beg C 1 ar 0 1 = C 0 1 := by rw [K_beg_0, if_neg (by decide)]
  refine n_42 (pl := pl) hc hT hf (fun i hi => by rw [K_beg_ne (Or.inl rfl)]; exact hpl i hi) h0 hk hs (by rw [b01]; exact hck) (fun C1 k1 res x1 v1 => ?_)
  generalize p_el f n pl (P k) = Y at *
  rcases Y with y | ⟨e, y⟩
  · obtain ⟨b1, b2, rfl, b4⟩ := x1
    simp only [q_kn_v, k53_18, k53_30, k53_31, true_implies, false_implies, not_true_eq_false, not_false_eq_true, true_and, and_true, implies_true, or_true, true_or, or_false, false_or, Int.reduceEq, Int.one_ne_zero, Nat.reduceEqDiff]
    exact kk _ _ _ ⟨b1, b2, rfl, b4⟩ (fun x q h => by cases h)
  obtain ⟨b1, b2, rfl, rfl⟩ := x1
  obtain ⟨v1, v2, v3, v4, v5⟩ := v1 e _ rfl
  simp only [p_b_inr] at kk
  simp only [q_kn_v, k53_18, k53_21, k53_22, k53_24, true_implies, false_implies, not_true_eq_false, not_false_eq_true, true_and, and_true, implies_true, or_true, true_or, or_false, false_or, Int.reduceEq, Int.one_ne_zero, Nat.reduceEqDiff]
  refine n_51 hc hT b1 b2 (by decide) (fun t2 k2 e2 => ?_) (fun t2 => ?_)
  · have x2 : p_sg f n 61 (P k1) = .inr ((), P (k1 + 1)) := by unfold p_sg; rw [if_pos t2, e2]
    rw [x2] at kk
    simp only [p_b_inr] at kk
    have c7 : C1 7 (C 0 0) = C 0 1 := by rw [v1]; unfold K_chk; simp only [q_up_eq, q_up_ne, q_up_ne2, q_upf_ne, q_upf_eq, not_false_eq_true, Nat.reduceEqDiff]; exact b01
    have c14 : C1 14 (C 0 1) = e.2 := by rw [v1]; unfold K_chk; rw [b01, q_up_eq]
    simp only [q_kn_v, k53_27, k53_30, k53_31, k53_32, k53_33, k53_36 hc, k53_39, k53_40, k53_41, k53_44 hc, k53_47, k53_48, k53_51 hc, k53_54, k53_55, k53_56, k53_57, k53_58, k53_59, k53_62 hc, k53_65, k53_66, k53_67, CS_at, CS_ar, CS_co, CS_6 hc, CS_7 hc, CS_8 hc, CSf hc, CSuf hc, CS_upat, CS_upar, c_nn, Int.toNat_natCast, c18_0, c18_1, c21_0, c21_1, qt_6, ql_6, qt_7, ql_7, qt_8, ql_8, qtc_18 hc, qlc_18 hc, qtc_21 hc, qlc_21 hc, CSg1 hc, CSu1 hc, qtc_1 hc, qlc_1 hc, CSg2 hc, CSu2 hc, qtc_2 hc, qlc_2 hc, CSg3 hc, CSu3 hc, qtc_3 hc, qlc_3 hc, CSg4 hc, CSu4 hc, qtc_4 hc, qlc_4 hc, CSg5 hc, CSu5 hc, qtc_5 hc, qlc_5 hc, CSg6 hc, CSu6 hc, qtc_6 hc, qlc_6 hc, CSg7 hc, CSu7 hc, qtc_7 hc, qlc_7 hc, CSg8 hc, CSu8 hc, qtc_8 hc, qlc_8 hc, CSg9 hc, CSu9 hc, qtc_9 hc, qlc_9 hc, CSg10 hc, CSu10 hc, qtc_10 hc, qlc_10 hc, CSg11 hc, CSu11 hc, qtc_11 hc, qlc_11 hc, CSg12 hc, CSu12 hc, qtc_12 hc, qlc_12 hc, CSg13 hc, CSu13 hc, qtc_13 hc, qlc_13 hc, CSg14 hc, CSu14 hc, qtc_14 hc, qlc_14 hc, CSg15 hc, CSu15 hc, qtc_15 hc, qlc_15 hc, CSg17 hc, CSu17 hc, qtc_17 hc, qlc_17 hc, CSg19 hc, CSu19 hc, qtc_19 hc, qlc_19 hc, CSg20 hc, CSu20 hc, qtc_20 hc, qlc_20 hc, CSg22 hc, CSu22 hc, qtc_22 hc, qlc_22 hc, CSg23 hc, CSu23 hc, qtc_23 hc, qlc_23 hc, c7, c14, true_implies, false_implies, not_true_eq_false, not_false_eq_true, true_and, and_true, implies_true, or_true, true_or, or_false, false_or, Int.reduceEq, Int.one_ne_zero, Nat.reduceEqDiff]
    refine ⟨hs, hck, hs, ?_⟩
    refine n_57 hc hT hf (by omega) k2 (fun t3 k3 e3 => ?_) (fun t3 => ?_)
    · have x3 : p_va f n (P (k1 + 1)) = .inr (tk f n (P (k1 + 1)) - 97, P (k1 + 1 + 1)) := by unfold p_va; rw [if_pos t3, e3]
      have z : ¬ tk f n (P (k1 + 1)) - 97 = -1 := by omega
      rw [x3] at kk
      simp only [p_b_inr] at kk
      simp only [q_kn_v, k53_70, k53_71, k53_72, k53_75 hc, k53_78, k53_79, k53_80, k53_81, k53_84, k53_85, k53_87, CS_at, CS_ar, CS_co, CS_6 hc, CS_7 hc, CS_8 hc, CSf hc, CSuf hc, CS_upat, CS_upar, c_nn, Int.toNat_natCast, c18_0, c18_1, c21_0, c21_1, qt_6, ql_6, qt_7, ql_7, qt_8, ql_8, qtc_18 hc, qlc_18 hc, qtc_21 hc, qlc_21 hc, CSg1 hc, CSu1 hc, qtc_1 hc, qlc_1 hc, CSg2 hc, CSu2 hc, qtc_2 hc, qlc_2 hc, CSg3 hc, CSu3 hc, qtc_3 hc, qlc_3 hc, CSg4 hc, CSu4 hc, qtc_4 hc, qlc_4 hc, CSg5 hc, CSu5 hc, qtc_5 hc, qlc_5 hc, CSg6 hc, CSu6 hc, qtc_6 hc, qlc_6 hc, CSg7 hc, CSu7 hc, qtc_7 hc, qlc_7 hc, CSg8 hc, CSu8 hc, qtc_8 hc, qlc_8 hc, CSg9 hc, CSu9 hc, qtc_9 hc, qlc_9 hc, CSg10 hc, CSu10 hc, qtc_10 hc, qlc_10 hc, CSg11 hc, CSu11 hc, qtc_11 hc, qlc_11 hc, CSg12 hc, CSu12 hc, qtc_12 hc, qlc_12 hc, CSg13 hc, CSu13 hc, qtc_13 hc, qlc_13 hc, CSg14 hc, CSu14 hc, qtc_14 hc, qlc_14 hc, CSg15 hc, CSu15 hc, qtc_15 hc, qlc_15 hc, CSg17 hc, CSu17 hc, qtc_17 hc, qlc_17 hc, CSg19 hc, CSu19 hc, qtc_19 hc, qlc_19 hc, CSg20 hc, CSu20 hc, qtc_20 hc, qlc_20 hc, CSg22 hc, CSu22 hc, qtc_22 hc, qlc_22 hc, CSg23 hc, CSu23 hc, qtc_23 hc, qlc_23 hc, q_up_eq, q_up_ne, q_up_ne2, q_upf_ne, q_upf_eq, not_false_eq_true, z, true_implies, false_implies, not_true_eq_false, not_false_eq_true, true_and, and_true, implies_true, or_true, true_or, or_false, false_or, Int.reduceEq, Int.one_ne_zero, Nat.reduceEqDiff]
      refine ⟨hs, hs, ?_⟩
      refine n_51 hc hT (by omega) k3 (by decide) (fun t4 k4 e4 => ?_) (fun t4 => ?_)
      · have x4 : p_sg f n 59 (P (k1 + 1 + 1)) = .inr ((), P (k1 + 1 + 1 + 1)) := by unfold p_sg; rw [if_pos t4, e4]
        rw [x4] at kk
        simp only [p_b_inr] at kk
        simp only [q_kn_v, k53_90, k53_93, k53_94, k53_97, k53_98, true_implies, false_implies, not_true_eq_false, not_false_eq_true, true_and, and_true, implies_true, or_true, true_or, or_false, false_or, Int.reduceEq, Int.one_ne_zero, Nat.reduceEqDiff]
        refine kk _ _ _ ⟨by omega, k4, rfl, rfl⟩ (fun x q h => ?_)
        cases h
        rw [v1]
        unfold K_chk
        rw [b01]
        refine ⟨SOK_b ?_ ?_ ?_ (Or.inr ⟨rfl, ?_, ?_⟩) ?_, Or.inr rfl⟩
        · unfold SRok
          simp only [q_up_app, K_beg_0, K_beg_ne, K_beg_2, K_beg_3, K_beg_4, K_beg_5, K_beg_6, K_beg_7, K_beg_8, K_beg_9, K_beg_10, K_beg_11, Nat.reduceEqDiff, false_and, true_and, and_true, if_true, if_false, Int.reduceLE, Int.reduceEq, false_implies]
        · simp only [q_up_eq, q_up_ne, q_up_ne2, q_upf_ne, q_upf_eq, not_false_eq_true, K_beg_0, K_beg_ne, K_beg_2, K_beg_3, K_beg_4, K_beg_5, K_beg_6, K_beg_7, K_beg_8, K_beg_9, K_beg_10, K_beg_11, Nat.reduceEqDiff, Int.reduceEq, if_true]
        · simp only [q_up_eq, q_up_ne, q_up_ne2, q_upf_ne, q_upf_eq, not_false_eq_true, K_beg_0, K_beg_ne, K_beg_2, K_beg_3, K_beg_4, K_beg_5, K_beg_6, K_beg_7, K_beg_8, K_beg_9, K_beg_10, K_beg_11, Nat.reduceEqDiff, Int.reduceEq, if_false]
        · simp only [q_up_eq, q_up_ne, q_up_ne2, q_upf_ne, q_upf_eq, not_false_eq_true, K_beg_0, K_beg_ne, K_beg_2, K_beg_3, K_beg_4, K_beg_5, K_beg_6, K_beg_7, K_beg_8, K_beg_9, K_beg_10, K_beg_11, Nat.reduceEqDiff, Int.reduceEq, if_false]
        · unfold KRok
          simp only [q_up_eq, q_up_ne, q_up_ne2, q_upf_ne, q_upf_eq, not_false_eq_true, Nat.reduceEqDiff, and_self]
        · refine IVC_up (IVC_up ?_ (by decide) (by unfold BEL; omega)) (by decide) (by unfold BEL; omega)
          have i0 := IVC_beg (C := C) (kind := 1) (a := ar)
          refine IVC_up (IVC_up (IVC_up (IVC_up ?_ (by decide) (by unfold BEL; omega)) (by decide) (by unfold BEL; omega)) (by decide) (by unfold BEL; omega)) (by decide) (by unfold BEL; omega)
          obtain ⟨i1, i2, i3, i4⟩ := i0
          refine ⟨fun j i hb => ?_, ?_, ?_, ?_⟩
          · rw [q_up_ne _ _ _ _ (by unfold BEL at hb; omega)]
            exact i1 j i hb
          · rw [q_up_ne2 _ _ _ (by decide)]; exact i2
          · rw [q_up_eq]; omega
          · rw [q_up_ne2 _ _ _ (by decide)]; exact i4
      · have x4 : p_sg f n 59 (P (k1 + 1 + 1)) = .inl (P (k1 + 1 + 1)) := by unfold p_sg; rw [if_neg t4]
        rw [x4] at kk
        simp only [q_kn_v, k53_90, k53_97, k53_98, true_implies, false_implies, not_true_eq_false, not_false_eq_true, true_and, and_true, implies_true, or_true, true_or, or_false, false_or, Int.reduceEq, Int.one_ne_zero, Nat.reduceEqDiff]
        exact kk _ _ _ ⟨by omega, k3, rfl, rfl⟩ (fun x q h => by cases h)
    · have x3 : p_va f n (P (k1 + 1)) = .inl (P (k1 + 1)) := by unfold p_va; rw [if_neg t3]
      rw [x3] at kk
      simp only [q_kn_v, k53_70, k53_71, k53_72, k53_75 hc, k53_78, k53_79, k53_80, k53_81, k53_97, k53_98, CS_at, CS_ar, CS_co, CS_6 hc, CS_7 hc, CS_8 hc, CSf hc, CSuf hc, CS_upat, CS_upar, c_nn, Int.toNat_natCast, c18_0, c18_1, c21_0, c21_1, qt_6, ql_6, qt_7, ql_7, qt_8, ql_8, qtc_18 hc, qlc_18 hc, qtc_21 hc, qlc_21 hc, CSg1 hc, CSu1 hc, qtc_1 hc, qlc_1 hc, CSg2 hc, CSu2 hc, qtc_2 hc, qlc_2 hc, CSg3 hc, CSu3 hc, qtc_3 hc, qlc_3 hc, CSg4 hc, CSu4 hc, qtc_4 hc, qlc_4 hc, CSg5 hc, CSu5 hc, qtc_5 hc, qlc_5 hc, CSg6 hc, CSu6 hc, qtc_6 hc, qlc_6 hc, CSg7 hc, CSu7 hc, qtc_7 hc, qlc_7 hc, CSg8 hc, CSu8 hc, qtc_8 hc, qlc_8 hc, CSg9 hc, CSu9 hc, qtc_9 hc, qlc_9 hc, CSg10 hc, CSu10 hc, qtc_10 hc, qlc_10 hc, CSg11 hc, CSu11 hc, qtc_11 hc, qlc_11 hc, CSg12 hc, CSu12 hc, qtc_12 hc, qlc_12 hc, CSg13 hc, CSu13 hc, qtc_13 hc, qlc_13 hc, CSg14 hc, CSu14 hc, qtc_14 hc, qlc_14 hc, CSg15 hc, CSu15 hc, qtc_15 hc, qlc_15 hc, CSg17 hc, CSu17 hc, qtc_17 hc, qlc_17 hc, CSg19 hc, CSu19 hc, qtc_19 hc, qlc_19 hc, CSg20 hc, CSu20 hc, qtc_20 hc, qlc_20 hc, CSg22 hc, CSu22 hc, qtc_22 hc, qlc_22 hc, CSg23 hc, CSu23 hc, qtc_23 hc, qlc_23 hc, q_up_eq, q_up_ne, q_up_ne2, q_upf_ne, q_upf_eq, not_false_eq_true, true_implies, false_implies, not_true_eq_false, not_false_eq_true, true_and, and_true, implies_true, or_true, true_or, or_false, false_or, Int.reduceEq, Int.one_ne_zero, Nat.reduceEqDiff]
      refine ⟨hs, hs, ?_⟩
      exact kk _ _ _ ⟨by omega, k2, rfl, rfl⟩ (fun x q h => by cases h)
  · have x2 : p_sg f n 61 (P k1) = .inl (P k1) := by unfold p_sg; rw [if_neg t2]
    rw [x2] at kk
    simp only [q_kn_v, k53_27, k53_30, k53_31, true_implies, false_implies, not_true_eq_false, not_false_eq_true, true_and, and_true, implies_true, or_true, true_or, or_false, false_or, Int.reduceEq, Int.one_ne_zero, Nat.reduceEqDiff]
    exact kk _ _ _ ⟨b1, b2, rfl, rfl⟩ (fun x q h => by cases h)
theorem n_39 (hc : q_C c) (hT : TKS r f n P M) (hf : t_by f n) (hpl : ∀ i, i = 0 ∨ i = 1 ∨ i = 2 → C 1 i = pl i) (h0 : 0 ≤ k) (hk : k ≤ M) (hs : 0 ≤ C 0 0 ∧ C 0 0 < 40) (hck : 0 ≤ C 0 1 ∧ C 0 1 < 40)
    (kk : ∀ C' k' res, CX P M (p_asg f n pl (P k)) k' res → (∀ x q, p_asg f n pl (P k) = .inr (x, q) → SOK C C' (s_b x ar (C 0 0) (C 0 1) (C 0 2)) ∧ (x.2.1 = 0 ∨ x.2.1 = 1)) → Q (.inl (some (vi res))) bb (CS c C' r k' ar)) : qx sc (D + 3) 39 0 [vr 4, vn, vn] [] (0, 0) bb (CS c C r k ar) Q := by
  have hM := hT.2.1
  unfold p_asg at kk
  simp only [k39_0, k39_1]
  refine n_57 hc hT hf h0 hk (fun t1 k1 e1 => ?_) (fun t1 => ?_)
  · have x1 : p_va f n (P k) = .inr (tk f n (P k) - 97, P (k + 1)) := by unfold p_va; rw [if_pos t1, e1]
    have z : ¬ tk f n (P k) - 97 = -1 := by omega
    rw [x1] at kk
    simp only [p_b_inr] at kk
    generalize tk f n (P k) - 97 = v at *
    simp only [q_kn_v, k39_4, k39_5, k39_6, k39_7, k39_10, k39_11, k39_12, k39_13, k39_16, k39_17, k39_18, k39_21 hc, CS_at, CS_ar, CS_co, CS_6 hc, CS_7 hc, CS_8 hc, CSf hc, CSuf hc, CS_upat, CS_upar, c_nn, Int.toNat_natCast, c18_0, c18_1, c21_0, c21_1, qt_6, ql_6, qt_7, ql_7, qt_8, ql_8, qtc_18 hc, qlc_18 hc, qtc_21 hc, qlc_21 hc, CSg1 hc, CSu1 hc, qtc_1 hc, qlc_1 hc, CSg2 hc, CSu2 hc, qtc_2 hc, qlc_2 hc, CSg3 hc, CSu3 hc, qtc_3 hc, qlc_3 hc, CSg4 hc, CSu4 hc, qtc_4 hc, qlc_4 hc, CSg5 hc, CSu5 hc, qtc_5 hc, qlc_5 hc, CSg6 hc, CSu6 hc, qtc_6 hc, qlc_6 hc, CSg7 hc, CSu7 hc, qtc_7 hc, qlc_7 hc, CSg8 hc, CSu8 hc, qtc_8 hc, qlc_8 hc, CSg9 hc, CSu9 hc, qtc_9 hc, qlc_9 hc, CSg10 hc, CSu10 hc, qtc_10 hc, qlc_10 hc, CSg11 hc, CSu11 hc, qtc_11 hc, qlc_11 hc, CSg12 hc, CSu12 hc, qtc_12 hc, qlc_12 hc, CSg13 hc, CSu13 hc, qtc_13 hc, qlc_13 hc, CSg14 hc, CSu14 hc, qtc_14 hc, qlc_14 hc, CSg15 hc, CSu15 hc, qtc_15 hc, qlc_15 hc, CSg17 hc, CSu17 hc, qtc_17 hc, qlc_17 hc, CSg19 hc, CSu19 hc, qtc_19 hc, qlc_19 hc, CSg20 hc, CSu20 hc, qtc_20 hc, qlc_20 hc, CSg22 hc, CSu22 hc, qtc_22 hc, qlc_22 hc, CSg23 hc, CSu23 hc, qtc_23 hc, qlc_23 hc, c12 hc hs, k39_24, k39_25, k39_26, k39_29 hc, k39_32, k39_33, k39_34, k39_35, k39_36, k39_38, z, true_implies, false_implies, not_true_eq_false, not_false_eq_true, true_and, and_true, implies_true, or_true, true_or, or_false, false_or, Int.reduceEq, Int.one_ne_zero, Nat.reduceEqDiff]
    refine ⟨hs, ?_⟩
    refine n_51 hc hT (by omega) k1 (by decide) (fun t2 k2 e2 => ?_) (fun t2 => ?_)
    · have x2 : p_sg f n 61 (P (k + 1)) = .inr ((), P (k + 1 + 1)) := by unfold p_sg; rw [if_pos t2, e2]
      rw [x2] at kk
      simp only [p_b_inr] at kk
      simp only [q_kn_v, k39_41, k39_44, k39_45, k39_46, true_implies, false_implies, not_true_eq_false, not_false_eq_true, true_and, and_true, implies_true, or_true, true_or, or_false, false_or, Int.reduceEq, Int.one_ne_zero, Nat.reduceEqDiff]
      have b01 : q_up (K_beg C 0 ar) 3 (C 0 0) v 0 1 = C 0 1 := by rw [q_up_ne _ _ _ _ (by decide), K_beg_0, if_neg (by decide)]
      refine n_56 (pl := pl) hc hT hf (fun i hi => by rw [q_up_ne _ _ _ _ (by decide), K_beg_ne (Or.inl rfl)]; exact hpl i hi) (by omega) k2 hs (by rw [b01]; exact hck) (by rw [q_up_ne _ _ _ _ (by decide), K_beg_6, if_pos rfl]) (by rw [q_up_ne _ _ _ _ (by decide), K_beg_5, if_pos rfl]) (fun C1 k3 res x3 v3 => ?_)
      generalize p_vl f n pl (P (k + 1 + 1)) = Y at *
      rcases Y with y | ⟨w, y⟩
      · obtain ⟨b1, b2, rfl, b4⟩ := x3
        simp only [q_kn_v, k39_49, k39_65, k39_66, true_implies, false_implies, not_true_eq_false, not_false_eq_true, true_and, and_true, implies_true, or_true, true_or, or_false, false_or, Int.reduceEq, Int.one_ne_zero, Nat.reduceEqDiff]
        exact kk _ _ _ ⟨b1, b2, rfl, b4⟩ (fun x q h => by cases h)
      obtain ⟨b1, b2, rfl, rfl⟩ := x3
      obtain ⟨w1, w2, w3, w4, w5⟩ := v3 w _ rfl
      simp only [p_b_inr] at kk
      simp only [q_kn_v, k39_49, k39_52, k39_53, k39_55, true_implies, false_implies, not_true_eq_false, not_false_eq_true, true_and, and_true, implies_true, or_true, true_or, or_false, false_or, Int.reduceEq, Int.one_ne_zero, Nat.reduceEqDiff]
      refine n_51 hc hT b1 b2 (by decide) (fun t4 k4 e4 => ?_) (fun t4 => ?_)
      · have x4 : p_sg f n 59 (P k3) = .inr ((), P (k3 + 1)) := by unfold p_sg; rw [if_pos t4, e4]
        rw [x4] at kk
        simp only [p_b_inr] at kk
        simp only [q_kn_v, k39_58, k39_61, k39_62, k39_66, true_implies, false_implies, not_true_eq_false, not_false_eq_true, true_and, and_true, implies_true, or_true, true_or, or_false, false_or, Int.reduceEq, Int.one_ne_zero, Nat.reduceEqDiff]
        refine kk _ _ _ ⟨by omega, k4, rfl, rfl⟩ (fun x q h => ?_)
        cases h
        rw [b01] at w4
        have w5' : ∀ j i, ¬ (4 ≤ j ∧ j ≤ 7 ∧ i = C 0 0) → ¬ (j = 0 ∧ i = 1) → ¬ (12 ≤ j ∧ j ≤ 14 ∧ i = C 0 1) → C1 j i = q_up (K_beg C 0 ar) 3 (C 0 0) v j i := by
          intro j i a1 a2 a3
          exact w5 j i a1 a2 (by rw [b01]; exact a3)
        have g : ∀ j, ¬ (4 ≤ j ∧ j ≤ 7) → 2 ≤ j ∧ j ≤ 11 → C1 j (C 0 0) = q_up (K_beg C 0 ar) 3 (C 0 0) v j (C 0 0) := fun j a1 a2 => w5' j _ (by omega) (by omega) (by omega)
        have q7 : q_up (K_beg C 0 ar) 3 (C 0 0) v 7 (C 0 0) = -1 := by rw [q_up_ne _ _ _ _ (by decide), K_beg_7, if_pos rfl]
        rw [q7] at w4
        have g00 : C1 0 0 = C 0 0 + 1 := by rw [w5' 0 0 (by omega) (by omega) (by omega), q_up_ne _ _ _ _ (by decide), K_beg_0, if_pos rfl]
        have g02 : C1 0 2 = C 0 2 := by rw [w5' 0 2 (by omega) (by omega) (by omega), q_up_ne _ _ _ _ (by decide), K_beg_0, if_neg (by decide)]
        refine ⟨SOK_b ?_ g00 g02 ?_ ?_, ?_⟩
        · unfold SRok
          dsimp only
          rw [g 2 (by omega) (by omega), g 3 (by omega) (by omega), g 8 (by omega) (by omega), g 9 (by omega) (by omega), g 10 (by omega) (by omega), g 11 (by omega) (by omega), w1, w2, w3]
          simp only [q_up_app, K_beg_0, K_beg_ne, K_beg_2, K_beg_3, K_beg_4, K_beg_5, K_beg_6, K_beg_7, K_beg_8, K_beg_9, K_beg_10, K_beg_11, Nat.reduceEqDiff, false_and, true_and, and_true, if_true, if_false, Int.reduceLE, Int.reduceEq, false_implies]
          rcases w4 with ⟨y1, y2, y3⟩ | ⟨y1, y2, y3, y4⟩
          · rw [y1, y3, if_neg (by decide)]
          · rw [y3, if_pos y1]
        · rcases w4 with ⟨y1, y2, y3⟩ | ⟨y1, y2, y3, y4, y5, y6⟩
          · exact Or.inl ⟨by rw [y1]; decide, y2⟩
          · exact Or.inr ⟨y1, y2, y4, y5, y6⟩
        · have i0 := IVC_up (x := v) (j := 3) (i := C 0 0) (IVC_beg (C := C) (kind := 0) (a := ar)) (by decide) (by unfold BEL; omega)
          obtain ⟨i1, i2, i3, i4⟩ := i0
          refine ⟨fun j i hb => ?_, by omega, ?_, by omega⟩
          · rw [w5' j i (by unfold BEL at hb; omega) (by unfold BEL at hb; omega) (by unfold BEL at hb; omega)]
            exact i1 j i hb
          · rcases w4 with ⟨y1, y2, y3⟩ | ⟨y1, y2, y3, y4⟩ <;> omega
        · rcases w4 with ⟨y1, -⟩ | ⟨y1, -⟩
          · rw [y1]; exact Or.inl rfl
          · exact Or.inr y1
      · have x4 : p_sg f n 59 (P k3) = .inl (P k3) := by unfold p_sg; rw [if_neg t4]
        rw [x4] at kk
        simp only [q_kn_v, k39_58, k39_65, k39_66, true_implies, false_implies, not_true_eq_false, not_false_eq_true, true_and, and_true, implies_true, or_true, true_or, or_false, false_or, Int.reduceEq, Int.one_ne_zero, Nat.reduceEqDiff]
        exact kk _ _ _ ⟨b1, b2, rfl, rfl⟩ (fun x q h => by cases h)
    · have x2 : p_sg f n 61 (P (k + 1)) = .inl (P (k + 1)) := by unfold p_sg; rw [if_neg t2]
      rw [x2] at kk
      simp only [q_kn_v, k39_41, k39_65, k39_66, true_implies, false_implies, not_true_eq_false, not_false_eq_true, true_and, and_true, implies_true, or_true, true_or, or_false, false_or, Int.reduceEq, Int.one_ne_zero, Nat.reduceEqDiff]
      exact kk _ _ _ ⟨by omega, k1, rfl, rfl⟩ (fun x q h => by cases h)
  · have x1 : p_va f n (P k) = .inl (P k) := by unfold p_va; rw [if_neg t1]
    rw [x1] at kk
    simp only [q_kn_v, k39_4, k39_5, k39_6, k39_7, k39_10, k39_11, true_implies, false_implies, not_true_eq_false, not_false_eq_true, true_and, and_true, implies_true, or_true, true_or, or_false, false_or, Int.reduceEq, Int.one_ne_zero, Nat.reduceEqDiff]
    exact kk _ _ _ ⟨h0, hk, rfl, rfl⟩ (fun x q h => by cases h)
end CRG
