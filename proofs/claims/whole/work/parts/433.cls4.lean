section CRF
variable {sc : Nat × (Nat → Int32)} {D : Nat} {bb : Bool} {Q : QP} {c : Nat} {C r : St} {k ar n M s : Int} {f P pl : Int → Int}
theorem k56_sw {x : Int} {ls st : List V2} {u : PU} {σ : St} (h1 : x = 35 → qx sc D 56 104 ls st u bb σ Q) (h2 : x = 45 → qx sc D 56 87 ls st u bb σ Q) (h3 : 65 ≤ x ∧ x ≤ 67 → qx sc D 56 209 ls st u bb σ Q) (h4 : x = 261 → qx sc D 56 156 ls st u bb σ Q) (h5 : x = 262 → qx sc D 56 80 ls st u bb σ Q) (h6 : ¬ x = 35 → ¬ x = 45 → ¬ (65 ≤ x ∧ x ≤ 67) → ¬ x = 261 → ¬ x = 262 → qx sc D 56 225 ls st u bb σ Q) : qx sc D 56 12 ls (vi x :: st) u bb σ Q := by
  rw [k56_12]
  by_cases a1 : x = 35
  · rw [if_pos a1]; exact h1 a1
  rw [if_neg a1]
  by_cases a2 : x = 45
  · rw [if_pos a2]; exact h2 a2
  rw [if_neg a2]
  by_cases a3 : x = 65
  · rw [if_pos a3]; exact h3 (by omega)
  rw [if_neg a3]
  by_cases a4 : x = 66
  · rw [if_pos a4]; exact h3 (by omega)
  rw [if_neg a4]
  by_cases a5 : x = 67
  · rw [if_pos a5]; exact h3 (by omega)
  rw [if_neg a5]
  by_cases a6 : x = 261
  · rw [if_pos a6]; exact h4 a6
  rw [if_neg a6]
  by_cases a7 : x = 262
  · rw [if_pos a7]; exact h5 a7
  rw [if_neg a7]
  exact h6 a1 a2 (by omega) a6 a7
theorem n_44 (hc : q_C c) (hT : TKS r f n P M) (hf : t_by f n) (h0 : 0 ≤ k) (hk : k ≤ M) (hs : 0 ≤ s ∧ s < 40) {tn : Int} (ht : tn = 1 ∨ tn = -1)
    (kk : ∀ C' k' res, CX P M (p_nu f n 99 (P k)) k' res → (∀ v q, p_nu f n 99 (P k) = .inr (v, q) → C' = q_up (q_up C 4 s 1) 6 s (tn * v)) → Q (.inl (some (vi res))) bb (CS c C' r k' ar)) : qx sc (D + 1) 44 0 [vr 4, vi s, vi tn, vn] [] (0, 0) bb (CS c C r k ar) Q := by
  obtain ⟨-, h6, h8, hp⟩ := hT.2.2.1 k h0 hk
  simp only [k44_0, k44_1, k44_3]
  refine n_43 hc hT h0 hk (fun t1 k1 e1 => ?_) (fun t1 => ?_)
  · have x1 : p_nu f n 99 (P k) = .inr (tw f n (P k), P (k + 1)) := by unfold p_nu; rw [if_pos t1, e1]
    have hn := (tk_num hf hp).mp t1.1
    have htw := tw_range (n := n) hn.1 hn.2.1
    have z : ¬ tw f n (P k) = -1 := by omega
    have rg : q_R (tn * tw f n (P k)) := by rcases ht with rfl | rfl <;> constructor <;> omega
    rw [x1] at kk
    simp only [q_kn_v, k44_6, k44_7, k44_8, k44_11 hc, k44_14, k44_15, k44_16, k44_17, k44_18, k44_21 hc, k44_24, k44_25, k44_26, k44_27, k44_28, k44_29, k44_30, k44_31, k44_34, k44_35, k44_38, k44_39, CS_at, CS_ar, CS_co, CS_6 hc, CS_7 hc, CS_8 hc, CSf hc, CSuf hc, CS_upat, CS_upar, c_nn, Int.toNat_natCast, c18_0, c18_1, c21_0, c21_1, qt_6, ql_6, qt_7, ql_7, qt_8, ql_8, qtc_18 hc, qlc_18 hc, qtc_21 hc, qlc_21 hc, CSg1 hc, CSu1 hc, qtc_1 hc, qlc_1 hc, CSg2 hc, CSu2 hc, qtc_2 hc, qlc_2 hc, CSg3 hc, CSu3 hc, qtc_3 hc, qlc_3 hc, CSg4 hc, CSu4 hc, qtc_4 hc, qlc_4 hc, CSg5 hc, CSu5 hc, qtc_5 hc, qlc_5 hc, CSg6 hc, CSu6 hc, qtc_6 hc, qlc_6 hc, CSg7 hc, CSu7 hc, qtc_7 hc, qlc_7 hc, CSg8 hc, CSu8 hc, qtc_8 hc, qlc_8 hc, CSg9 hc, CSu9 hc, qtc_9 hc, qlc_9 hc, CSg10 hc, CSu10 hc, qtc_10 hc, qlc_10 hc, CSg11 hc, CSu11 hc, qtc_11 hc, qlc_11 hc, CSg12 hc, CSu12 hc, qtc_12 hc, qlc_12 hc, CSg13 hc, CSu13 hc, qtc_13 hc, qlc_13 hc, CSg14 hc, CSu14 hc, qtc_14 hc, qlc_14 hc, CSg15 hc, CSu15 hc, qtc_15 hc, qlc_15 hc, CSg17 hc, CSu17 hc, qtc_17 hc, qlc_17 hc, CSg19 hc, CSu19 hc, qtc_19 hc, qlc_19 hc, CSg20 hc, CSu20 hc, qtc_20 hc, qlc_20 hc, CSg22 hc, CSu22 hc, qtc_22 hc, qlc_22 hc, CSg23 hc, CSu23 hc, qtc_23 hc, qlc_23 hc, z, true_implies, false_implies, not_true_eq_false, not_false_eq_true, true_and, and_true, implies_true, or_true, true_or, or_false, false_or, Int.reduceEq, Int.one_ne_zero, Nat.reduceEqDiff]
    refine ⟨hs, rg, hs, ?_⟩
    refine kk _ _ _ ⟨by omega, k1, rfl, rfl⟩ (fun v q h => ?_)
    cases h
    rfl
  · have x1 : p_nu f n 99 (P k) = .inl (P k) := by unfold p_nu; rw [if_neg t1]
    have rg : q_R (tn * -1) := by rcases ht with rfl | rfl <;> constructor <;> omega
    rw [x1] at kk
    simp only [q_kn_v, k44_6, k44_7, k44_8, k44_11 hc, k44_14, k44_15, k44_16, k44_17, k44_18, k44_21 hc, k44_24, k44_25, k44_26, k44_27, k44_28, k44_29, k44_30, k44_31, k44_34, k44_35, k44_38, k44_39, CS_at, CS_ar, CS_co, CS_6 hc, CS_7 hc, CS_8 hc, CSf hc, CSuf hc, CS_upat, CS_upar, c_nn, Int.toNat_natCast, c18_0, c18_1, c21_0, c21_1, qt_6, ql_6, qt_7, ql_7, qt_8, ql_8, qtc_18 hc, qlc_18 hc, qtc_21 hc, qlc_21 hc, CSg1 hc, CSu1 hc, qtc_1 hc, qlc_1 hc, CSg2 hc, CSu2 hc, qtc_2 hc, qlc_2 hc, CSg3 hc, CSu3 hc, qtc_3 hc, qlc_3 hc, CSg4 hc, CSu4 hc, qtc_4 hc, qlc_4 hc, CSg5 hc, CSu5 hc, qtc_5 hc, qlc_5 hc, CSg6 hc, CSu6 hc, qtc_6 hc, qlc_6 hc, CSg7 hc, CSu7 hc, qtc_7 hc, qlc_7 hc, CSg8 hc, CSu8 hc, qtc_8 hc, qlc_8 hc, CSg9 hc, CSu9 hc, qtc_9 hc, qlc_9 hc, CSg10 hc, CSu10 hc, qtc_10 hc, qlc_10 hc, CSg11 hc, CSu11 hc, qtc_11 hc, qlc_11 hc, CSg12 hc, CSu12 hc, qtc_12 hc, qlc_12 hc, CSg13 hc, CSu13 hc, qtc_13 hc, qlc_13 hc, CSg14 hc, CSu14 hc, qtc_14 hc, qlc_14 hc, CSg15 hc, CSu15 hc, qtc_15 hc, qlc_15 hc, CSg17 hc, CSu17 hc, qtc_17 hc, qlc_17 hc, CSg19 hc, CSu19 hc, qtc_19 hc, qlc_19 hc, CSg20 hc, CSu20 hc, qtc_20 hc, qlc_20 hc, CSg22 hc, CSu22 hc, qtc_22 hc, qlc_22 hc, CSg23 hc, CSu23 hc, qtc_23 hc, qlc_23 hc, true_implies, false_implies, not_true_eq_false, not_false_eq_true, true_and, and_true, implies_true, or_true, true_or, or_false, false_or, Int.reduceEq, Int.one_ne_zero, Nat.reduceEqDiff]
    refine ⟨hs, rg, hs, ?_⟩
    exact kk _ _ _ ⟨h0, hk, rfl, rfl⟩ (fun v q h => by cases h)
/-- what a VALUE leaves alone -/
def VF (s : Int) (C C' : St) : Prop := ∀ j i, ¬ (4 ≤ j ∧ j ≤ 7 ∧ i = s) → ¬ (j = 0 ∧ i = 1) → ¬ (12 ≤ j ∧ j ≤ 14 ∧ i = C 0 1) → C' j i = C j i
def VOK (s : Int) (C C' : St) (w : (Int × Int × Int) × (Int × Int × Int)) : Prop := C' 4 s = w.1.1 ∧ C' 5 s = w.1.2.1 ∧ C' 6 s = w.1.2.2 ∧ ((w.2 = p_no ∧ C' 0 1 = C 0 1 ∧ C' 7 s = C 7 s) ∨ (w.2.1 = 1 ∧ C' 0 1 = C 0 1 + 1 ∧ C' 7 s = C 0 1 ∧ C' 12 (C 0 1) = s ∧ C' 13 (C 0 1) = w.2.2.1 ∧ C' 14 (C 0 1) = w.2.2.2)) ∧ VF s C C'
theorem VF_up {j : Nat} {i x : Int} {C' : St} (h : VF s C C') (hn : (4 ≤ j ∧ j ≤ 7 ∧ i = s) ∨ (j = 0 ∧ i = 1) ∨ (12 ≤ j ∧ j ≤ 14 ∧ i = C 0 1)) : VF s C (q_up C' j i x) := by
  intro j' i' a1 a2 a3
  rw [q_up_app, if_neg (by rintro ⟨rfl, rfl⟩; omega)]
  exact h j' i' a1 a2 a3
theorem VF_refl : VF s C C := fun _ _ _ _ _ => rfl
theorem n_58 (hc : q_C c) (hT : TKS r f n P M) (hf : t_by f n) (h0 : 0 ≤ k) (hk : k ≤ M) (hs : 0 ≤ s ∧ s < 40) (hz : C 6 s = 0)
    (kk : ∀ C' k' res, CX P M (p_b (p_va f n (P k)) fun v p => if tk f n p = 43 then p_b (p_nu f n 99 (nx f n p)) fun w p => .inr (((3, v, w), p_no), p) else if tk f n p = 45 then p_b (p_nu f n 99 (nx f n p)) fun w p => .inr (((3, v, -w), p_no), p) else .inr (((3, v, 0), p_no), p) : PX ((Int × Int × Int) × (Int × Int × Int))) k' res → (∀ w q, (p_b (p_va f n (P k)) fun v p => if tk f n p = 43 then p_b (p_nu f n 99 (nx f n p)) fun w p => .inr (((3, v, w), p_no), p) else if tk f n p = 45 then p_b (p_nu f n 99 (nx f n p)) fun w p => .inr (((3, v, -w), p_no), p) else .inr (((3, v, 0), p_no), p) : PX ((Int × Int × Int) × (Int × Int × Int))) = .inr (w, q) → VOK s C C' w) → Q (.inl (some (vi res))) bb (CS c C' r k' ar)) : qx sc (D + 1) 58 0 [vr 4, vi s, vn, vn] [] (0, 0) bb (CS c C r k ar) Q := by
  simp only [k58_0, k58_1, k58_4 hc, k58_7, k58_8, k58_9, k58_10, k58_11, k58_14 hc, k58_17, k58_18, k58_19, CS_at, CS_ar, CS_co, CS_6 hc, CS_7 hc, CS_8 hc, CSf hc, CSuf hc, CS_upat, CS_upar, c_nn, Int.toNat_natCast, c18_0, c18_1, c21_0, c21_1, qt_6, ql_6, qt_7, ql_7, qt_8, ql_8, qtc_18 hc, qlc_18 hc, qtc_21 hc, qlc_21 hc, CSg1 hc, CSu1 hc, qtc_1 hc, qlc_1 hc, CSg2 hc, CSu2 hc, qtc_2 hc, qlc_2 hc, CSg3 hc, CSu3 hc, qtc_3 hc, qlc_3 hc, CSg4 hc, CSu4 hc, qtc_4 hc, qlc_4 hc, CSg5 hc, CSu5 hc, qtc_5 hc, qlc_5 hc, CSg6 hc, CSu6 hc, qtc_6 hc, qlc_6 hc, CSg7 hc, CSu7 hc, qtc_7 hc, qlc_7 hc, CSg8 hc, CSu8 hc, qtc_8 hc, qlc_8 hc, CSg9 hc, CSu9 hc, qtc_9 hc, qlc_9 hc, CSg10 hc, CSu10 hc, qtc_10 hc, qlc_10 hc, CSg11 hc, CSu11 hc, qtc_11 hc, qlc_11 hc, CSg12 hc, CSu12 hc, qtc_12 hc, qlc_12 hc, CSg13 hc, CSu13 hc, qtc_13 hc, qlc_13 hc, CSg14 hc, CSu14 hc, qtc_14 hc, qlc_14 hc, CSg15 hc, CSu15 hc, qtc_15 hc, qlc_15 hc, CSg17 hc, CSu17 hc, qtc_17 hc, qlc_17 hc, CSg19 hc, CSu19 hc, qtc_19 hc, qlc_19 hc, CSg20 hc, CSu20 hc, qtc_20 hc, qlc_20 hc, CSg22 hc, CSu22 hc, qtc_22 hc, qlc_22 hc, CSg23 hc, CSu23 hc, qtc_23 hc, qlc_23 hc, true_implies, false_implies, not_true_eq_false, not_false_eq_true, true_and, and_true, implies_true, or_true, true_or, or_false, false_or, Int.reduceEq, Int.one_ne_zero, Nat.reduceEqDiff]
  refine ⟨hs, ?_⟩
  refine n_57 hc hT hf h0 hk (fun t1 k1 e1 => ?_) (fun t1 => ?_)
  · have x1 : p_va f n (P k) = .inr (tk f n (P k) - 97, P (k + 1)) := by unfold p_va; rw [if_pos t1, e1]
    have z1 : ¬ tk f n (P k) - 97 = -1 := by omega
    obtain ⟨-, h6, -, -⟩ := hT.2.2.1 (k + 1) (by omega) k1
    have hM := hT.2.1
    rw [x1] at kk
    simp only [p_b_inr] at kk
    generalize hv : tk f n (P k) - 97 = v at *
    -- a number behind a sign
    have num : ∀ tn, (tn = 1 ∨ tn = -1) → k + 1 + 1 ≤ M → (∀ C' k' res, CX P M (p_b (p_nu f n 99 (P (k + 1 + 1))) fun w p => .inr (((3, v, tn * w), p_no), p) : PX ((Int × Int × Int) × (Int × Int × Int))) k' res → (∀ w q, (p_b (p_nu f n 99 (P (k + 1 + 1))) fun w p => .inr (((3, v, tn * w), p_no), p) : PX ((Int × Int × Int) × (Int × Int × Int))) = .inr (w, q) → VOK s C C' w) → Q (.inl (some (vi res))) bb (CS c C' r k' ar)) → qx sc (D + 1) 58 81 [vr 4, vi s, vi tn, vn] [] (0, 0) bb (CS c (q_up (q_up C 4 s 3) 5 s v) r (k + 1 + 1) ar) Q := by
      intro tn ht k2 kq
      simp only [k58_81, k58_82, k58_84]
      obtain ⟨-, -, -, hp⟩ := hT.2.2.1 (k + 1 + 1) (by omega) k2
      refine n_43 hc hT (by omega) k2 (fun t3 k3 e3 => ?_) (fun t3 => ?_)
      · have x3 : p_nu f n 99 (P (k + 1 + 1)) = .inr (tw f n (P (k + 1 + 1)), P (k + 1 + 1 + 1)) := by unfold p_nu; rw [if_pos t3, e3]
        have hn := (tk_num hf hp).mp t3.1
        have htw := tw_range (n := n) hn.1 hn.2.1
        have z : ¬ tw f n (P (k + 1 + 1)) = -1 := by omega
        have rg : q_R (tn * tw f n (P (k + 1 + 1))) := by rcases ht with rfl | rfl <;> constructor <;> omega
        rw [x3] at kq
        simp only [p_b_inr] at kq
        simp only [q_kn_v, k58_87, k58_88, k58_89, k58_92 hc, k58_95, k58_96, k58_97, k58_98, k58_99, k58_100, k58_101, k58_102, k58_105, k58_106, k58_109, k58_110, CS_at, CS_ar, CS_co, CS_6 hc, CS_7 hc, CS_8 hc, CSf hc, CSuf hc, CS_upat, CS_upar, c_nn, Int.toNat_natCast, c18_0, c18_1, c21_0, c21_1, qt_6, ql_6, qt_7, ql_7, qt_8, ql_8, qtc_18 hc, qlc_18 hc, qtc_21 hc, qlc_21 hc, CSg1 hc, CSu1 hc, qtc_1 hc, qlc_1 hc, CSg2 hc, CSu2 hc, qtc_2 hc, qlc_2 hc, CSg3 hc, CSu3 hc, qtc_3 hc, qlc_3 hc, CSg4 hc, CSu4 hc, qtc_4 hc, qlc_4 hc, CSg5 hc, CSu5 hc, qtc_5 hc, qlc_5 hc, CSg6 hc, CSu6 hc, qtc_6 hc, qlc_6 hc, CSg7 hc, CSu7 hc, qtc_7 hc, qlc_7 hc, CSg8 hc, CSu8 hc, qtc_8 hc, qlc_8 hc, CSg9 hc, CSu9 hc, qtc_9 hc, qlc_9 hc, CSg10 hc, CSu10 hc, qtc_10 hc, qlc_10 hc, CSg11 hc, CSu11 hc, qtc_11 hc, qlc_11 hc, CSg12 hc, CSu12 hc, qtc_12 hc, qlc_12 hc, CSg13 hc, CSu13 hc, qtc_13 hc, qlc_13 hc, CSg14 hc, CSu14 hc, qtc_14 hc, qlc_14 hc, CSg15 hc, CSu15 hc, qtc_15 hc, qlc_15 hc, CSg17 hc, CSu17 hc, qtc_17 hc, qlc_17 hc, CSg19 hc, CSu19 hc, qtc_19 hc, qlc_19 hc, CSg20 hc, CSu20 hc, qtc_20 hc, qlc_20 hc, CSg22 hc, CSu22 hc, qtc_22 hc, qlc_22 hc, CSg23 hc, CSu23 hc, qtc_23 hc, qlc_23 hc, z, true_implies, false_implies, not_true_eq_false, not_false_eq_true, true_and, and_true, implies_true, or_true, true_or, or_false, false_or, Int.reduceEq, Int.one_ne_zero, Nat.reduceEqDiff]
        refine ⟨rg, hs, ?_⟩
        refine kq _ _ _ ⟨by omega, k3, rfl, rfl⟩ (fun w q h => ?_)
        cases h
        refine ⟨?_, ?_, ?_, Or.inl ⟨rfl, ?_, ?_⟩, VF_up (VF_up (VF_up VF_refl (Or.inl (by omega))) (Or.inl (by omega))) (Or.inl (by omega))⟩ <;> simp only [q_up_eq, q_up_ne, q_up_ne2, q_upf_ne, q_upf_eq, not_false_eq_true, Nat.reduceEqDiff]
      · have x3 : p_nu f n 99 (P (k + 1 + 1)) = .inl (P (k + 1 + 1)) := by unfold p_nu; rw [if_neg t3]
        have rg : q_R (tn * -1) := by rcases ht with rfl | rfl <;> constructor <;> omega
        rw [x3] at kq
        simp only [q_kn_v, k58_87, k58_88, k58_89, k58_92 hc, k58_95, k58_96, k58_97, k58_98, k58_99, k58_100, k58_101, k58_102, k58_105, k58_106, k58_109, k58_110, CS_at, CS_ar, CS_co, CS_6 hc, CS_7 hc, CS_8 hc, CSf hc, CSuf hc, CS_upat, CS_upar, c_nn, Int.toNat_natCast, c18_0, c18_1, c21_0, c21_1, qt_6, ql_6, qt_7, ql_7, qt_8, ql_8, qtc_18 hc, qlc_18 hc, qtc_21 hc, qlc_21 hc, CSg1 hc, CSu1 hc, qtc_1 hc, qlc_1 hc, CSg2 hc, CSu2 hc, qtc_2 hc, qlc_2 hc, CSg3 hc, CSu3 hc, qtc_3 hc, qlc_3 hc, CSg4 hc, CSu4 hc, qtc_4 hc, qlc_4 hc, CSg5 hc, CSu5 hc, qtc_5 hc, qlc_5 hc, CSg6 hc, CSu6 hc, qtc_6 hc, qlc_6 hc, CSg7 hc, CSu7 hc, qtc_7 hc, qlc_7 hc, CSg8 hc, CSu8 hc, qtc_8 hc, qlc_8 hc, CSg9 hc, CSu9 hc, qtc_9 hc, qlc_9 hc, CSg10 hc, CSu10 hc, qtc_10 hc, qlc_10 hc, CSg11 hc, CSu11 hc, qtc_11 hc, qlc_11 hc, CSg12 hc, CSu12 hc, qtc_12 hc, qlc_12 hc, CSg13 hc, CSu13 hc, qtc_13 hc, qlc_13 hc, CSg14 hc, CSu14 hc, qtc_14 hc, qlc_14 hc, CSg15 hc, CSu15 hc, qtc_15 hc, qlc_15 hc, CSg17 hc, CSu17 hc, qtc_17 hc, qlc_17 hc, CSg19 hc, CSu19 hc, qtc_19 hc, qlc_19 hc, CSg20 hc, CSu20 hc, qtc_20 hc, qlc_20 hc, CSg22 hc, CSu22 hc, qtc_22 hc, qlc_22 hc, CSg23 hc, CSu23 hc, qtc_23 hc, qlc_23 hc, true_implies, false_implies, not_true_eq_false, not_false_eq_true, true_and, and_true, implies_true, or_true, true_or, or_false, false_or, Int.reduceEq, Int.one_ne_zero, Nat.reduceEqDiff]
        refine ⟨rg, hs, ?_⟩
        exact kq _ _ _ ⟨by omega, k2, rfl, rfl⟩ (fun w q h => by cases h)
    simp only [q_kn_v, k58_22, k58_23, k58_24, k58_27 hc, k58_30, k58_31, k58_32, k58_33, k58_36, k58_37, k58_38, k58_39, k58_42, k58_45, k58_46, k58_49, k58_50, k58_52, k58_55, k58_56, k58_59, k58_60, k58_61, k58_62, k58_64, CS_at, CS_ar, CS_co, CS_6 hc, CS_7 hc, CS_8 hc, CSf hc, CSuf hc, CS_upat, CS_upar, c_nn, Int.toNat_natCast, c18_0, c18_1, c21_0, c21_1, qt_6, ql_6, qt_7, ql_7, qt_8, ql_8, qtc_18 hc, qlc_18 hc, qtc_21 hc, qlc_21 hc, CSg1 hc, CSu1 hc, qtc_1 hc, qlc_1 hc, CSg2 hc, CSu2 hc, qtc_2 hc, qlc_2 hc, CSg3 hc, CSu3 hc, qtc_3 hc, qlc_3 hc, CSg4 hc, CSu4 hc, qtc_4 hc, qlc_4 hc, CSg5 hc, CSu5 hc, qtc_5 hc, qlc_5 hc, CSg6 hc, CSu6 hc, qtc_6 hc, qlc_6 hc, CSg7 hc, CSu7 hc, qtc_7 hc, qlc_7 hc, CSg8 hc, CSu8 hc, qtc_8 hc, qlc_8 hc, CSg9 hc, CSu9 hc, qtc_9 hc, qlc_9 hc, CSg10 hc, CSu10 hc, qtc_10 hc, qlc_10 hc, CSg11 hc, CSu11 hc, qtc_11 hc, qlc_11 hc, CSg12 hc, CSu12 hc, qtc_12 hc, qlc_12 hc, CSg13 hc, CSu13 hc, qtc_13 hc, qlc_13 hc, CSg14 hc, CSu14 hc, qtc_14 hc, qlc_14 hc, CSg15 hc, CSu15 hc, qtc_15 hc, qlc_15 hc, CSg17 hc, CSu17 hc, qtc_17 hc, qlc_17 hc, CSg19 hc, CSu19 hc, qtc_19 hc, qlc_19 hc, CSg20 hc, CSu20 hc, qtc_20 hc, qlc_20 hc, CSg22 hc, CSu22 hc, qtc_22 hc, qlc_22 hc, CSg23 hc, CSu23 hc, qtc_23 hc, qlc_23 hc, q_up_eq, q_up_ne, q_up_ne2, q_upf_ne, q_upf_eq, not_false_eq_true, h6, z1, true_implies, false_implies, not_true_eq_false, not_false_eq_true, true_and, and_true, implies_true, or_true, true_or, or_false, false_or, Int.reduceEq, Int.one_ne_zero, Nat.reduceEqDiff]
    refine ⟨hs, hs, by omega, fun t2 => ?_, fun t2 => ?_⟩
    · rw [if_pos t2] at kk
      refine n_51 hc hT (by omega) k1 (by decide) (fun _ k2 e2 => ?_) (fun h => absurd t2 h)
      simp only [q_kn_v, k58_67, true_implies, false_implies, not_true_eq_false, not_false_eq_true, true_and, and_true, implies_true, or_true, true_or, or_false, false_or, Int.reduceEq, Int.one_ne_zero, Nat.reduceEqDiff]
      rw [← e2] at kk
      refine num 1 (Or.inl rfl) k2 (fun C' k' res a1 a2 => kk C' k' res ?_ (fun w q h => a2 w q ?_))
      · simp only [Int.one_mul] at a1; exact a1
      · simp only [Int.one_mul]; exact h
    · rw [if_neg t2] at kk
      refine n_51 hc hT (by omega) k1 (by decide) (fun h _ _ => absurd h t2) (fun _ => ?_)
      simp only [q_kn_v, k58_67, k58_70, k58_71, k58_73, true_implies, false_implies, not_true_eq_false, not_false_eq_true, true_and, and_true, implies_true, or_true, true_or, or_false, false_or, Int.reduceEq, Int.one_ne_zero, Nat.reduceEqDiff]
      refine n_51 hc hT (by omega) k1 (by decide) (fun t3 k2 e2 => ?_) (fun t3 => ?_)
      · rw [if_pos t3, ← e2] at kk
        simp only [q_kn_v, k58_76, true_implies, false_implies, not_true_eq_false, not_false_eq_true, true_and, and_true, implies_true, or_true, true_or, or_false, false_or, Int.reduceEq, Int.one_ne_zero, Nat.reduceEqDiff]
        refine num (-1) (Or.inr rfl) k2 (fun C' k' res a1 a2 => kk C' k' res ?_ (fun w q h => a2 w q ?_))
        · simp only [Int.neg_mul, Int.one_mul] at a1; exact a1
        · simp only [Int.neg_mul, Int.one_mul]; exact h
      · rw [if_neg t3] at kk
        simp only [q_kn_v, k58_76, k58_79, k58_80, true_implies, false_implies, not_true_eq_false, not_false_eq_true, true_and, and_true, implies_true, or_true, true_or, or_false, false_or, Int.reduceEq, Int.one_ne_zero, Nat.reduceEqDiff]
        refine kk _ _ _ ⟨by omega, k1, rfl, rfl⟩ (fun w q h => ?_)
        cases h
        refine ⟨?_, ?_, ?_, Or.inl ⟨rfl, ?_, ?_⟩, VF_up (VF_up VF_refl (Or.inl (by omega))) (Or.inl (by omega))⟩ <;> simp only [q_up_eq, q_up_ne, q_up_ne2, q_upf_ne, q_upf_eq, not_false_eq_true, Nat.reduceEqDiff]
        exact hz
  · have x1 : p_va f n (P k) = .inl (P k) := by unfold p_va; rw [if_neg t1]
    rw [x1] at kk
    simp only [q_kn_v, k58_22, k58_23, k58_24, k58_27 hc, k58_30, k58_31, k58_32, k58_33, k58_36, k58_37, CS_at, CS_ar, CS_co, CS_6 hc, CS_7 hc, CS_8 hc, CSf hc, CSuf hc, CS_upat, CS_upar, c_nn, Int.toNat_natCast, c18_0, c18_1, c21_0, c21_1, qt_6, ql_6, qt_7, ql_7, qt_8, ql_8, qtc_18 hc, qlc_18 hc, qtc_21 hc, qlc_21 hc, CSg1 hc, CSu1 hc, qtc_1 hc, qlc_1 hc, CSg2 hc, CSu2 hc, qtc_2 hc, qlc_2 hc, CSg3 hc, CSu3 hc, qtc_3 hc, qlc_3 hc, CSg4 hc, CSu4 hc, qtc_4 hc, qlc_4 hc, CSg5 hc, CSu5 hc, qtc_5 hc, qlc_5 hc, CSg6 hc, CSu6 hc, qtc_6 hc, qlc_6 hc, CSg7 hc, CSu7 hc, qtc_7 hc, qlc_7 hc, CSg8 hc, CSu8 hc, qtc_8 hc, qlc_8 hc, CSg9 hc, CSu9 hc, qtc_9 hc, qlc_9 hc, CSg10 hc, CSu10 hc, qtc_10 hc, qlc_10 hc, CSg11 hc, CSu11 hc, qtc_11 hc, qlc_11 hc, CSg12 hc, CSu12 hc, qtc_12 hc, qlc_12 hc, CSg13 hc, CSu13 hc, qtc_13 hc, qlc_13 hc, CSg14 hc, CSu14 hc, qtc_14 hc, qlc_14 hc, CSg15 hc, CSu15 hc, qtc_15 hc, qlc_15 hc, CSg17 hc, CSu17 hc, qtc_17 hc, qlc_17 hc, CSg19 hc, CSu19 hc, qtc_19 hc, qlc_19 hc, CSg20 hc, CSu20 hc, qtc_20 hc, qlc_20 hc, CSg22 hc, CSu22 hc, qtc_22 hc, qlc_22 hc, CSg23 hc, CSu23 hc, qtc_23 hc, qlc_23 hc, q_up_eq, q_up_ne, q_up_ne2, q_upf_ne, q_upf_eq, not_false_eq_true, true_implies, false_implies, not_true_eq_false, not_false_eq_true, true_and, and_true, implies_true, or_true, true_or, or_false, false_or, Int.reduceEq, Int.one_ne_zero, Nat.reduceEqDiff]
    refine ⟨hs, hs, ?_⟩
    exact kk _ _ _ ⟨h0, hk, rfl, rfl⟩ (fun w q h => by cases h)
theorem n_56 (hc : q_C c) (hT : TKS r f n P M) (hf : t_by f n) (hpl : ∀ i, i = 0 ∨ i = 1 ∨ i = 2 → C 1 i = pl i) (h0 : 0 ≤ k) (hk : k ≤ M) (hs : 0 ≤ s ∧ s < 40) (hck : 0 ≤ C 0 1 ∧ C 0 1 < 40) (hz : C 6 s = 0) (hz5 : C 5 s = -1)
    (kk : ∀ C' k' res, CX P M (p_vl f n pl (P k)) k' res → (∀ w q, p_vl f n pl (P k) = .inr (w, q) → VOK s C C' w) → Q (.inl (some (vi res))) bb (CS c C' r k' ar)) : qx sc (D + 2) 56 0 [vr 4, vi s] [] (0, 0) bb (CS c C r k ar) Q := by
  obtain ⟨-, h6, -, hp⟩ := hT.2.2.1 k h0 hk
  have hM := hT.2.1
  simp only [k56_0, k56_1, k56_4, k56_7, k56_8, k56_11, CS_at, CS_ar, CS_co, CS_6 hc, CS_7 hc, CS_8 hc, CSf hc, CSuf hc, CS_upat, CS_upar, c_nn, Int.toNat_natCast, c18_0, c18_1, c21_0, c21_1, qt_6, ql_6, qt_7, ql_7, qt_8, ql_8, qtc_18 hc, qlc_18 hc, qtc_21 hc, qlc_21 hc, CSg1 hc, CSu1 hc, qtc_1 hc, qlc_1 hc, CSg2 hc, CSu2 hc, qtc_2 hc, qlc_2 hc, CSg3 hc, CSu3 hc, qtc_3 hc, qlc_3 hc, CSg4 hc, CSu4 hc, qtc_4 hc, qlc_4 hc, CSg5 hc, CSu5 hc, qtc_5 hc, qlc_5 hc, CSg6 hc, CSu6 hc, qtc_6 hc, qlc_6 hc, CSg7 hc, CSu7 hc, qtc_7 hc, qlc_7 hc, CSg8 hc, CSu8 hc, qtc_8 hc, qlc_8 hc, CSg9 hc, CSu9 hc, qtc_9 hc, qlc_9 hc, CSg10 hc, CSu10 hc, qtc_10 hc, qlc_10 hc, CSg11 hc, CSu11 hc, qtc_11 hc, qlc_11 hc, CSg12 hc, CSu12 hc, qtc_12 hc, qlc_12 hc, CSg13 hc, CSu13 hc, qtc_13 hc, qlc_13 hc, CSg14 hc, CSu14 hc, qtc_14 hc, qlc_14 hc, CSg15 hc, CSu15 hc, qtc_15 hc, qlc_15 hc, CSg17 hc, CSu17 hc, qtc_17 hc, qlc_17 hc, CSg19 hc, CSu19 hc, qtc_19 hc, qlc_19 hc, CSg20 hc, CSu20 hc, qtc_20 hc, qlc_20 hc, CSg22 hc, CSu22 hc, qtc_22 hc, qlc_22 hc, CSg23 hc, CSu23 hc, qtc_23 hc, qlc_23 hc, h6, true_implies, false_implies, not_true_eq_false, not_false_eq_true, true_and, and_true, implies_true, or_true, true_or, or_false, false_or, Int.reduceEq, Int.one_ne_zero, Nat.reduceEqDiff]
  refine ⟨by omega, ?_⟩
  unfold p_vl at kk
  refine k56_sw (fun t1 => ?_) (fun t1 => ?_) (fun t1 => ?_) (fun t1 => ?_) (fun t1 => ?_) (fun a1 a2 a3 a4 a5 => ?_)
  · obtain ⟨k1, e1, -⟩ := TKS_lt hT h0 hk (by omega)
    rw [if_neg (by omega), if_neg (by omega), if_pos t1, ← e1] at kk
    simp only [k56_104, k56_105, k56_106, k56_109, k56_110, k56_111, k56_114, k56_115, k56_118 hc, k56_121, k56_122, k56_123, k56_124, k56_125, k56_128 hc, k56_131, k56_132, k56_133, CS_at, CS_ar, CS_co, CS_6 hc, CS_7 hc, CS_8 hc, CSf hc, CSuf hc, CS_upat, CS_upar, c_nn, Int.toNat_natCast, c18_0, c18_1, c21_0, c21_1, qt_6, ql_6, qt_7, ql_7, qt_8, ql_8, qtc_18 hc, qlc_18 hc, qtc_21 hc, qlc_21 hc, CSg1 hc, CSu1 hc, qtc_1 hc, qlc_1 hc, CSg2 hc, CSu2 hc, qtc_2 hc, qlc_2 hc, CSg3 hc, CSu3 hc, qtc_3 hc, qlc_3 hc, CSg4 hc, CSu4 hc, qtc_4 hc, qlc_4 hc, CSg5 hc, CSu5 hc, qtc_5 hc, qlc_5 hc, CSg6 hc, CSu6 hc, qtc_6 hc, qlc_6 hc, CSg7 hc, CSu7 hc, qtc_7 hc, qlc_7 hc, CSg8 hc, CSu8 hc, qtc_8 hc, qlc_8 hc, CSg9 hc, CSu9 hc, qtc_9 hc, qlc_9 hc, CSg10 hc, CSu10 hc, qtc_10 hc, qlc_10 hc, CSg11 hc, CSu11 hc, qtc_11 hc, qlc_11 hc, CSg12 hc, CSu12 hc, qtc_12 hc, qlc_12 hc, CSg13 hc, CSu13 hc, qtc_13 hc, qlc_13 hc, CSg14 hc, CSu14 hc, qtc_14 hc, qlc_14 hc, CSg15 hc, CSu15 hc, qtc_15 hc, qlc_15 hc, CSg17 hc, CSu17 hc, qtc_17 hc, qlc_17 hc, CSg19 hc, CSu19 hc, qtc_19 hc, qlc_19 hc, CSg20 hc, CSu20 hc, qtc_20 hc, qlc_20 hc, CSg22 hc, CSu22 hc, qtc_22 hc, qlc_22 hc, CSg23 hc, CSu23 hc, qtc_23 hc, qlc_23 hc, true_implies, false_implies, not_true_eq_false, not_false_eq_true, true_and, and_true, implies_true, or_true, true_or, or_false, false_or, Int.reduceEq, Int.one_ne_zero, Nat.reduceEqDiff]
    refine ⟨by omega, hs, ?_⟩
    refine n_55 (pl := pl) hc hT hf (fun i hi => by rw [q_up_ne _ _ _ _ (by decide)]; exact hpl i hi) (by omega) k1 (fun t2 k2 e2 => ?_) (fun t2 => ?_)
    · have x2 : p_ro f n pl (P (k + 1)) = .inr (tk f n (P (k + 1)) - 65, P (k + 1 + 1)) := by unfold p_ro; rw [if_pos t2, e2]
      have z : ¬ tk f n (P (k + 1)) - 65 = -1 := by omega
      rw [x2] at kk
      simp only [p_b_inr] at kk
      simp only [q_kn_v, k56_136, k56_137, k56_138, k56_141 hc, k56_144, k56_145, k56_146, k56_147, k56_150, k56_151, k56_154, k56_155, CS_at, CS_ar, CS_co, CS_6 hc, CS_7 hc, CS_8 hc, CSf hc, CSuf hc, CS_upat, CS_upar, c_nn, Int.toNat_natCast, c18_0, c18_1, c21_0, c21_1, qt_6, ql_6, qt_7, ql_7, qt_8, ql_8, qtc_18 hc, qlc_18 hc, qtc_21 hc, qlc_21 hc, CSg1 hc, CSu1 hc, qtc_1 hc, qlc_1 hc, CSg2 hc, CSu2 hc, qtc_2 hc, qlc_2 hc, CSg3 hc, CSu3 hc, qtc_3 hc, qlc_3 hc, CSg4 hc, CSu4 hc, qtc_4 hc, qlc_4 hc, CSg5 hc, CSu5 hc, qtc_5 hc, qlc_5 hc, CSg6 hc, CSu6 hc, qtc_6 hc, qlc_6 hc, CSg7 hc, CSu7 hc, qtc_7 hc, qlc_7 hc, CSg8 hc, CSu8 hc, qtc_8 hc, qlc_8 hc, CSg9 hc, CSu9 hc, qtc_9 hc, qlc_9 hc, CSg10 hc, CSu10 hc, qtc_10 hc, qlc_10 hc, CSg11 hc, CSu11 hc, qtc_11 hc, qlc_11 hc, CSg12 hc, CSu12 hc, qtc_12 hc, qlc_12 hc, CSg13 hc, CSu13 hc, qtc_13 hc, qlc_13 hc, CSg14 hc, CSu14 hc, qtc_14 hc, qlc_14 hc, CSg15 hc, CSu15 hc, qtc_15 hc, qlc_15 hc, CSg17 hc, CSu17 hc, qtc_17 hc, qlc_17 hc, CSg19 hc, CSu19 hc, qtc_19 hc, qlc_19 hc, CSg20 hc, CSu20 hc, qtc_20 hc, qlc_20 hc, CSg22 hc, CSu22 hc, qtc_22 hc, qlc_22 hc, CSg23 hc, CSu23 hc, qtc_23 hc, qlc_23 hc, q_up_eq, q_up_ne, q_up_ne2, q_upf_ne, q_upf_eq, not_false_eq_true, z, true_implies, false_implies, not_true_eq_false, not_false_eq_true, true_and, and_true, implies_true, or_true, true_or, or_false, false_or, Int.reduceEq, Int.one_ne_zero, Nat.reduceEqDiff]
      refine ⟨hs, hs, ?_⟩
      refine kk _ _ _ ⟨by omega, k2, rfl, rfl⟩ (fun w q h => ?_)
      cases h
      refine ⟨?_, ?_, ?_, Or.inl ⟨rfl, ?_, ?_⟩, VF_up (VF_up VF_refl (Or.inl (by omega))) (Or.inl (by omega))⟩ <;> simp only [q_up_eq, q_up_ne, q_up_ne2, q_upf_ne, q_upf_eq, not_false_eq_true, Nat.reduceEqDiff]
      exact hz
    · have x2 : p_ro f n pl (P (k + 1)) = .inl (P (k + 1)) := by unfold p_ro; rw [if_neg t2]
      rw [x2] at kk
      simp only [q_kn_v, k56_136, k56_137, k56_138, k56_141 hc, k56_144, k56_145, k56_146, k56_147, k56_150, k56_151, k56_154, k56_155, CS_at, CS_ar, CS_co, CS_6 hc, CS_7 hc, CS_8 hc, CSf hc, CSuf hc, CS_upat, CS_upar, c_nn, Int.toNat_natCast, c18_0, c18_1, c21_0, c21_1, qt_6, ql_6, qt_7, ql_7, qt_8, ql_8, qtc_18 hc, qlc_18 hc, qtc_21 hc, qlc_21 hc, CSg1 hc, CSu1 hc, qtc_1 hc, qlc_1 hc, CSg2 hc, CSu2 hc, qtc_2 hc, qlc_2 hc, CSg3 hc, CSu3 hc, qtc_3 hc, qlc_3 hc, CSg4 hc, CSu4 hc, qtc_4 hc, qlc_4 hc, CSg5 hc, CSu5 hc, qtc_5 hc, qlc_5 hc, CSg6 hc, CSu6 hc, qtc_6 hc, qlc_6 hc, CSg7 hc, CSu7 hc, qtc_7 hc, qlc_7 hc, CSg8 hc, CSu8 hc, qtc_8 hc, qlc_8 hc, CSg9 hc, CSu9 hc, qtc_9 hc, qlc_9 hc, CSg10 hc, CSu10 hc, qtc_10 hc, qlc_10 hc, CSg11 hc, CSu11 hc, qtc_11 hc, qlc_11 hc, CSg12 hc, CSu12 hc, qtc_12 hc, qlc_12 hc, CSg13 hc, CSu13 hc, qtc_13 hc, qlc_13 hc, CSg14 hc, CSu14 hc, qtc_14 hc, qlc_14 hc, CSg15 hc, CSu15 hc, qtc_15 hc, qlc_15 hc, CSg17 hc, CSu17 hc, qtc_17 hc, qlc_17 hc, CSg19 hc, CSu19 hc, qtc_19 hc, qlc_19 hc, CSg20 hc, CSu20 hc, qtc_20 hc, qlc_20 hc, CSg22 hc, CSu22 hc, qtc_22 hc, qlc_22 hc, CSg23 hc, CSu23 hc, qtc_23 hc, qlc_23 hc, q_up_eq, q_up_ne, q_up_ne2, q_upf_ne, q_upf_eq, not_false_eq_true, true_implies, false_implies, not_true_eq_false, not_false_eq_true, true_and, and_true, implies_true, or_true, true_or, or_false, false_or, Int.reduceEq, Int.one_ne_zero, Nat.reduceEqDiff]
      refine ⟨hs, hs, ?_⟩
      exact kk _ _ _ ⟨by omega, k1, rfl, rfl⟩ (fun w q h => by cases h)
  · obtain ⟨k1, e1, -⟩ := TKS_lt hT h0 hk (by omega)
    rw [if_neg (by omega), if_pos t1, ← e1] at kk
    simp only [k56_87, k56_88, k56_89, k56_92, k56_93, k56_94, k56_97, k56_98, k56_99, k56_100, CS_at, CS_ar, CS_co, CS_6 hc, CS_7 hc, CS_8 hc, CSf hc, CSuf hc, CS_upat, CS_upar, c_nn, Int.toNat_natCast, c18_0, c18_1, c21_0, c21_1, qt_6, ql_6, qt_7, ql_7, qt_8, ql_8, qtc_18 hc, qlc_18 hc, qtc_21 hc, qlc_21 hc, CSg1 hc, CSu1 hc, qtc_1 hc, qlc_1 hc, CSg2 hc, CSu2 hc, qtc_2 hc, qlc_2 hc, CSg3 hc, CSu3 hc, qtc_3 hc, qlc_3 hc, CSg4 hc, CSu4 hc, qtc_4 hc, qlc_4 hc, CSg5 hc, CSu5 hc, qtc_5 hc, qlc_5 hc, CSg6 hc, CSu6 hc, qtc_6 hc, qlc_6 hc, CSg7 hc, CSu7 hc, qtc_7 hc, qlc_7 hc, CSg8 hc, CSu8 hc, qtc_8 hc, qlc_8 hc, CSg9 hc, CSu9 hc, qtc_9 hc, qlc_9 hc, CSg10 hc, CSu10 hc, qtc_10 hc, qlc_10 hc, CSg11 hc, CSu11 hc, qtc_11 hc, qlc_11 hc, CSg12 hc, CSu12 hc, qtc_12 hc, qlc_12 hc, CSg13 hc, CSu13 hc, qtc_13 hc, qlc_13 hc, CSg14 hc, CSu14 hc, qtc_14 hc, qlc_14 hc, CSg15 hc, CSu15 hc, qtc_15 hc, qlc_15 hc, CSg17 hc, CSu17 hc, qtc_17 hc, qlc_17 hc, CSg19 hc, CSu19 hc, qtc_19 hc, qlc_19 hc, CSg20 hc, CSu20 hc, qtc_20 hc, qlc_20 hc, CSg22 hc, CSu22 hc, qtc_22 hc, qlc_22 hc, CSg23 hc, CSu23 hc, qtc_23 hc, qlc_23 hc, true_implies, false_implies, not_true_eq_false, not_false_eq_true, true_and, and_true, implies_true, or_true, true_or, or_false, false_or, Int.reduceEq, Int.one_ne_zero, Nat.reduceEqDiff]
    refine ⟨by omega, ?_⟩
    refine n_44 hc hT hf (by omega) k1 hs (Or.inr rfl) (fun C1 k2 res x1 v1 => ?_)
    generalize p_nu f n 99 (P (k + 1)) = Y at *
    rcases Y with y | ⟨y, z⟩
    · obtain ⟨b1, b2, rfl, b4⟩ := x1
      simp only [q_kn_v, k56_103, true_implies, false_implies, not_true_eq_false, not_false_eq_true, true_and, and_true, implies_true, or_true, true_or, or_false, false_or, Int.reduceEq, Int.one_ne_zero, Nat.reduceEqDiff]
      exact kk _ _ _ ⟨b1, b2, rfl, b4⟩ (fun w q h => by cases h)
    · obtain ⟨b1, b2, rfl, b4⟩ := x1
      simp only [q_kn_v, k56_103, true_implies, false_implies, not_true_eq_false, not_false_eq_true, true_and, and_true, implies_true, or_true, true_or, or_false, false_or, Int.reduceEq, Int.one_ne_zero, Nat.reduceEqDiff]
      simp only [p_b_inr] at kk
      refine kk _ _ _ ⟨b1, b2, rfl, b4⟩ (fun w q h => ?_)
      cases h
      rw [v1 y z rfl]
      refine ⟨?_, ?_, ?_, Or.inl ⟨rfl, ?_, ?_⟩, VF_up (VF_up VF_refl (Or.inl (by omega))) (Or.inl (by omega))⟩ <;> simp only [q_up_eq, q_up_ne, q_up_ne2, q_upf_ne, q_upf_eq, not_false_eq_true, Nat.reduceEqDiff]
      · exact hz5
      · omega
  · rw [if_neg (by omega), if_neg (by omega), if_neg (by omega), if_neg (by omega), if_pos t1] at kk
    simp only [k56_209, k56_210, k56_213 hc, k56_216, k56_217, k56_218, k56_219, k56_220, k56_221, CS_at, CS_ar, CS_co, CS_6 hc, CS_7 hc, CS_8 hc, CSf hc, CSuf hc, CS_upat, CS_upar, c_nn, Int.toNat_natCast, c18_0, c18_1, c21_0, c21_1, qt_6, ql_6, qt_7, ql_7, qt_8, ql_8, qtc_18 hc, qlc_18 hc, qtc_21 hc, qlc_21 hc, CSg1 hc, CSu1 hc, qtc_1 hc, qlc_1 hc, CSg2 hc, CSu2 hc, qtc_2 hc, qlc_2 hc, CSg3 hc, CSu3 hc, qtc_3 hc, qlc_3 hc, CSg4 hc, CSu4 hc, qtc_4 hc, qlc_4 hc, CSg5 hc, CSu5 hc, qtc_5 hc, qlc_5 hc, CSg6 hc, CSu6 hc, qtc_6 hc, qlc_6 hc, CSg7 hc, CSu7 hc, qtc_7 hc, qlc_7 hc, CSg8 hc, CSu8 hc, qtc_8 hc, qlc_8 hc, CSg9 hc, CSu9 hc, qtc_9 hc, qlc_9 hc, CSg10 hc, CSu10 hc, qtc_10 hc, qlc_10 hc, CSg11 hc, CSu11 hc, qtc_11 hc, qlc_11 hc, CSg12 hc, CSu12 hc, qtc_12 hc, qlc_12 hc, CSg13 hc, CSu13 hc, qtc_13 hc, qlc_13 hc, CSg14 hc, CSu14 hc, qtc_14 hc, qlc_14 hc, CSg15 hc, CSu15 hc, qtc_15 hc, qlc_15 hc, CSg17 hc, CSu17 hc, qtc_17 hc, qlc_17 hc, CSg19 hc, CSu19 hc, qtc_19 hc, qlc_19 hc, CSg20 hc, CSu20 hc, qtc_20 hc, qlc_20 hc, CSg22 hc, CSu22 hc, qtc_22 hc, qlc_22 hc, CSg23 hc, CSu23 hc, qtc_23 hc, qlc_23 hc, true_implies, false_implies, not_true_eq_false, not_false_eq_true, true_and, and_true, implies_true, or_true, true_or, or_false, false_or, Int.reduceEq, Int.one_ne_zero, Nat.reduceEqDiff]
    refine ⟨hs, ?_⟩
    refine n_42 (pl := pl) hc hT hf (fun i hi => by rw [q_up_ne _ _ _ _ (by decide)]; exact hpl i hi) h0 hk hs (by rw [q_up_ne _ _ _ _ (by decide)]; exact hck) (fun C1 k2 res x1 v1 => ?_)
    generalize p_el f n pl (P k) = Y at *
    rcases Y with y | ⟨y, z⟩
    · obtain ⟨b1, b2, rfl, b4⟩ := x1
      simp only [q_kn_v, k56_224, true_implies, false_implies, not_true_eq_false, not_false_eq_true, true_and, and_true, implies_true, or_true, true_or, or_false, false_or, Int.reduceEq, Int.one_ne_zero, Nat.reduceEqDiff]
      exact kk _ _ _ ⟨b1, b2, rfl, b4⟩ (fun w q h => by cases h)
    · obtain ⟨b1, b2, rfl, b4⟩ := x1
      simp only [q_kn_v, k56_224, true_implies, false_implies, not_true_eq_false, not_false_eq_true, true_and, and_true, implies_true, or_true, true_or, or_false, false_or, Int.reduceEq, Int.one_ne_zero, Nat.reduceEqDiff]
      simp only [p_b_inr] at kk
      refine kk _ _ _ ⟨b1, b2, rfl, b4⟩ (fun w q h => ?_)
      cases h
      obtain ⟨v1, -⟩ := v1 y z rfl
      rw [v1]
      unfold K_chk
      have z01 : q_up C 4 s 4 0 1 = C 0 1 := q_up_ne _ _ _ _ (by decide)
      rw [z01]
      refine ⟨?_, ?_, ?_, Or.inr ⟨rfl, ?_, ?_, ?_, ?_, ?_⟩, ?_⟩
      · simp only [q_up_eq, q_up_ne, q_up_ne2, q_upf_ne, q_upf_eq, not_false_eq_true, Nat.reduceEqDiff]
      · simp only [q_up_eq, q_up_ne, q_up_ne2, q_upf_ne, q_upf_eq, not_false_eq_true, Nat.reduceEqDiff]; exact hz5
      · simp only [q_up_eq, q_up_ne, q_up_ne2, q_upf_ne, q_upf_eq, not_false_eq_true, Nat.reduceEqDiff]; exact hz
      · simp only [q_up_eq, q_up_ne, q_up_ne2, q_upf_ne, q_upf_eq, not_false_eq_true, Nat.reduceEqDiff]
      · simp only [q_up_eq, q_up_ne, q_up_ne2, q_upf_ne, q_upf_eq, not_false_eq_true, Nat.reduceEqDiff]
      · simp only [q_up_eq, q_up_ne, q_up_ne2, q_upf_ne, q_upf_eq, not_false_eq_true, Nat.reduceEqDiff]
      · simp only [q_up_eq, q_up_ne, q_up_ne2, q_upf_ne, q_upf_eq, not_false_eq_true, Nat.reduceEqDiff]
      · simp only [q_up_eq, q_up_ne, q_up_ne2, q_upf_ne, q_upf_eq, not_false_eq_true, Nat.reduceEqDiff]
      · refine VF_up (VF_up (VF_up (VF_up (VF_up (VF_up VF_refl ?_) ?_) ?_) ?_) ?_) ?_ <;> omega
  · obtain ⟨k1, e1, -⟩ := TKS_lt hT h0 hk (by omega)
    rw [if_neg (by omega), if_neg (by omega), if_neg (by omega), if_pos t1, ← e1] at kk
    simp only [k56_156, k56_157, k56_158, k56_161, k56_162, k56_163, k56_166, k56_167, k56_170 hc, k56_173, k56_174, k56_175, k56_176, k56_177, k56_180 hc, k56_183, k56_184, k56_185, k56_186, CS_at, CS_ar, CS_co, CS_6 hc, CS_7 hc, CS_8 hc, CSf hc, CSuf hc, CS_upat, CS_upar, c_nn, Int.toNat_natCast, c18_0, c18_1, c21_0, c21_1, qt_6, ql_6, qt_7, ql_7, qt_8, ql_8, qtc_18 hc, qlc_18 hc, qtc_21 hc, qlc_21 hc, CSg1 hc, CSu1 hc, qtc_1 hc, qlc_1 hc, CSg2 hc, CSu2 hc, qtc_2 hc, qlc_2 hc, CSg3 hc, CSu3 hc, qtc_3 hc, qlc_3 hc, CSg4 hc, CSu4 hc, qtc_4 hc, qlc_4 hc, CSg5 hc, CSu5 hc, qtc_5 hc, qlc_5 hc, CSg6 hc, CSu6 hc, qtc_6 hc, qlc_6 hc, CSg7 hc, CSu7 hc, qtc_7 hc, qlc_7 hc, CSg8 hc, CSu8 hc, qtc_8 hc, qlc_8 hc, CSg9 hc, CSu9 hc, qtc_9 hc, qlc_9 hc, CSg10 hc, CSu10 hc, qtc_10 hc, qlc_10 hc, CSg11 hc, CSu11 hc, qtc_11 hc, qlc_11 hc, CSg12 hc, CSu12 hc, qtc_12 hc, qlc_12 hc, CSg13 hc, CSu13 hc, qtc_13 hc, qlc_13 hc, CSg14 hc, CSu14 hc, qtc_14 hc, qlc_14 hc, CSg15 hc, CSu15 hc, qtc_15 hc, qlc_15 hc, CSg17 hc, CSu17 hc, qtc_17 hc, qlc_17 hc, CSg19 hc, CSu19 hc, qtc_19 hc, qlc_19 hc, CSg20 hc, CSu20 hc, qtc_20 hc, qlc_20 hc, CSg22 hc, CSu22 hc, qtc_22 hc, qlc_22 hc, CSg23 hc, CSu23 hc, qtc_23 hc, qlc_23 hc, true_implies, false_implies, not_true_eq_false, not_false_eq_true, true_and, and_true, implies_true, or_true, true_or, or_false, false_or, Int.reduceEq, Int.one_ne_zero, Nat.reduceEqDiff]
    refine ⟨by omega, hs, ?_⟩
    obtain ⟨-, -, -, hp1⟩ := hT.2.2.1 (k + 1) (by omega) k1
    refine n_43 hc hT (by omega) k1 (fun t2 k2 e2 => ?_) (fun t2 => ?_)
    · have x2 : p_nu f n 2 (P (k + 1)) = .inr (tw f n (P (k + 1)), P (k + 1 + 1)) := by unfold p_nu; rw [if_pos t2, e2]
      have hn := (tk_num hf hp1).mp t2.1
      have htw := tw_range (n := n) hn.1 hn.2.1
      have z : ¬ tw f n (P (k + 1)) = -1 := by omega
      rw [x2] at kk
      simp only [p_b_inr] at kk
      simp only [q_kn_v, k56_189, k56_190, k56_191, k56_194 hc, k56_197, k56_198, k56_199, k56_200, k56_203, k56_204, k56_207, k56_208, CS_at, CS_ar, CS_co, CS_6 hc, CS_7 hc, CS_8 hc, CSf hc, CSuf hc, CS_upat, CS_upar, c_nn, Int.toNat_natCast, c18_0, c18_1, c21_0, c21_1, qt_6, ql_6, qt_7, ql_7, qt_8, ql_8, qtc_18 hc, qlc_18 hc, qtc_21 hc, qlc_21 hc, CSg1 hc, CSu1 hc, qtc_1 hc, qlc_1 hc, CSg2 hc, CSu2 hc, qtc_2 hc, qlc_2 hc, CSg3 hc, CSu3 hc, qtc_3 hc, qlc_3 hc, CSg4 hc, CSu4 hc, qtc_4 hc, qlc_4 hc, CSg5 hc, CSu5 hc, qtc_5 hc, qlc_5 hc, CSg6 hc, CSu6 hc, qtc_6 hc, qlc_6 hc, CSg7 hc, CSu7 hc, qtc_7 hc, qlc_7 hc, CSg8 hc, CSu8 hc, qtc_8 hc, qlc_8 hc, CSg9 hc, CSu9 hc, qtc_9 hc, qlc_9 hc, CSg10 hc, CSu10 hc, qtc_10 hc, qlc_10 hc, CSg11 hc, CSu11 hc, qtc_11 hc, qlc_11 hc, CSg12 hc, CSu12 hc, qtc_12 hc, qlc_12 hc, CSg13 hc, CSu13 hc, qtc_13 hc, qlc_13 hc, CSg14 hc, CSu14 hc, qtc_14 hc, qlc_14 hc, CSg15 hc, CSu15 hc, qtc_15 hc, qlc_15 hc, CSg17 hc, CSu17 hc, qtc_17 hc, qlc_17 hc, CSg19 hc, CSu19 hc, qtc_19 hc, qlc_19 hc, CSg20 hc, CSu20 hc, qtc_20 hc, qlc_20 hc, CSg22 hc, CSu22 hc, qtc_22 hc, qlc_22 hc, CSg23 hc, CSu23 hc, qtc_23 hc, qlc_23 hc, q_up_eq, q_up_ne, q_up_ne2, q_upf_ne, q_upf_eq, not_false_eq_true, z, true_implies, false_implies, not_true_eq_false, not_false_eq_true, true_and, and_true, implies_true, or_true, true_or, or_false, false_or, Int.reduceEq, Int.one_ne_zero, Nat.reduceEqDiff]
      refine ⟨hs, hs, ?_⟩
      refine kk _ _ _ ⟨by omega, k2, rfl, rfl⟩ (fun w q h => ?_)
      cases h
      refine ⟨?_, ?_, ?_, Or.inl ⟨rfl, ?_, ?_⟩, VF_up (VF_up VF_refl (Or.inl (by omega))) (Or.inl (by omega))⟩ <;> simp only [q_up_eq, q_up_ne, q_up_ne2, q_upf_ne, q_upf_eq, not_false_eq_true, Nat.reduceEqDiff]
      exact hz
    · have x2 : p_nu f n 2 (P (k + 1)) = .inl (P (k + 1)) := by unfold p_nu; rw [if_neg t2]
      rw [x2] at kk
      simp only [q_kn_v, k56_189, k56_190, k56_191, k56_194 hc, k56_197, k56_198, k56_199, k56_200, k56_203, k56_204, k56_207, k56_208, CS_at, CS_ar, CS_co, CS_6 hc, CS_7 hc, CS_8 hc, CSf hc, CSuf hc, CS_upat, CS_upar, c_nn, Int.toNat_natCast, c18_0, c18_1, c21_0, c21_1, qt_6, ql_6, qt_7, ql_7, qt_8, ql_8, qtc_18 hc, qlc_18 hc, qtc_21 hc, qlc_21 hc, CSg1 hc, CSu1 hc, qtc_1 hc, qlc_1 hc, CSg2 hc, CSu2 hc, qtc_2 hc, qlc_2 hc, CSg3 hc, CSu3 hc, qtc_3 hc, qlc_3 hc, CSg4 hc, CSu4 hc, qtc_4 hc, qlc_4 hc, CSg5 hc, CSu5 hc, qtc_5 hc, qlc_5 hc, CSg6 hc, CSu6 hc, qtc_6 hc, qlc_6 hc, CSg7 hc, CSu7 hc, qtc_7 hc, qlc_7 hc, CSg8 hc, CSu8 hc, qtc_8 hc, qlc_8 hc, CSg9 hc, CSu9 hc, qtc_9 hc, qlc_9 hc, CSg10 hc, CSu10 hc, qtc_10 hc, qlc_10 hc, CSg11 hc, CSu11 hc, qtc_11 hc, qlc_11 hc, CSg12 hc, CSu12 hc, qtc_12 hc, qlc_12 hc, CSg13 hc, CSu13 hc, qtc_13 hc, qlc_13 hc, CSg14 hc, CSu14 hc, qtc_14 hc, qlc_14 hc, CSg15 hc, CSu15 hc, qtc_15 hc, qlc_15 hc, CSg17 hc, CSu17 hc, qtc_17 hc, qlc_17 hc, CSg19 hc, CSu19 hc, qtc_19 hc, qlc_19 hc, CSg20 hc, CSu20 hc, qtc_20 hc, qlc_20 hc, CSg22 hc, CSu22 hc, qtc_22 hc, qlc_22 hc, CSg23 hc, CSu23 hc, qtc_23 hc, qlc_23 hc, q_up_eq, q_up_ne, q_up_ne2, q_upf_ne, q_upf_eq, not_false_eq_true, true_implies, false_implies, not_true_eq_false, not_false_eq_true, true_and, and_true, implies_true, or_true, true_or, or_false, false_or, Int.reduceEq, Int.one_ne_zero, Nat.reduceEqDiff]
      refine ⟨hs, hs, ?_⟩
      exact kk _ _ _ ⟨by omega, k1, rfl, rfl⟩ (fun w q h => by cases h)
  · rw [if_pos t1] at kk
    simp only [k56_80, k56_81, k56_82, k56_83]
    refine n_44 hc hT hf h0 hk hs (Or.inl rfl) (fun C1 k2 res x1 v1 => ?_)
    generalize p_nu f n 99 (P k) = Y at *
    rcases Y with y | ⟨y, z⟩
    · obtain ⟨b1, b2, rfl, b4⟩ := x1
      simp only [q_kn_v, k56_86, true_implies, false_implies, not_true_eq_false, not_false_eq_true, true_and, and_true, implies_true, or_true, true_or, or_false, false_or, Int.reduceEq, Int.one_ne_zero, Nat.reduceEqDiff]
      exact kk _ _ _ ⟨b1, b2, rfl, b4⟩ (fun w q h => by cases h)
    · obtain ⟨b1, b2, rfl, b4⟩ := x1
      simp only [q_kn_v, k56_86, true_implies, false_implies, not_true_eq_false, not_false_eq_true, true_and, and_true, implies_true, or_true, true_or, or_false, false_or, Int.reduceEq, Int.one_ne_zero, Nat.reduceEqDiff]
      simp only [p_b_inr] at kk
      refine kk _ _ _ ⟨b1, b2, rfl, b4⟩ (fun w q h => ?_)
      cases h
      rw [v1 y z rfl]
      refine ⟨?_, ?_, ?_, Or.inl ⟨rfl, ?_, ?_⟩, VF_up (VF_up VF_refl (Or.inl (by omega))) (Or.inl (by omega))⟩ <;> simp only [q_up_eq, q_up_ne, q_up_ne2, q_upf_ne, q_upf_eq, not_false_eq_true, Nat.reduceEqDiff]
      · exact hz5
      · omega
  · rw [if_neg a5, if_neg a2, if_neg a1, if_neg a4, if_neg a3] at kk
    simp only [k56_225, k56_226, k56_227]
    refine n_58 hc hT hf h0 hk hs hz (fun C1 k2 res x1 v1 => ?_)
    simp only [q_kn_v, k56_230]
    have hres : res = 0 ∨ res = 1 := by
      obtain ⟨-, -, x1⟩ := x1
      split at x1
      · exact Or.inl x1.1
      · exact Or.inr x1.1
    exact ⟨hres, kk _ _ _ x1 v1⟩
end CRF
