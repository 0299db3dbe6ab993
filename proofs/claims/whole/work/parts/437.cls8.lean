/-! a whole text in the class -/
section CRJ
variable {sc : Nat × (Nat → Int32)} {D N : Nat} {bb : Bool} {Q : QP} {c a : Nat} {σ r : St} {n M x lo hi : Int} {f P : Int → Int}
/-- Arrays.fill -/
theorem c249_l (ht : q_ty a = 0) (hn : q_ln a ≤ 100000) : ∀ (d : Nat) (i : Int) (σ : St), (q_ln a - i).toNat = d → 0 ≤ i → i ≤ q_ln a → Q (.inl none) bb (q_upf σ a (fun j => if i ≤ j ∧ j < q_ln a then x else σ a j)) → qx sc D 249 5 [vr a, vi x, vi i, vi (q_ln a)] [] (0, 0) bb σ Q := by
  intro d
  induction d with
  | zero =>
    intro i σ hd h0 h1 kk
    have e : q_upf σ a (fun j => if i ≤ j ∧ j < q_ln a then x else σ a j) = σ := by
      funext b j
      simp only [q_upf]
      by_cases hb : b = a
      · rw [if_pos hb, if_neg (by omega), hb]
      · rw [if_neg hb]
    rw [e] at kk
    rw [k249_5]
    simp only [k249_6, k249_7, k249_20]
    exact ⟨fun h => by omega, fun _ => kk⟩
  | succ d ih =>
    intro i σ hd h0 h1 kk
    rw [k249_5]
    simp only [k249_6, k249_7, k249_10, k249_11, k249_12, k249_13, k249_14, k249_17, ht, true_and]
    refine ⟨fun h => ⟨⟨h0, h⟩, by omega, ?_⟩, fun h => by omega⟩
    refine ih (i + 1) _ (by omega) (by omega) (by omega) ?_
    have e : q_upf (q_up σ a i x) a (fun j => if i + 1 ≤ j ∧ j < q_ln a then x else q_up σ a i x a j) = q_upf σ a (fun j => if i ≤ j ∧ j < q_ln a then x else σ a j) := by
      funext b j
      simp only [q_upf, q_up]
      by_cases hb : b = a
      · subst hb
        simp only [true_and, if_true]
        by_cases hj : j = i
        · rw [if_neg (by omega), if_pos hj, if_pos (by omega)]
        · simp only [hj, if_false]
          by_cases h2 : i + 1 ≤ j ∧ j < q_ln b
          · rw [if_pos h2, if_pos (by omega)]
          · rw [if_neg h2, if_neg (by omega)]
      · simp only [hb, false_and, if_false]
    rw [e]
    exact kk
theorem c249 (ht : q_ty a = 0) (hn : q_ln a ≤ 100000) (h0 : 0 ≤ q_ln a) (kk : Q (.inl none) bb (q_upf σ a (fun j => if 0 ≤ j ∧ j < q_ln a then x else σ a j))) : qx sc D 249 0 [vr a, vi x, vn, vn] [] (0, 0) bb σ Q := by
  simp only [k249_0, k249_1, k249_2, k249_3, k249_4, ht]
  exact ⟨by omega, c249_l ht hn _ 0 σ rfl (Int.le_refl _) h0 kk⟩
theorem c250_l (ht : q_ty a = 0) (hn : q_ln a ≤ 100000) (hh : hi ≤ q_ln a) (hlo : 0 ≤ lo) : ∀ (d : Nat) (i : Int) (σ : St), (hi - i).toNat = d → lo ≤ i → i ≤ hi → Q (.inl none) bb (q_upf σ a (fun j => if i ≤ j ∧ j < hi then x else σ a j)) → qx sc D 250 10 [vr a, vi lo, vi hi, vi x, vi i] [] (0, 0) bb σ Q := by
  intro d
  induction d with
  | zero =>
    intro i σ hd h0 h1 kk
    have e : q_upf σ a (fun j => if i ≤ j ∧ j < hi then x else σ a j) = σ := by
      funext b j
      simp only [q_upf]
      by_cases hb : b = a
      · rw [if_pos hb, if_neg (by omega), hb]
      · rw [if_neg hb]
    rw [e] at kk
    rw [k250_10]
    simp only [k250_12, k250_13, k250_27]
    exact ⟨fun h => by omega, fun _ => kk⟩
  | succ d ih =>
    intro i σ hd h0 h1 kk
    rw [k250_10]
    simp only [k250_12, k250_13, k250_16, k250_17, k250_19, k250_20, k250_21, k250_24, ht, true_and]
    refine ⟨fun h => ⟨by omega, by omega, ?_⟩, fun h => by omega⟩
    refine ih (i + 1) _ (by omega) (by omega) (by omega) ?_
    have e : q_upf (q_up σ a i x) a (fun j => if i + 1 ≤ j ∧ j < hi then x else q_up σ a i x a j) = q_upf σ a (fun j => if i ≤ j ∧ j < hi then x else σ a j) := by
      funext b j
      simp only [q_upf, q_up]
      by_cases hb : b = a
      · subst hb
        simp only [true_and, if_true]
        by_cases hj : j = i
        · rw [if_neg (by omega), if_pos hj, if_pos (by omega)]
        · simp only [hj, if_false]
          by_cases h2 : i + 1 ≤ j ∧ j < hi
          · rw [if_pos h2, if_pos (by omega)]
          · rw [if_neg h2, if_neg (by omega)]
      · simp only [hb, false_and, if_false]
    rw [e]
    exact kk
/-- Arrays.fill, from one on up to another one -/
theorem c250 (ht : q_ty a = 0) (hn : q_ln a ≤ 100000) (hlo : 0 ≤ lo) (hlh : lo ≤ hi) (hh : hi ≤ q_ln a) (kk : Q (.inl none) bb (q_upf σ a (fun j => if lo ≤ j ∧ j < hi then x else σ a j))) : qx sc (D + 1) 250 0 [vr a, vi lo, vi hi, vi x, vn] [] (0, 0) bb σ Q := by
  simp only [k250_0, k250_1, k250_2, k250_3, k250_4, ht]
  refine ⟨by omega, ?_⟩
  simp only [k251_0, k251_1, k251_2]
  refine ⟨fun h => by omega, fun _ => ?_⟩
  simp only [k251_46, k251_47]
  refine ⟨fun h => by omega, fun _ => ?_⟩
  simp only [k251_59, k251_60, k251_61]
  refine ⟨fun h => by omega, fun _ => ?_⟩
  simp only [k251_73, q_kn_n, k250_7, k250_8]
  exact c250_l ht hn hh hlo _ lo σ rfl (Int.le_refl _) hlh kk
end CRJ
section CRK
variable {sc : Nat × (Nat → Int32)} {D N : Nat} {bb : Bool} {Q : QP} {c : Nat} {σ C r : St} {k ar n M x : Int} {f P pl : Int → Int}
theorem n_49_l (hc : q_C c) (hT : TKS r f n P M) (hf : t_by f n) : ∀ (m : Nat) (C : St) (pl : Int → Int) (k told : Int) (l2 l3 : V2), 4 ≤ m + toldN pl → told + m = 4 → 0 ≤ told → 0 ≤ k → k ≤ M → (∀ i, i = 0 ∨ i = 1 ∨ i = 2 → C 1 i = pl i) →
    (∀ C' k' res, CX P M (p_rs f n m pl (P k)) k' res → (∀ pl' q, p_rs f n m pl (P k) = .inr (pl', q) → (∀ i, i = 0 ∨ i = 1 ∨ i = 2 → C' 1 i = pl' i) ∧ (∀ j i, ¬ j = 1 → C' j i = C j i)) → Q (.inl (some (vi res))) bb (CS c C' r k' ar)) →
    qx sc (D + 1) 49 2 [vr 4, vi told, l2, l3] [] (0, 0) bb (CS c C r k ar) Q := by
  intro m
  have hM := hT.2.1
  induction m with
  | zero =>
    intro C pl k told l2 l3 hm
    have := toldN_le (pl := pl)
    omega
  | succ m ih =>
    intro C pl k told l2 l3 hm ht ht0 h0 hk hpl kk
    have h3 : ¬ 3 < told := by omega
    unfold p_rs at kk
    rw [k49_2]
    simp only [k49_3, k49_4, k49_7, k49_8, k49_11, h3, true_implies, false_implies, not_true_eq_false, not_false_eq_true, true_and, and_true, implies_true, or_true, true_or, or_false, false_or, Int.reduceEq, Int.one_ne_zero, Nat.reduceEqDiff]
    refine n_51 hc hT h0 hk (by decide) (fun t1 k1 e1 => ?_) (fun t1 => ?_)
    · rw [if_pos t1, ← e1] at kk
      obtain ⟨-, h6, -, hp1⟩ := hT.2.2.1 (k + 1) (by omega) k1
      have hr : -1 ≤ tk f n (P (k + 1)) ∧ tk f n (P (k + 1)) ≤ 264 := by
        by_cases e : P (k + 1) < n
        · have := tk_ge hf hp1 e; omega
        · have := (tk_past (f := f) (n := n) (p := P (k + 1)) (by omega)).1; omega
      have bad : ¬ ((65 ≤ tk f n (P (k + 1)) ∧ tk f n (P (k + 1)) ≤ 67) ∧ pl (tk f n (P (k + 1)) - 65) = -1) → ∀ l1 l2 l3, qx sc (D + 1) 49 55 [vr 4, l1, l2, l3] [] (0, 0) bb (CS c C r (k + 1) ar) Q := by
        intro hn l1 l2 l3
        rw [if_neg hn] at kk
        simp only [k49_55, k49_56, true_implies, false_implies, not_true_eq_false, not_false_eq_true, true_and, and_true, implies_true, or_true, true_or, or_false, false_or, Int.reduceEq, Int.one_ne_zero, Nat.reduceEqDiff]
        exact kk _ _ _ ⟨by omega, k1, rfl, rfl⟩ (fun pl' q h => by cases h)
      simp only [q_kn_v, k49_14, k49_17, k49_18, k49_21, k49_24, k49_25, k49_28, k49_29, k49_31, k49_32, k49_33, k49_34, k49_37, k49_38, k49_39, CS_at, CS_ar, CS_co, CS_6 hc, CS_7 hc, CS_8 hc, CSf hc, CSuf hc, CS_upat, CS_upar, c_nn, Int.toNat_natCast, c18_0, c18_1, c21_0, c21_1, qt_6, ql_6, qt_7, ql_7, qt_8, ql_8, qtc_18 hc, qlc_18 hc, qtc_21 hc, qlc_21 hc, CSg1 hc, CSu1 hc, qtc_1 hc, qlc_1 hc, CSg2 hc, CSu2 hc, qtc_2 hc, qlc_2 hc, CSg3 hc, CSu3 hc, qtc_3 hc, qlc_3 hc, CSg4 hc, CSu4 hc, qtc_4 hc, qlc_4 hc, CSg5 hc, CSu5 hc, qtc_5 hc, qlc_5 hc, CSg6 hc, CSu6 hc, qtc_6 hc, qlc_6 hc, CSg7 hc, CSu7 hc, qtc_7 hc, qlc_7 hc, CSg8 hc, CSu8 hc, qtc_8 hc, qlc_8 hc, CSg9 hc, CSu9 hc, qtc_9 hc, qlc_9 hc, CSg10 hc, CSu10 hc, qtc_10 hc, qlc_10 hc, CSg11 hc, CSu11 hc, qtc_11 hc, qlc_11 hc, CSg12 hc, CSu12 hc, qtc_12 hc, qlc_12 hc, CSg13 hc, CSu13 hc, qtc_13 hc, qlc_13 hc, CSg14 hc, CSu14 hc, qtc_14 hc, qlc_14 hc, CSg15 hc, CSu15 hc, qtc_15 hc, qlc_15 hc, CSg17 hc, CSu17 hc, qtc_17 hc, qlc_17 hc, CSg19 hc, CSu19 hc, qtc_19 hc, qlc_19 hc, CSg20 hc, CSu20 hc, qtc_20 hc, qlc_20 hc, CSg22 hc, CSu22 hc, qtc_22 hc, qlc_22 hc, CSg23 hc, CSu23 hc, qtc_23 hc, qlc_23 hc, h6, true_implies, false_implies, not_true_eq_false, not_false_eq_true, true_and, and_true, implies_true, or_true, true_or, or_false, false_or, Int.reduceEq, Int.one_ne_zero, Nat.reduceEqDiff]
      refine ⟨by omega, by omega, fun a1 => bad (by omega) _ _ _, fun a1 => ⟨fun a2 => ?_, fun a2 => bad (by omega) _ _ _⟩⟩
      have hplr := hpl (tk f n (P (k + 1)) - 65) (by omega)
      simp only [k49_42, k49_43, k49_46 hc, k49_49, k49_50, k49_51, k49_52, CS_at, CS_ar, CS_co, CS_6 hc, CS_7 hc, CS_8 hc, CSf hc, CSuf hc, CS_upat, CS_upar, c_nn, Int.toNat_natCast, c18_0, c18_1, c21_0, c21_1, qt_6, ql_6, qt_7, ql_7, qt_8, ql_8, qtc_18 hc, qlc_18 hc, qtc_21 hc, qlc_21 hc, CSg1 hc, CSu1 hc, qtc_1 hc, qlc_1 hc, CSg2 hc, CSu2 hc, qtc_2 hc, qlc_2 hc, CSg3 hc, CSu3 hc, qtc_3 hc, qlc_3 hc, CSg4 hc, CSu4 hc, qtc_4 hc, qlc_4 hc, CSg5 hc, CSu5 hc, qtc_5 hc, qlc_5 hc, CSg6 hc, CSu6 hc, qtc_6 hc, qlc_6 hc, CSg7 hc, CSu7 hc, qtc_7 hc, qlc_7 hc, CSg8 hc, CSu8 hc, qtc_8 hc, qlc_8 hc, CSg9 hc, CSu9 hc, qtc_9 hc, qlc_9 hc, CSg10 hc, CSu10 hc, qtc_10 hc, qlc_10 hc, CSg11 hc, CSu11 hc, qtc_11 hc, qlc_11 hc, CSg12 hc, CSu12 hc, qtc_12 hc, qlc_12 hc, CSg13 hc, CSu13 hc, qtc_13 hc, qlc_13 hc, CSg14 hc, CSu14 hc, qtc_14 hc, qlc_14 hc, CSg15 hc, CSu15 hc, qtc_15 hc, qlc_15 hc, CSg17 hc, CSu17 hc, qtc_17 hc, qlc_17 hc, CSg19 hc, CSu19 hc, qtc_19 hc, qlc_19 hc, CSg20 hc, CSu20 hc, qtc_20 hc, qlc_20 hc, CSg22 hc, CSu22 hc, qtc_22 hc, qlc_22 hc, CSg23 hc, CSu23 hc, qtc_23 hc, qlc_23 hc, hplr, true_implies, false_implies, not_true_eq_false, not_false_eq_true, true_and, and_true, implies_true, or_true, true_or, or_false, false_or, Int.reduceEq, Int.one_ne_zero, Nat.reduceEqDiff]
      refine ⟨by omega, fun a3 => ?_, fun a3 => bad (fun h => a3 h.2) _ _ _⟩
      rw [if_pos ⟨by omega, a3⟩] at kk
      obtain ⟨k2, e2, -⟩ := TKS_lt hT (by omega) k1 (by omega)
      rw [← e2] at kk
      obtain ⟨-, -, -, hp2⟩ := hT.2.2.1 (k + 1 + 1) (by omega) k2
      simp only [k49_57, k49_58, k49_59, k49_62, k49_63, k49_64, k49_67, k49_68, k49_70, CS_at, CS_ar, CS_co, CS_6 hc, CS_7 hc, CS_8 hc, CSf hc, CSuf hc, CS_upat, CS_upar, c_nn, Int.toNat_natCast, c18_0, c18_1, c21_0, c21_1, qt_6, ql_6, qt_7, ql_7, qt_8, ql_8, qtc_18 hc, qlc_18 hc, qtc_21 hc, qlc_21 hc, CSg1 hc, CSu1 hc, qtc_1 hc, qlc_1 hc, CSg2 hc, CSu2 hc, qtc_2 hc, qlc_2 hc, CSg3 hc, CSu3 hc, qtc_3 hc, qlc_3 hc, CSg4 hc, CSu4 hc, qtc_4 hc, qlc_4 hc, CSg5 hc, CSu5 hc, qtc_5 hc, qlc_5 hc, CSg6 hc, CSu6 hc, qtc_6 hc, qlc_6 hc, CSg7 hc, CSu7 hc, qtc_7 hc, qlc_7 hc, CSg8 hc, CSu8 hc, qtc_8 hc, qlc_8 hc, CSg9 hc, CSu9 hc, qtc_9 hc, qlc_9 hc, CSg10 hc, CSu10 hc, qtc_10 hc, qlc_10 hc, CSg11 hc, CSu11 hc, qtc_11 hc, qlc_11 hc, CSg12 hc, CSu12 hc, qtc_12 hc, qlc_12 hc, CSg13 hc, CSu13 hc, qtc_13 hc, qlc_13 hc, CSg14 hc, CSu14 hc, qtc_14 hc, qlc_14 hc, CSg15 hc, CSu15 hc, qtc_15 hc, qlc_15 hc, CSg17 hc, CSu17 hc, qtc_17 hc, qlc_17 hc, CSg19 hc, CSu19 hc, qtc_19 hc, qlc_19 hc, CSg20 hc, CSu20 hc, qtc_20 hc, qlc_20 hc, CSg22 hc, CSu22 hc, qtc_22 hc, qlc_22 hc, CSg23 hc, CSu23 hc, qtc_23 hc, qlc_23 hc, true_implies, false_implies, not_true_eq_false, not_false_eq_true, true_and, and_true, implies_true, or_true, true_or, or_false, false_or, Int.reduceEq, Int.one_ne_zero, Nat.reduceEqDiff]
      refine ⟨by omega, ?_⟩
      refine n_43 hc hT (by omega) k2 (fun t4 k4 e4 => ?_) (fun t4 => ?_)
      · have x4 : p_nu f n 20 (P (k + 1 + 1)) = .inr (tw f n (P (k + 1 + 1)), P (k + 1 + 1 + 1)) := by unfold p_nu; rw [if_pos t4, e4]
        have hn := (tk_num hf hp2).mp t4.1
        have htw := tw_range (n := n) hn.1 hn.2.1
        have z : ¬ tw f n (P (k + 1 + 1)) = -1 := by omega
        rw [x4] at kk
        simp only [p_b_inr] at kk
        simp only [q_kn_v, k49_73, k49_74, k49_75, k49_76, k49_79, k49_80, k49_82, z, true_implies, false_implies, not_true_eq_false, not_false_eq_true, true_and, and_true, implies_true, or_true, true_or, or_false, false_or, Int.reduceEq, Int.one_ne_zero, Nat.reduceEqDiff]
        refine n_51 hc hT (by omega) k4 (by decide) (fun t5 k5 e5 => ?_) (fun t5 => ?_)
        · have x5 : p_sg f n 59 (P (k + 1 + 1 + 1)) = .inr ((), P (k + 1 + 1 + 1 + 1)) := by unfold p_sg; rw [if_pos t5, e5]
          rw [x5] at kk
          simp only [p_b_inr] at kk
          simp only [q_kn_v, k49_85, k49_90, k49_91, k49_94 hc, k49_97, k49_98, k49_99, k49_100, k49_103, CS_at, CS_ar, CS_co, CS_6 hc, CS_7 hc, CS_8 hc, CSf hc, CSuf hc, CS_upat, CS_upar, c_nn, Int.toNat_natCast, c18_0, c18_1, c21_0, c21_1, qt_6, ql_6, qt_7, ql_7, qt_8, ql_8, qtc_18 hc, qlc_18 hc, qtc_21 hc, qlc_21 hc, CSg1 hc, CSu1 hc, qtc_1 hc, qlc_1 hc, CSg2 hc, CSu2 hc, qtc_2 hc, qlc_2 hc, CSg3 hc, CSu3 hc, qtc_3 hc, qlc_3 hc, CSg4 hc, CSu4 hc, qtc_4 hc, qlc_4 hc, CSg5 hc, CSu5 hc, qtc_5 hc, qlc_5 hc, CSg6 hc, CSu6 hc, qtc_6 hc, qlc_6 hc, CSg7 hc, CSu7 hc, qtc_7 hc, qlc_7 hc, CSg8 hc, CSu8 hc, qtc_8 hc, qlc_8 hc, CSg9 hc, CSu9 hc, qtc_9 hc, qlc_9 hc, CSg10 hc, CSu10 hc, qtc_10 hc, qlc_10 hc, CSg11 hc, CSu11 hc, qtc_11 hc, qlc_11 hc, CSg12 hc, CSu12 hc, qtc_12 hc, qlc_12 hc, CSg13 hc, CSu13 hc, qtc_13 hc, qlc_13 hc, CSg14 hc, CSu14 hc, qtc_14 hc, qlc_14 hc, CSg15 hc, CSu15 hc, qtc_15 hc, qlc_15 hc, CSg17 hc, CSu17 hc, qtc_17 hc, qlc_17 hc, CSg19 hc, CSu19 hc, qtc_19 hc, qlc_19 hc, CSg20 hc, CSu20 hc, qtc_20 hc, qlc_20 hc, CSg22 hc, CSu22 hc, qtc_22 hc, qlc_22 hc, CSg23 hc, CSu23 hc, qtc_23 hc, qlc_23 hc, true_implies, false_implies, not_true_eq_false, not_false_eq_true, true_and, and_true, implies_true, or_true, true_or, or_false, false_or, Int.reduceEq, Int.one_ne_zero, Nat.reduceEqDiff]
          refine ⟨by omega, by omega, ?_⟩
          obtain ⟨-, o2⟩ := or_of (v := tw f n (P (k + 1 + 1))) (show tk f n (P (k + 1)) - 65 = 0 ∨ tk f n (P (k + 1)) - 65 = 1 ∨ tk f n (P (k + 1)) - 65 = 2 by omega) a3 z
          refine ih _ (p_up pl (tk f n (P (k + 1)) - 65) (tw f n (P (k + 1 + 1)))) _ _ _ _ (by omega) (by omega) (by omega) (by omega) k5 (fun i hi => ?_) (fun C' k' res x' v' => ?_)
          · rw [q_up_app]
            unfold p_up
            by_cases e : i = tk f n (P (k + 1)) - 65
            · rw [if_pos ⟨rfl, e⟩, if_pos e]
            · rw [if_neg (fun h => e h.2), if_neg e]; exact hpl i hi
          · refine kk C' k' res x' (fun pl' q h => ?_)
            obtain ⟨g1, g2⟩ := v' pl' q h
            exact ⟨g1, fun j i hj => by rw [g2 j i hj, q_up_ne _ _ _ _ hj]⟩
        · have x5 : p_sg f n 59 (P (k + 1 + 1 + 1)) = .inl (P (k + 1 + 1 + 1)) := by unfold p_sg; rw [if_neg t5]
          rw [x5] at kk
          simp only [q_kn_v, k49_85, k49_88, k49_89, true_implies, false_implies, not_true_eq_false, not_false_eq_true, true_and, and_true, implies_true, or_true, true_or, or_false, false_or, Int.reduceEq, Int.one_ne_zero, Nat.reduceEqDiff]
          exact kk _ _ _ ⟨by omega, k4, rfl, rfl⟩ (fun pl' q h => by cases h)
      · have x4 : p_nu f n 20 (P (k + 1 + 1)) = .inl (P (k + 1 + 1)) := by unfold p_nu; rw [if_neg t4]
        rw [x4] at kk
        simp only [q_kn_v, k49_73, k49_74, k49_75, k49_76, k49_88, k49_89, true_implies, false_implies, not_true_eq_false, not_false_eq_true, true_and, and_true, implies_true, or_true, true_or, or_false, false_or, Int.reduceEq, Int.one_ne_zero, Nat.reduceEqDiff]
        exact kk _ _ _ ⟨by omega, k2, rfl, rfl⟩ (fun pl' q h => by cases h)
    · rw [if_neg t1] at kk
      simp only [q_kn_v, k49_14, k49_106, k49_107, true_implies, false_implies, not_true_eq_false, not_false_eq_true, true_and, and_true, implies_true, or_true, true_or, or_false, false_or, Int.reduceEq, Int.one_ne_zero, Nat.reduceEqDiff]
      refine kk _ _ _ ⟨h0, hk, rfl, rfl⟩ (fun pl' q h => ?_)
      cases h
      exact ⟨hpl, fun _ _ _ => rfl⟩
theorem CS_eta (hc : q_C c) (σ : St) : q_up σ 4 3 (c : Int) = CS c (fun j i => σ (c + j) i) σ (σ 4 1) (σ 4 2) := by
  have := q_C_ge hc
  funext a i
  simp only [q_up, CS]
  by_cases h4 : a = 4
  · subst h4
    rw [if_pos rfl]
    by_cases h1 : i = 1
    · rw [if_neg (by omega), if_pos h1, h1]
    · rw [if_neg h1]
      by_cases h2 : i = 2
      · rw [if_neg (by omega), if_pos h2, h2]
      · rw [if_neg h2]
        by_cases h3 : i = 3
        · rw [if_pos ⟨rfl, h3⟩, if_pos h3]
        · rw [if_neg (fun h => h3 h.2), if_neg h3]
  · rw [if_neg (fun h => h4 h.1), if_neg h4]
    by_cases h : c ≤ a ∧ a ≤ c + 23
    · rw [if_pos h, show c + (a - c) = a by omega]
    · rw [if_neg h]
theorem CS_uf1 (hc : q_C c) {g : Int → Int} : q_upf (CS c C r k ar) (c + 1) g = CS c (q_upf C 1 g) r k ar := by
  have := q_C_ge hc
  funext a l
  simp only [q_upf, CS]
  by_cases h4 : a = 4
  · rw [if_neg (by omega), if_pos h4, if_pos h4]
  · rw [if_neg h4, if_neg h4]
    by_cases h : c ≤ a ∧ a ≤ c + 23
    · rw [if_pos h, if_pos h]
      by_cases e : a = c + 1
      · rw [if_pos e, if_pos (by omega)]
      · rw [if_neg e, if_neg (by omega)]
    · rw [if_neg h, if_neg h, if_neg (by omega)]
theorem CS_upfa (hc : q_C c) : q_up (CS c C r k ar) 4 4 x = CS c C (q_up r 4 4 x) k ar := by
  have := q_C_ge hc
  funext a i
  simp only [q_up, CS]
  grind
/-- an empty Code -/
def K_emp (C : St) : St := q_upf (q_up (q_up (q_up C 0 0 0) 0 1 0) 0 2 0) 1 (fun j => if 0 ≤ j ∧ j < 3 then -1 else C 1 j)
theorem c13 (hc : q_C c) (kk : Q (.inl none) bb (CS c (K_emp C) r k ar)) : qx sc (D + 1) 13 0 [vr c] [] (0, 0) bb (CS c C r k ar) Q := by
  simp only [k13_0, k13_1, k13_2 hc, k13_5, k13_6, k13_7 hc, k13_10, k13_11, k13_12 hc, k13_15, k13_16 hc, k13_19, k13_20, CSuf hc]
  refine c249 (qtc_1 hc) (by rw [qlc_1 hc]; omega) (by rw [qlc_1 hc]; omega) ?_
  simp only [q_kn_n, k13_23, qlc_1 hc, CSg1 hc, CS_uf1 hc, q_up_ne, Nat.reduceEqDiff, not_false_eq_true]
  exact kk
/-- a Code's own cells -/
def COD (c : Nat) (σ : St) : St := fun j i => σ (c + j) i
/-- a Code holds a program -/
def PRG (c : Nat) (σ : St) (pl : Int → Int) (L : List (ST 5)) (cnt : Int) : Prop :=
  TAB (SRok (COD c σ)) 0 (s_L 5 L (-1) 0 0 0).1 ∧ TAB (KRok (COD c σ)) 0 (s_L 5 L (-1) 0 0 0).2.1 ∧ TAB (LRok (COD c σ)) 0 (s_L 5 L (-1) 0 0 0).2.2 ∧ σ c 0 = (s_L 5 L (-1) 0 0 0).1.length ∧ σ c 1 = (s_L 5 L (-1) 0 0 0).2.1.length ∧ σ c 2 = (s_L 5 L (-1) 0 0 0).2.2.length ∧ (∀ i, i = 0 ∨ i = 1 ∨ i = 2 → σ (c + 1) i = pl i) ∧ σ c 0 = cnt ∧ cnt ≤ 40 ∧ σ c 1 ≤ cnt ∧ σ c 2 ≤ cnt
theorem n_45 (hc : q_C c) (h0 : 0 ≤ n) (hn : n ≤ 400) (hb : BYT f (σ 1) n)
    (kk : ∀ σ' res, (∀ a i, ¬ (4 ≤ a ∧ a ≤ 8) → ¬ (c ≤ a ∧ a ≤ c + 23) → σ' a i = σ a i) → (∀ i, i = 0 → σ' 4 i = σ 4 i) → (∀ q, p_P f n = .inl q → res = 0 ∧ σ' 4 4 = q) → (∀ pl L cnt z, p_P f n = .inr ((pl, L, cnt), z) → res = 1 ∧ PRG c σ' pl L cnt) → σ' 4 3 = c → Q (.inl (some (vi res))) bb σ') :
    qx sc (18 + D + 3) 45 0 [vr 4, vr c, vi n, vn] [] (0, 0) bb σ Q := by
  have hc88 := q_C_ge hc
  have hf := BYT_by hb
  simp only [k45_0, k45_1, k45_4, k45_5]
  rw [show 18 + D + 2 = 17 + D + 3 by omega]
  refine c84 h0 hn hb (fun σ1 M fr1 hT => ?_)
  rw [show 17 + D + 3 = 18 + D + 2 by omega]
  have hM := hT.2.1
  simp only [q_kn_n, k45_8, k45_9, k45_10]
  refine ⟨by unfold q_C at hc; omega, ?_⟩
  rw [CS_eta hc]
  simp only [k45_13, k45_14, k45_17 hc, CS_at, CS_ar, CS_co, CS_6 hc, CS_7 hc, CS_8 hc, CSf hc, CSuf hc, CS_upat, CS_upar, c_nn, Int.toNat_natCast, c18_0, c18_1, c21_0, c21_1, qt_6, ql_6, qt_7, ql_7, qt_8, ql_8, qtc_18 hc, qlc_18 hc, qtc_21 hc, qlc_21 hc, CSg1 hc, CSu1 hc, qtc_1 hc, qlc_1 hc, CSg2 hc, CSu2 hc, qtc_2 hc, qlc_2 hc, CSg3 hc, CSu3 hc, qtc_3 hc, qlc_3 hc, CSg4 hc, CSu4 hc, qtc_4 hc, qlc_4 hc, CSg5 hc, CSu5 hc, qtc_5 hc, qlc_5 hc, CSg6 hc, CSu6 hc, qtc_6 hc, qlc_6 hc, CSg7 hc, CSu7 hc, qtc_7 hc, qlc_7 hc, CSg8 hc, CSu8 hc, qtc_8 hc, qlc_8 hc, CSg9 hc, CSu9 hc, qtc_9 hc, qlc_9 hc, CSg10 hc, CSu10 hc, qtc_10 hc, qlc_10 hc, CSg11 hc, CSu11 hc, qtc_11 hc, qlc_11 hc, CSg12 hc, CSu12 hc, qtc_12 hc, qlc_12 hc, CSg13 hc, CSu13 hc, qtc_13 hc, qlc_13 hc, CSg14 hc, CSu14 hc, qtc_14 hc, qlc_14 hc, CSg15 hc, CSu15 hc, qtc_15 hc, qlc_15 hc, CSg17 hc, CSu17 hc, qtc_17 hc, qlc_17 hc, CSg19 hc, CSu19 hc, qtc_19 hc, qlc_19 hc, CSg20 hc, CSu20 hc, qtc_20 hc, qlc_20 hc, CSg22 hc, CSu22 hc, qtc_22 hc, qlc_22 hc, CSg23 hc, CSu23 hc, qtc_23 hc, qlc_23 hc, true_implies, false_implies, not_true_eq_false, not_false_eq_true, true_and, and_true, implies_true, or_true, true_or, or_false, false_or, Int.reduceEq, Int.one_ne_zero, Nat.reduceEqDiff]
  refine c13 hc ?_
  simp only [q_kn_n, k45_20, k45_21, k45_22, k45_25, k45_26, k45_27, k45_30, k45_31, CS_at, CS_ar, CS_co, CS_6 hc, CS_7 hc, CS_8 hc, CSf hc, CSuf hc, CS_upat, CS_upar, c_nn, Int.toNat_natCast, c18_0, c18_1, c21_0, c21_1, qt_6, ql_6, qt_7, ql_7, qt_8, ql_8, qtc_18 hc, qlc_18 hc, qtc_21 hc, qlc_21 hc, CSg1 hc, CSu1 hc, qtc_1 hc, qlc_1 hc, CSg2 hc, CSu2 hc, qtc_2 hc, qlc_2 hc, CSg3 hc, CSu3 hc, qtc_3 hc, qlc_3 hc, CSg4 hc, CSu4 hc, qtc_4 hc, qlc_4 hc, CSg5 hc, CSu5 hc, qtc_5 hc, qlc_5 hc, CSg6 hc, CSu6 hc, qtc_6 hc, qlc_6 hc, CSg7 hc, CSu7 hc, qtc_7 hc, qlc_7 hc, CSg8 hc, CSu8 hc, qtc_8 hc, qlc_8 hc, CSg9 hc, CSu9 hc, qtc_9 hc, qlc_9 hc, CSg10 hc, CSu10 hc, qtc_10 hc, qlc_10 hc, CSg11 hc, CSu11 hc, qtc_11 hc, qlc_11 hc, CSg12 hc, CSu12 hc, qtc_12 hc, qlc_12 hc, CSg13 hc, CSu13 hc, qtc_13 hc, qlc_13 hc, CSg14 hc, CSu14 hc, qtc_14 hc, qlc_14 hc, CSg15 hc, CSu15 hc, qtc_15 hc, qlc_15 hc, CSg17 hc, CSu17 hc, qtc_17 hc, qlc_17 hc, CSg19 hc, CSu19 hc, qtc_19 hc, qlc_19 hc, CSg20 hc, CSu20 hc, qtc_20 hc, qlc_20 hc, CSg22 hc, CSu22 hc, qtc_22 hc, qlc_22 hc, CSg23 hc, CSu23 hc, qtc_23 hc, qlc_23 hc, true_implies, false_implies, not_true_eq_false, not_false_eq_true, true_and, and_true, implies_true, or_true, true_or, or_false, false_or, Int.reduceEq, Int.one_ne_zero, Nat.reduceEqDiff]
  have em1 : ∀ i, i = 0 ∨ i = 1 ∨ i = 2 → K_emp (fun j i => σ1 (c + j) i) 1 i = -1 := fun i hi => by
    unfold K_emp
    rw [q_upf_eq, if_pos (by omega)]
  have em0 : K_emp (fun j i => σ1 (c + j) i) 0 0 = 0 ∧ K_emp (fun j i => σ1 (c + j) i) 0 1 = 0 ∧ K_emp (fun j i => σ1 (c + j) i) 0 2 = 0 := by
    unfold K_emp
    simp only [q_upf_ne, q_up_eq, q_up_ne, q_up_ne2, q_upf_ne, q_upf_eq, not_false_eq_true, Nat.reduceEqDiff, Int.reduceEq, and_self]
  generalize K_emp (fun j i => σ1 (c + j) i) = C0 at *
  -- the end, with an answer
  have fin : ∀ (C' : St) (k' ar' res : Int) (l3 : V2), 0 ≤ k' → k' ≤ M → (res = 0 ∨ res = 1) → (∀ q, p_P f n = .inl q → res = 0 ∧ σ1 7 k' = q) → (∀ pl L cnt z, p_P f n = .inr ((pl, L, cnt), z) → res = 1 ∧ (∃ Cz : St, Cz 0 0 = 0 ∧ Cz 0 1 = 0 ∧ Cz 0 2 = 0 ∧ SOK Cz C' (s_L 5 L (-1) 0 0 0)) ∧ C' 0 0 = cnt ∧ PC C' pl) → qx sc (18 + D + 3) 45 66 [vr 4, vr c, vi n, l3] [vi res] (0, 0) bb (CS c C' σ1 k' ar') Q := by
    intro C' k' ar' res l3 hk0 hk1 hres hF hS
    have last : ∀ v, (res = 0 → v = σ1 7 k') → Q (.inl (some (vi res))) bb (CS c C' (q_up σ1 4 4 v) k' ar') := by
      intro v hv
      refine kk _ _ (fun a i n1 n2 => ?_) (fun i hi => ?_) (fun q h => ?_) (fun pl L cnt z h => ?_) rfl
      · unfold CS
        rw [if_neg (by omega), if_neg n2, q_up_ne _ _ _ _ (by omega)]
        exact fr1 a i (by omega) (by omega) (by omega) (by omega)
      · subst hi
        unfold CS
        rw [if_pos rfl, if_neg (by decide), if_neg (by decide), if_neg (by decide), q_up_ne2 _ _ _ (by decide)]
        exact fr1 4 0 (by omega) (by omega) (by omega) (by omega)
      · obtain ⟨g1, g2⟩ := hF q h
        refine ⟨g1, ?_⟩
        unfold CS
        rw [if_pos rfl, if_neg (by decide), if_neg (by decide), if_neg (by decide), q_up_eq, hv g1, g2]
      · obtain ⟨g1, ⟨Cz, y0, y1, y2, g2⟩, g3, g4⟩ := hS pl L cnt z h
        refine ⟨g1, ?_⟩
        have hC : ∀ j, j ≤ 23 → ∀ i, CS c C' (q_up σ1 4 4 v) k' ar' (c + j) i = C' j i := fun j hj i => CS_g hc hj
        have hCf : ∀ i, CS c C' (q_up σ1 4 4 v) k' ar' c i = C' 0 i := fun i => CSf hc
        obtain ⟨t1, t2, t3, l1, l2, l3, -⟩ := g2
        rw [y0] at t1 l1
        rw [y1] at t2 l2
        rw [y2] at t3 l3
        unfold PC at g4
        unfold PRG
        refine ⟨TAB_mono _ _ (fun j x _ _ hx => ?_) t1, TAB_mono _ _ (fun j x _ _ hx => ?_) t2, TAB_mono _ _ (fun j x _ _ hx => ?_) t3, by rw [hCf, l1]; omega, by rw [hCf, l2]; omega, by rw [hCf, l3]; omega, fun i hi => by rw [hC 1 (by decide)]; exact g4.2.2.2.2.2.2 i hi, by rw [hCf]; exact g3, by omega, by rw [hCf]; omega, by rw [hCf]; omega⟩
        · unfold SRok COD at *
          rw [hC 2 (by decide), hC 3 (by decide), hC 4 (by decide), hC 5 (by decide), hC 6 (by decide), hC 7 (by decide), hC 8 (by decide), hC 9 (by decide), hC 10 (by decide), hC 11 (by decide), hC 17 (by decide), hC 19 (by decide), hC 22 (by decide), hC 20 (by decide), hC 23 (by decide)]
          exact hx
        · unfold KRok COD at *
          rw [hC 12 (by decide), hC 13 (by decide), hC 14 (by decide)]
          exact hx
        · unfold LRok COD at *
          rw [hC 15 (by decide)]
          exact hx
    rcases hres with rfl | rfl
    · simp only [k45_66, k45_67, k45_68, k45_69, k45_72, k45_73, k45_76, k45_77, k45_80, k45_83, k45_84, k45_87, k45_88, k45_91, k45_92, CS_at, CS_ar, CS_co, CS_6 hc, CS_7 hc, CS_8 hc, CSf hc, CSuf hc, CS_upat, CS_upar, c_nn, Int.toNat_natCast, c18_0, c18_1, c21_0, c21_1, qt_6, ql_6, qt_7, ql_7, qt_8, ql_8, qtc_18 hc, qlc_18 hc, qtc_21 hc, qlc_21 hc, CSg1 hc, CSu1 hc, qtc_1 hc, qlc_1 hc, CSg2 hc, CSu2 hc, qtc_2 hc, qlc_2 hc, CSg3 hc, CSu3 hc, qtc_3 hc, qlc_3 hc, CSg4 hc, CSu4 hc, qtc_4 hc, qlc_4 hc, CSg5 hc, CSu5 hc, qtc_5 hc, qlc_5 hc, CSg6 hc, CSu6 hc, qtc_6 hc, qlc_6 hc, CSg7 hc, CSu7 hc, qtc_7 hc, qlc_7 hc, CSg8 hc, CSu8 hc, qtc_8 hc, qlc_8 hc, CSg9 hc, CSu9 hc, qtc_9 hc, qlc_9 hc, CSg10 hc, CSu10 hc, qtc_10 hc, qlc_10 hc, CSg11 hc, CSu11 hc, qtc_11 hc, qlc_11 hc, CSg12 hc, CSu12 hc, qtc_12 hc, qlc_12 hc, CSg13 hc, CSu13 hc, qtc_13 hc, qlc_13 hc, CSg14 hc, CSu14 hc, qtc_14 hc, qlc_14 hc, CSg15 hc, CSu15 hc, qtc_15 hc, qlc_15 hc, CSg17 hc, CSu17 hc, qtc_17 hc, qlc_17 hc, CSg19 hc, CSu19 hc, qtc_19 hc, qlc_19 hc, CSg20 hc, CSu20 hc, qtc_20 hc, qlc_20 hc, CSg22 hc, CSu22 hc, qtc_22 hc, qlc_22 hc, CSg23 hc, CSu23 hc, qtc_23 hc, qlc_23 hc, CS_upfa hc, true_implies, false_implies, not_true_eq_false, not_false_eq_true, true_and, and_true, implies_true, or_true, true_or, or_false, false_or, Int.reduceEq, Int.one_ne_zero, Nat.reduceEqDiff]
      exact ⟨by omega, last _ (fun _ => rfl)⟩
    · simp only [k45_66, k45_67, k45_68, k45_69, k45_72, k45_73, k45_76, k45_77, k45_80, k45_83, k45_84, k45_87, k45_88, k45_91, k45_92, CS_at, CS_ar, CS_co, CS_6 hc, CS_7 hc, CS_8 hc, CSf hc, CSuf hc, CS_upat, CS_upar, c_nn, Int.toNat_natCast, c18_0, c18_1, c21_0, c21_1, qt_6, ql_6, qt_7, ql_7, qt_8, ql_8, qtc_18 hc, qlc_18 hc, qtc_21 hc, qlc_21 hc, CSg1 hc, CSu1 hc, qtc_1 hc, qlc_1 hc, CSg2 hc, CSu2 hc, qtc_2 hc, qlc_2 hc, CSg3 hc, CSu3 hc, qtc_3 hc, qlc_3 hc, CSg4 hc, CSu4 hc, qtc_4 hc, qlc_4 hc, CSg5 hc, CSu5 hc, qtc_5 hc, qlc_5 hc, CSg6 hc, CSu6 hc, qtc_6 hc, qlc_6 hc, CSg7 hc, CSu7 hc, qtc_7 hc, qlc_7 hc, CSg8 hc, CSu8 hc, qtc_8 hc, qlc_8 hc, CSg9 hc, CSu9 hc, qtc_9 hc, qlc_9 hc, CSg10 hc, CSu10 hc, qtc_10 hc, qlc_10 hc, CSg11 hc, CSu11 hc, qtc_11 hc, qlc_11 hc, CSg12 hc, CSu12 hc, qtc_12 hc, qlc_12 hc, CSg13 hc, CSu13 hc, qtc_13 hc, qlc_13 hc, CSg14 hc, CSu14 hc, qtc_14 hc, qlc_14 hc, CSg15 hc, CSu15 hc, qtc_15 hc, qlc_15 hc, CSg17 hc, CSu17 hc, qtc_17 hc, qlc_17 hc, CSg19 hc, CSu19 hc, qtc_19 hc, qlc_19 hc, CSg20 hc, CSu20 hc, qtc_20 hc, qlc_20 hc, CSg22 hc, CSu22 hc, qtc_22 hc, qlc_22 hc, CSg23 hc, CSu23 hc, qtc_23 hc, qlc_23 hc, CS_upfa hc, true_implies, false_implies, not_true_eq_false, not_false_eq_true, true_and, and_true, implies_true, or_true, true_or, or_false, false_or, Int.reduceEq, Int.one_ne_zero, Nat.reduceEqDiff]
      exact last _ (fun h => absurd h (by decide))
  have ePP : p_P f n = p_b (p_rs f n 4 (fun _ => -1) (σ1 7 0)) fun pl p => p_b (p_L f n pl 5 0 p) fun L p => if tk f n p = -1 then .inr ((pl, L.1, L.2), p) else .inl p := by
    rw [hT.2.2.2.2.2]
    rfl
  simp only [k49_0, k49_1]
  refine n_49_l hc hT hf 4 C0 (fun _ => -1) 0 0 _ _ (by decide) (by omega) (by omega) (by omega) hT.1 em1 (fun C1 k1 res x1 v1 => ?_)
  generalize p_rs f n 4 (fun _ => -1) (σ1 7 0) = Y at *
  rcases Y with y | ⟨pl, y⟩
  · obtain ⟨b1, b2, rfl, rfl⟩ := x1
    simp only [q_kn_v, k45_34, k45_65, true_implies, false_implies, not_true_eq_false, not_false_eq_true, true_and, and_true, implies_true, or_true, true_or, or_false, false_or, Int.reduceEq, Int.one_ne_zero, Nat.reduceEqDiff]
    exact fin C1 k1 _ 0 _ b1 b2 (Or.inl rfl) (fun q h => by rw [ePP] at h; cases h; exact ⟨rfl, rfl⟩) (fun pl L cnt z h => by rw [ePP] at h; cases h)
  obtain ⟨b1, b2, rfl, rfl⟩ := x1
  obtain ⟨v1, v2⟩ := v1 pl _ rfl
  simp only [p_b_inr] at ePP
  simp only [q_kn_v, k45_34, k45_37, k45_38, k45_39, true_implies, false_implies, not_true_eq_false, not_false_eq_true, true_and, and_true, implies_true, or_true, true_or, or_false, false_or, Int.reduceEq, Int.one_ne_zero, Nat.reduceEqDiff]
  have z0 : C1 0 0 = 0 := by rw [v2 0 0 (by decide), em0.1]
  have z1 : C1 0 1 = 0 := by rw [v2 0 1 (by decide), em0.2.1]
  have z2 : C1 0 2 = 0 := by rw [v2 0 2 (by decide), em0.2.2]
  have hL := n_L (sc := sc) (bb := bb) (pl := pl) hc hT hf 5 (by omega)
  refine hL D C1 k1 (-1) _ b1 b2 ⟨by omega, by omega, by omega, by omega, by omega, by omega, v1⟩ (fun C2 k2 ar2 res x2 v3 => ?_)
  rw [z0] at x2 v3
  generalize p_L f n pl 5 0 (σ1 7 k1) = Y at *
  rcases Y with y | ⟨L, y⟩
  · obtain ⟨d1, d2, rfl, rfl⟩ := x2
    simp only [q_kn_v, k45_42, k45_65, true_implies, false_implies, not_true_eq_false, not_false_eq_true, true_and, and_true, implies_true, or_true, true_or, or_false, false_or, Int.reduceEq, Int.one_ne_zero, Nat.reduceEqDiff]
    exact fin C2 k2 _ 0 _ d1 d2 (Or.inl rfl) (fun q h => by rw [ePP] at h; cases h; exact ⟨rfl, rfl⟩) (fun pl L cnt z h => by rw [ePP] at h; cases h)
  obtain ⟨d1, d2, rfl, rfl⟩ := x2
  obtain ⟨rfl, s3, c3, hp3⟩ := v3 L _ rfl
  simp only [p_b_inr] at ePP
  rw [z1, z2] at s3
  obtain ⟨-, h6, -, -⟩ := hT.2.2.1 k2 d1 d2
  simp only [q_kn_v, k45_42, k45_45, k45_46, k45_49, k45_52, k45_53, k45_56, k45_57, k45_58, CS_at, CS_ar, CS_co, CS_6 hc, CS_7 hc, CS_8 hc, CSf hc, CSuf hc, CS_upat, CS_upar, c_nn, Int.toNat_natCast, c18_0, c18_1, c21_0, c21_1, qt_6, ql_6, qt_7, ql_7, qt_8, ql_8, qtc_18 hc, qlc_18 hc, qtc_21 hc, qlc_21 hc, CSg1 hc, CSu1 hc, qtc_1 hc, qlc_1 hc, CSg2 hc, CSu2 hc, qtc_2 hc, qlc_2 hc, CSg3 hc, CSu3 hc, qtc_3 hc, qlc_3 hc, CSg4 hc, CSu4 hc, qtc_4 hc, qlc_4 hc, CSg5 hc, CSu5 hc, qtc_5 hc, qlc_5 hc, CSg6 hc, CSu6 hc, qtc_6 hc, qlc_6 hc, CSg7 hc, CSu7 hc, qtc_7 hc, qlc_7 hc, CSg8 hc, CSu8 hc, qtc_8 hc, qlc_8 hc, CSg9 hc, CSu9 hc, qtc_9 hc, qlc_9 hc, CSg10 hc, CSu10 hc, qtc_10 hc, qlc_10 hc, CSg11 hc, CSu11 hc, qtc_11 hc, qlc_11 hc, CSg12 hc, CSu12 hc, qtc_12 hc, qlc_12 hc, CSg13 hc, CSu13 hc, qtc_13 hc, qlc_13 hc, CSg14 hc, CSu14 hc, qtc_14 hc, qlc_14 hc, CSg15 hc, CSu15 hc, qtc_15 hc, qlc_15 hc, CSg17 hc, CSu17 hc, qtc_17 hc, qlc_17 hc, CSg19 hc, CSu19 hc, qtc_19 hc, qlc_19 hc, CSg20 hc, CSu20 hc, qtc_20 hc, qlc_20 hc, CSg22 hc, CSu22 hc, qtc_22 hc, qlc_22 hc, CSg23 hc, CSu23 hc, qtc_23 hc, qlc_23 hc, h6, true_implies, false_implies, not_true_eq_false, not_false_eq_true, true_and, and_true, implies_true, or_true, true_or, or_false, false_or, Int.reduceEq, Int.one_ne_zero, Nat.reduceEqDiff]
  refine ⟨by omega, fun t1 => ?_, fun t1 => ?_⟩
  · rw [if_pos t1] at ePP
    simp only [k45_61, k45_62]
    refine fin C2 k2 _ 1 _ d1 d2 (Or.inr rfl) (fun q h => by rw [ePP] at h; cases h) (fun pl' L' cnt z h => ?_)
    rw [ePP] at h
    cases h
    exact ⟨rfl, ⟨C1, z0, z1, z2, s3⟩, c3, hp3⟩
  · rw [if_neg t1] at ePP
    simp only [k45_65]
    exact fin C2 k2 _ 0 _ d1 d2 (Or.inl rfl) (fun q h => by rw [ePP] at h; cases h; exact ⟨rfl, rfl⟩) (fun pl L cnt z h => by rw [ePP] at h; cases h)
end CRK
