/-! the class reads: what it has at a place, its Code C (by places from the Code's own cell on) -/
def CS (c : Nat) (C r : St) (k ar : Int) : St := fun a i => if a = 4 then (if i = 1 then k else if i = 2 then ar else if i = 3 then (c : Int) else r 4 i) else if c ≤ a ∧ a ≤ c + 23 then C (a - c) i else r a i
section CSS
variable {c : Nat} {C r : St} {k ar i x : Int}
theorem c_nn : (0 ≤ ((c : Nat) : Int)) = True := eq_true (Int.natCast_nonneg c)
theorem c18_0 : c + 18 + 1 + (0 : Int).toNat = c + 19 := rfl
theorem c18_1 : c + 18 + 1 + (1 : Int).toNat = c + 20 := rfl
theorem c21_0 : c + 21 + 1 + (0 : Int).toNat = c + 22 := rfl
theorem c21_1 : c + 21 + 1 + (1 : Int).toNat = c + 23 := rfl
theorem CS_at : CS c C r k ar 4 1 = k := rfl
theorem CS_ar : CS c C r k ar 4 2 = ar := rfl
theorem CS_co : CS c C r k ar 4 3 = (c : Int) := rfl
theorem CS_upat : q_up (CS c C r k ar) 4 1 x = CS c C r x ar := by
  funext a j
  simp only [q_up, CS]
  grind
theorem CS_upar : q_up (CS c C r k ar) 4 2 x = CS c C r k x := by
  funext a j
  simp only [q_up, CS]
  grind
theorem q_C_ge (hc : q_C c) : 88 ≤ c := by unfold q_C at hc; omega
theorem CS_r (hc : q_C c) {a : Nat} (h4 : ¬ a = 4) (h : a < 88) : CS c C r k ar a i = r a i := by
  have := q_C_ge hc
  unfold CS
  rw [if_neg h4, if_neg (by omega)]
theorem CS_6 (hc : q_C c) : CS c C r k ar 6 i = r 6 i := CS_r hc (by decide) (by decide)
theorem CS_7 (hc : q_C c) : CS c C r k ar 7 i = r 7 i := CS_r hc (by decide) (by decide)
theorem CS_8 (hc : q_C c) : CS c C r k ar 8 i = r 8 i := CS_r hc (by decide) (by decide)
theorem CS_g (hc : q_C c) {j : Nat} (hj : j ≤ 23) : CS c C r k ar (c + j) i = C j i := by
  have := q_C_ge hc
  unfold CS
  rw [if_neg (by omega), if_pos (by omega), show c + j - c = j by omega]
theorem CS_u (hc : q_C c) {j : Nat} (hj : j ≤ 23) : q_up (CS c C r k ar) (c + j) i x = CS c (q_up C j i x) r k ar := by
  have := q_C_ge hc
  funext a l
  simp only [q_up, CS]
  by_cases h4 : a = 4
  · have n1 : ¬ (a = c + j ∧ l = i) := by omega
    rw [if_neg n1, if_pos h4, if_pos h4]
  · rw [if_neg h4, if_neg h4]
    by_cases h : c ≤ a ∧ a ≤ c + 23
    · rw [if_pos h, if_pos h]
      by_cases e : a = c + j ∧ l = i
      · rw [if_pos e, if_pos (by omega)]
      · rw [if_neg e, if_neg (by omega)]
    · rw [if_neg h, if_neg h, if_neg (by omega)]
theorem CSf (hc : q_C c) : CS c C r k ar c i = C 0 i := CS_g (j := 0) hc (by decide)
theorem CSuf (hc : q_C c) : q_up (CS c C r k ar) c i x = CS c (q_up C 0 i x) r k ar := CS_u (j := 0) hc (by decide)
theorem CSg1 (hc : q_C c) : CS c C r k ar (c + 1) i = C 1 i := CS_g hc (by decide)
theorem CSu1 (hc : q_C c) : q_up (CS c C r k ar) (c + 1) i x = CS c (q_up C 1 i x) r k ar := CS_u hc (by decide)
theorem CSg2 (hc : q_C c) : CS c C r k ar (c + 2) i = C 2 i := CS_g hc (by decide)
theorem CSu2 (hc : q_C c) : q_up (CS c C r k ar) (c + 2) i x = CS c (q_up C 2 i x) r k ar := CS_u hc (by decide)
theorem CSg3 (hc : q_C c) : CS c C r k ar (c + 3) i = C 3 i := CS_g hc (by decide)
theorem CSu3 (hc : q_C c) : q_up (CS c C r k ar) (c + 3) i x = CS c (q_up C 3 i x) r k ar := CS_u hc (by decide)
theorem CSg4 (hc : q_C c) : CS c C r k ar (c + 4) i = C 4 i := CS_g hc (by decide)
theorem CSu4 (hc : q_C c) : q_up (CS c C r k ar) (c + 4) i x = CS c (q_up C 4 i x) r k ar := CS_u hc (by decide)
theorem CSg5 (hc : q_C c) : CS c C r k ar (c + 5) i = C 5 i := CS_g hc (by decide)
theorem CSu5 (hc : q_C c) : q_up (CS c C r k ar) (c + 5) i x = CS c (q_up C 5 i x) r k ar := CS_u hc (by decide)
theorem CSg6 (hc : q_C c) : CS c C r k ar (c + 6) i = C 6 i := CS_g hc (by decide)
theorem CSu6 (hc : q_C c) : q_up (CS c C r k ar) (c + 6) i x = CS c (q_up C 6 i x) r k ar := CS_u hc (by decide)
theorem CSg7 (hc : q_C c) : CS c C r k ar (c + 7) i = C 7 i := CS_g hc (by decide)
theorem CSu7 (hc : q_C c) : q_up (CS c C r k ar) (c + 7) i x = CS c (q_up C 7 i x) r k ar := CS_u hc (by decide)
theorem CSg8 (hc : q_C c) : CS c C r k ar (c + 8) i = C 8 i := CS_g hc (by decide)
theorem CSu8 (hc : q_C c) : q_up (CS c C r k ar) (c + 8) i x = CS c (q_up C 8 i x) r k ar := CS_u hc (by decide)
theorem CSg9 (hc : q_C c) : CS c C r k ar (c + 9) i = C 9 i := CS_g hc (by decide)
theorem CSu9 (hc : q_C c) : q_up (CS c C r k ar) (c + 9) i x = CS c (q_up C 9 i x) r k ar := CS_u hc (by decide)
theorem CSg10 (hc : q_C c) : CS c C r k ar (c + 10) i = C 10 i := CS_g hc (by decide)
theorem CSu10 (hc : q_C c) : q_up (CS c C r k ar) (c + 10) i x = CS c (q_up C 10 i x) r k ar := CS_u hc (by decide)
theorem CSg11 (hc : q_C c) : CS c C r k ar (c + 11) i = C 11 i := CS_g hc (by decide)
theorem CSu11 (hc : q_C c) : q_up (CS c C r k ar) (c + 11) i x = CS c (q_up C 11 i x) r k ar := CS_u hc (by decide)
theorem CSg12 (hc : q_C c) : CS c C r k ar (c + 12) i = C 12 i := CS_g hc (by decide)
theorem CSu12 (hc : q_C c) : q_up (CS c C r k ar) (c + 12) i x = CS c (q_up C 12 i x) r k ar := CS_u hc (by decide)
theorem CSg13 (hc : q_C c) : CS c C r k ar (c + 13) i = C 13 i := CS_g hc (by decide)
theorem CSu13 (hc : q_C c) : q_up (CS c C r k ar) (c + 13) i x = CS c (q_up C 13 i x) r k ar := CS_u hc (by decide)
theorem CSg14 (hc : q_C c) : CS c C r k ar (c + 14) i = C 14 i := CS_g hc (by decide)
theorem CSu14 (hc : q_C c) : q_up (CS c C r k ar) (c + 14) i x = CS c (q_up C 14 i x) r k ar := CS_u hc (by decide)
theorem CSg15 (hc : q_C c) : CS c C r k ar (c + 15) i = C 15 i := CS_g hc (by decide)
theorem CSu15 (hc : q_C c) : q_up (CS c C r k ar) (c + 15) i x = CS c (q_up C 15 i x) r k ar := CS_u hc (by decide)
theorem CSg17 (hc : q_C c) : CS c C r k ar (c + 17) i = C 17 i := CS_g hc (by decide)
theorem CSu17 (hc : q_C c) : q_up (CS c C r k ar) (c + 17) i x = CS c (q_up C 17 i x) r k ar := CS_u hc (by decide)
theorem CSg19 (hc : q_C c) : CS c C r k ar (c + 19) i = C 19 i := CS_g hc (by decide)
theorem CSu19 (hc : q_C c) : q_up (CS c C r k ar) (c + 19) i x = CS c (q_up C 19 i x) r k ar := CS_u hc (by decide)
theorem CSg20 (hc : q_C c) : CS c C r k ar (c + 20) i = C 20 i := CS_g hc (by decide)
theorem CSu20 (hc : q_C c) : q_up (CS c C r k ar) (c + 20) i x = CS c (q_up C 20 i x) r k ar := CS_u hc (by decide)
theorem CSg22 (hc : q_C c) : CS c C r k ar (c + 22) i = C 22 i := CS_g hc (by decide)
theorem CSu22 (hc : q_C c) : q_up (CS c C r k ar) (c + 22) i x = CS c (q_up C 22 i x) r k ar := CS_u hc (by decide)
theorem CSg23 (hc : q_C c) : CS c C r k ar (c + 23) i = C 23 i := CS_g hc (by decide)
theorem CSu23 (hc : q_C c) : q_up (CS c C r k ar) (c + 23) i x = CS c (q_up C 23 i x) r k ar := CS_u hc (by decide)
end CSS
/-- what a reading method leaves: the place, its answer -/
def CX {α : Type} (P : Int → Int) (M : Int) (x : PX α) (k' res : Int) : Prop := 0 ≤ k' ∧ k' ≤ M ∧ (match x with | .inl q => res = 0 ∧ q = P k' | .inr (_, q) => res = 1 ∧ q = P k')
/-- a check is told -/
def K_chk (C : St) (s row v : Int) : St := q_up (q_up (q_up (q_up (q_up C 0 1 (C 0 1 + 1)) 7 s (C 0 1)) 12 (C 0 1) s) 13 (C 0 1) row) 14 (C 0 1) v
section CRD
variable {sc : Nat × (Nat → Int32)} {D : Nat} {bb : Bool} {Q : QP} {c : Nat} {C r : St} {k ar n M s : Int} {f P pl : Int → Int}
theorem TKS_lt (hT : TKS r f n P M) (h0 : 0 ≤ k) (hk : k ≤ M) (h : ¬ tk f n (P k) = -1) : k + 1 ≤ M ∧ P (k + 1) = nx f n (P k) ∧ P k < n := by
  obtain ⟨m0, m1, t1, t2, t3, t4⟩ := hT
  by_cases e : k = M
  · subst e
    exact absurd (tk_past t3).1 h
  · have := t2 k h0 (by omega)
    exact ⟨by omega, this.2, this.1⟩
theorem n_51 (hc : q_C c) (hT : TKS r f n P M) (h0 : 0 ≤ k) (hk : k ≤ M) {e : Int} (he : ¬ e = -1) (k1 : tk f n (P k) = e → k + 1 ≤ M → P (k + 1) = nx f n (P k) → Q (.inl (some (vi 1))) bb (CS c C r (k + 1) ar)) (k0 : ¬ tk f n (P k) = e → Q (.inl (some (vi 0))) bb (CS c C r k ar)) : qx sc D 51 0 [vr 4, vi e] [] (0, 0) bb (CS c C r k ar) Q := by
  have h6 := (hT.2.2.1 k h0 hk).2.1
  have hM := hT.2.1
  simp only [k51_0, k51_1, k51_4, k51_7, k51_8, k51_11, k51_12, k51_13, k51_16, k51_17, k51_18, k51_19, k51_20, k51_23, k51_24, k51_25, k51_28, k51_29, CS_at, CS_ar, CS_co, CS_6 hc, CS_7 hc, CS_8 hc, CSf hc, CSuf hc, CS_upat, CS_upar, c_nn, Int.toNat_natCast, c18_0, c18_1, c21_0, c21_1, qt_6, ql_6, qt_7, ql_7, qt_8, ql_8, qtc_18 hc, qlc_18 hc, qtc_21 hc, qlc_21 hc, CSg1 hc, CSu1 hc, qtc_1 hc, qlc_1 hc, CSg2 hc, CSu2 hc, qtc_2 hc, qlc_2 hc, CSg3 hc, CSu3 hc, qtc_3 hc, qlc_3 hc, CSg4 hc, CSu4 hc, qtc_4 hc, qlc_4 hc, CSg5 hc, CSu5 hc, qtc_5 hc, qlc_5 hc, CSg6 hc, CSu6 hc, qtc_6 hc, qlc_6 hc, CSg7 hc, CSu7 hc, qtc_7 hc, qlc_7 hc, CSg8 hc, CSu8 hc, qtc_8 hc, qlc_8 hc, CSg9 hc, CSu9 hc, qtc_9 hc, qlc_9 hc, CSg10 hc, CSu10 hc, qtc_10 hc, qlc_10 hc, CSg11 hc, CSu11 hc, qtc_11 hc, qlc_11 hc, CSg12 hc, CSu12 hc, qtc_12 hc, qlc_12 hc, CSg13 hc, CSu13 hc, qtc_13 hc, qlc_13 hc, CSg14 hc, CSu14 hc, qtc_14 hc, qlc_14 hc, CSg15 hc, CSu15 hc, qtc_15 hc, qlc_15 hc, CSg17 hc, CSu17 hc, qtc_17 hc, qlc_17 hc, CSg19 hc, CSu19 hc, qtc_19 hc, qlc_19 hc, CSg20 hc, CSu20 hc, qtc_20 hc, qlc_20 hc, CSg22 hc, CSu22 hc, qtc_22 hc, qlc_22 hc, CSg23 hc, CSu23 hc, qtc_23 hc, qlc_23 hc, h6, true_implies, false_implies, not_true_eq_false, not_false_eq_true, true_and, and_true, implies_true, or_true, true_or, or_false, false_or, Int.reduceEq, Int.one_ne_zero, Nat.reduceEqDiff]
  refine ⟨by omega, fun h => ?_, fun h => k0 h⟩
  obtain ⟨a1, a2, -⟩ := TKS_lt hT h0 hk (by rw [h]; exact he)
  exact ⟨by omega, k1 h a1 a2⟩
theorem n_57 (hc : q_C c) (hT : TKS r f n P M) (hf : t_by f n) (h0 : 0 ≤ k) (hk : k ≤ M) (k1 : 97 ≤ tk f n (P k) ∧ tk f n (P k) ≤ 104 → k + 1 ≤ M → P (k + 1) = nx f n (P k) → Q (.inl (some (vi (tk f n (P k) - 97)))) bb (CS c C r (k + 1) ar)) (k0 : ¬ (97 ≤ tk f n (P k) ∧ tk f n (P k) ≤ 104) → Q (.inl (some (vi (-1)))) bb (CS c C r k ar)) : qx sc D 57 0 [vr 4, vn] [] (0, 0) bb (CS c C r k ar) Q := by
  obtain ⟨-, h6, -, hp⟩ := hT.2.2.1 k h0 hk
  have hM := hT.2.1
  have hr : -1 ≤ tk f n (P k) ∧ tk f n (P k) ≤ 264 := by
    by_cases e : P k < n
    · have := tk_ge hf hp e; omega
    · have := (tk_past (f := f) (n := n) (p := P k) (by omega)).1; omega
  simp only [k57_0, k57_1, k57_4, k57_7, k57_8, k57_11, k57_12, k57_14, k57_15, k57_16, k57_17, k57_20, k57_21, k57_23, k57_26, k57_27, k57_28, k57_29, k57_30, k57_33, k57_34, k57_35, k57_38, k57_39, CS_at, CS_ar, CS_co, CS_6 hc, CS_7 hc, CS_8 hc, CSf hc, CSuf hc, CS_upat, CS_upar, c_nn, Int.toNat_natCast, c18_0, c18_1, c21_0, c21_1, qt_6, ql_6, qt_7, ql_7, qt_8, ql_8, qtc_18 hc, qlc_18 hc, qtc_21 hc, qlc_21 hc, CSg1 hc, CSu1 hc, qtc_1 hc, qlc_1 hc, CSg2 hc, CSu2 hc, qtc_2 hc, qlc_2 hc, CSg3 hc, CSu3 hc, qtc_3 hc, qlc_3 hc, CSg4 hc, CSu4 hc, qtc_4 hc, qlc_4 hc, CSg5 hc, CSu5 hc, qtc_5 hc, qlc_5 hc, CSg6 hc, CSu6 hc, qtc_6 hc, qlc_6 hc, CSg7 hc, CSu7 hc, qtc_7 hc, qlc_7 hc, CSg8 hc, CSu8 hc, qtc_8 hc, qlc_8 hc, CSg9 hc, CSu9 hc, qtc_9 hc, qlc_9 hc, CSg10 hc, CSu10 hc, qtc_10 hc, qlc_10 hc, CSg11 hc, CSu11 hc, qtc_11 hc, qlc_11 hc, CSg12 hc, CSu12 hc, qtc_12 hc, qlc_12 hc, CSg13 hc, CSu13 hc, qtc_13 hc, qlc_13 hc, CSg14 hc, CSu14 hc, qtc_14 hc, qlc_14 hc, CSg15 hc, CSu15 hc, qtc_15 hc, qlc_15 hc, CSg17 hc, CSu17 hc, qtc_17 hc, qlc_17 hc, CSg19 hc, CSu19 hc, qtc_19 hc, qlc_19 hc, CSg20 hc, CSu20 hc, qtc_20 hc, qlc_20 hc, CSg22 hc, CSu22 hc, qtc_22 hc, qlc_22 hc, CSg23 hc, CSu23 hc, qtc_23 hc, qlc_23 hc, h6, true_implies, false_implies, not_true_eq_false, not_false_eq_true, true_and, and_true, implies_true, or_true, true_or, or_false, false_or, Int.reduceEq, Int.one_ne_zero, Nat.reduceEqDiff]
  refine ⟨by omega, by omega, fun h => k0 (by omega), fun h => ⟨fun h2 => ?_, fun h2 => k0 (by omega)⟩⟩
  obtain ⟨a1, a2, -⟩ := TKS_lt hT h0 hk (by omega)
  exact ⟨by omega, k1 (by omega) a1 a2⟩
theorem n_43 (hc : q_C c) (hT : TKS r f n P M) (h0 : 0 ≤ k) (hk : k ≤ M) {most : Int} (k1 : tk f n (P k) = 262 ∧ tw f n (P k) ≤ most → k + 1 ≤ M → P (k + 1) = nx f n (P k) → Q (.inl (some (vi (tw f n (P k))))) bb (CS c C r (k + 1) ar)) (k0 : ¬ (tk f n (P k) = 262 ∧ tw f n (P k) ≤ most) → Q (.inl (some (vi (-1)))) bb (CS c C r k ar)) : qx sc D 43 0 [vr 4, vi most] [] (0, 0) bb (CS c C r k ar) Q := by
  obtain ⟨-, h6, h8, hp⟩ := hT.2.2.1 k h0 hk
  have hM := hT.2.1
  have e1 : k + 1 - 1 = k := by omega
  simp only [k43_0, k43_1, k43_4, k43_7, k43_8, k43_11, k43_12, k43_15, k43_18, k43_19, k43_22, k43_25, k43_26, k43_29, k43_30, k43_31, k43_34, k43_35, k43_36, k43_37, k43_38, k43_41, k43_42, k43_43, k43_46, k43_47, k43_50, k43_53, k43_54, k43_57, k43_58, k43_59, k43_60, CS_at, CS_ar, CS_co, CS_6 hc, CS_7 hc, CS_8 hc, CSf hc, CSuf hc, CS_upat, CS_upar, c_nn, Int.toNat_natCast, c18_0, c18_1, c21_0, c21_1, qt_6, ql_6, qt_7, ql_7, qt_8, ql_8, qtc_18 hc, qlc_18 hc, qtc_21 hc, qlc_21 hc, CSg1 hc, CSu1 hc, qtc_1 hc, qlc_1 hc, CSg2 hc, CSu2 hc, qtc_2 hc, qlc_2 hc, CSg3 hc, CSu3 hc, qtc_3 hc, qlc_3 hc, CSg4 hc, CSu4 hc, qtc_4 hc, qlc_4 hc, CSg5 hc, CSu5 hc, qtc_5 hc, qlc_5 hc, CSg6 hc, CSu6 hc, qtc_6 hc, qlc_6 hc, CSg7 hc, CSu7 hc, qtc_7 hc, qlc_7 hc, CSg8 hc, CSu8 hc, qtc_8 hc, qlc_8 hc, CSg9 hc, CSu9 hc, qtc_9 hc, qlc_9 hc, CSg10 hc, CSu10 hc, qtc_10 hc, qlc_10 hc, CSg11 hc, CSu11 hc, qtc_11 hc, qlc_11 hc, CSg12 hc, CSu12 hc, qtc_12 hc, qlc_12 hc, CSg13 hc, CSu13 hc, qtc_13 hc, qlc_13 hc, CSg14 hc, CSu14 hc, qtc_14 hc, qlc_14 hc, CSg15 hc, CSu15 hc, qtc_15 hc, qlc_15 hc, CSg17 hc, CSu17 hc, qtc_17 hc, qlc_17 hc, CSg19 hc, CSu19 hc, qtc_19 hc, qlc_19 hc, CSg20 hc, CSu20 hc, qtc_20 hc, qlc_20 hc, CSg22 hc, CSu22 hc, qtc_22 hc, qlc_22 hc, CSg23 hc, CSu23 hc, qtc_23 hc, qlc_23 hc, h6, e1, true_implies, false_implies, not_true_eq_false, not_false_eq_true, true_and, and_true, implies_true, or_true, true_or, or_false, false_or, Int.reduceEq, Int.one_ne_zero, Nat.reduceEqDiff]
  refine ⟨by omega, fun h => ?_, fun h => k0 (fun h2 => h h2.1)⟩
  rw [h8 h]
  obtain ⟨a1, a2, -⟩ := TKS_lt hT h0 hk (by omega)
  refine ⟨by omega, fun h2 => ?_, fun h2 => ?_⟩
  · first | exact k0 (fun h3 => by omega) | exact ⟨by omega, by omega, by omega, k1 ⟨h, by omega⟩ a1 a2⟩
  · first | exact ⟨by omega, by omega, by omega, k1 ⟨h, by omega⟩ a1 a2⟩ | exact k0 (fun h3 => by omega)
theorem n_55 (hc : q_C c) (hT : TKS r f n P M) (hf : t_by f n) (hpl : ∀ i, i = 0 ∨ i = 1 ∨ i = 2 → C 1 i = pl i) (h0 : 0 ≤ k) (hk : k ≤ M) (k1 : (65 ≤ tk f n (P k) ∧ tk f n (P k) ≤ 67) ∧ ¬ pl (tk f n (P k) - 65) = -1 → k + 1 ≤ M → P (k + 1) = nx f n (P k) → Q (.inl (some (vi (tk f n (P k) - 65)))) bb (CS c C r (k + 1) ar)) (k0 : ¬ ((65 ≤ tk f n (P k) ∧ tk f n (P k) ≤ 67) ∧ ¬ pl (tk f n (P k) - 65) = -1) → Q (.inl (some (vi (-1)))) bb (CS c C r k ar)) : qx sc D 55 0 [vr 4, vn] [] (0, 0) bb (CS c C r k ar) Q := by
  obtain ⟨-, h6, -, hp⟩ := hT.2.2.1 k h0 hk
  have hM := hT.2.1
  have hr : -1 ≤ tk f n (P k) ∧ tk f n (P k) ≤ 264 := by
    by_cases e : P k < n
    · have := tk_ge hf hp e; omega
    · have := (tk_past (f := f) (n := n) (p := P k) (by omega)).1; omega
  simp only [k55_0, k55_1, k55_4, k55_7, k55_8, k55_11, k55_12, k55_14, k55_15, k55_16, k55_17, k55_20, k55_21, k55_22, k55_25, k55_26, k55_29 hc, k55_32, k55_33, k55_34, k55_35, k55_38, k55_39, k55_40, k55_41, k55_42, k55_45, k55_46, k55_47, k55_50, k55_51, CS_at, CS_ar, CS_co, CS_6 hc, CS_7 hc, CS_8 hc, CSf hc, CSuf hc, CS_upat, CS_upar, c_nn, Int.toNat_natCast, c18_0, c18_1, c21_0, c21_1, qt_6, ql_6, qt_7, ql_7, qt_8, ql_8, qtc_18 hc, qlc_18 hc, qtc_21 hc, qlc_21 hc, CSg1 hc, CSu1 hc, qtc_1 hc, qlc_1 hc, CSg2 hc, CSu2 hc, qtc_2 hc, qlc_2 hc, CSg3 hc, CSu3 hc, qtc_3 hc, qlc_3 hc, CSg4 hc, CSu4 hc, qtc_4 hc, qlc_4 hc, CSg5 hc, CSu5 hc, qtc_5 hc, qlc_5 hc, CSg6 hc, CSu6 hc, qtc_6 hc, qlc_6 hc, CSg7 hc, CSu7 hc, qtc_7 hc, qlc_7 hc, CSg8 hc, CSu8 hc, qtc_8 hc, qlc_8 hc, CSg9 hc, CSu9 hc, qtc_9 hc, qlc_9 hc, CSg10 hc, CSu10 hc, qtc_10 hc, qlc_10 hc, CSg11 hc, CSu11 hc, qtc_11 hc, qlc_11 hc, CSg12 hc, CSu12 hc, qtc_12 hc, qlc_12 hc, CSg13 hc, CSu13 hc, qtc_13 hc, qlc_13 hc, CSg14 hc, CSu14 hc, qtc_14 hc, qlc_14 hc, CSg15 hc, CSu15 hc, qtc_15 hc, qlc_15 hc, CSg17 hc, CSu17 hc, qtc_17 hc, qlc_17 hc, CSg19 hc, CSu19 hc, qtc_19 hc, qlc_19 hc, CSg20 hc, CSu20 hc, qtc_20 hc, qlc_20 hc, CSg22 hc, CSu22 hc, qtc_22 hc, qlc_22 hc, CSg23 hc, CSu23 hc, qtc_23 hc, qlc_23 hc, h6, true_implies, false_implies, not_true_eq_false, not_false_eq_true, true_and, and_true, implies_true, or_true, true_or, or_false, false_or, Int.reduceEq, Int.one_ne_zero, Nat.reduceEqDiff]
  refine ⟨by omega, by omega, fun h => k0 (fun h3 => by omega), fun h => ⟨fun h2 => ⟨by omega, ?_⟩, fun h2 => k0 (fun h3 => by omega)⟩⟩
  have hp := hpl (tk f n (P k) - 65) (by omega)
  rw [hp]
  refine ⟨fun h3 => k0 (fun h4 => h4.2 h3), fun h3 => ?_⟩
  obtain ⟨a1, a2, -⟩ := TKS_lt hT h0 hk (by omega)
  exact ⟨by omega, k1 ⟨by omega, h3⟩ a1 a2⟩
theorem c10 (hc : q_C c) {row v : Int} (hs : 0 ≤ s ∧ s < 40) (hk : 0 ≤ C 0 1 ∧ C 0 1 < 40) : qx sc D 10 0 [vr c, vi s, vi row, vi v, vn] [] (0, 0) bb (CS c C r k ar) Q ↔ Q (.inl none) bb (CS c (K_chk C s row v) r k ar) := by
  simp only [k10_0, k10_1 hc, k10_4, k10_6, k10_7, k10_8 hc, k10_11, k10_12, k10_13 hc, k10_16, k10_17 hc, k10_20, k10_21, k10_23, k10_24, k10_25 hc, k10_28, k10_30, k10_31, k10_32, k10_33 hc, k10_36, k10_38, k10_39, k10_40, k10_41 hc, k10_44, k10_46, k10_47, k10_48, CS_at, CS_ar, CS_co, CS_6 hc, CS_7 hc, CS_8 hc, CSf hc, CSuf hc, CS_upat, CS_upar, c_nn, Int.toNat_natCast, c18_0, c18_1, c21_0, c21_1, qt_6, ql_6, qt_7, ql_7, qt_8, ql_8, qtc_18 hc, qlc_18 hc, qtc_21 hc, qlc_21 hc, CSg1 hc, CSu1 hc, qtc_1 hc, qlc_1 hc, CSg2 hc, CSu2 hc, qtc_2 hc, qlc_2 hc, CSg3 hc, CSu3 hc, qtc_3 hc, qlc_3 hc, CSg4 hc, CSu4 hc, qtc_4 hc, qlc_4 hc, CSg5 hc, CSu5 hc, qtc_5 hc, qlc_5 hc, CSg6 hc, CSu6 hc, qtc_6 hc, qlc_6 hc, CSg7 hc, CSu7 hc, qtc_7 hc, qlc_7 hc, CSg8 hc, CSu8 hc, qtc_8 hc, qlc_8 hc, CSg9 hc, CSu9 hc, qtc_9 hc, qlc_9 hc, CSg10 hc, CSu10 hc, qtc_10 hc, qlc_10 hc, CSg11 hc, CSu11 hc, qtc_11 hc, qlc_11 hc, CSg12 hc, CSu12 hc, qtc_12 hc, qlc_12 hc, CSg13 hc, CSu13 hc, qtc_13 hc, qlc_13 hc, CSg14 hc, CSu14 hc, qtc_14 hc, qlc_14 hc, CSg15 hc, CSu15 hc, qtc_15 hc, qlc_15 hc, CSg17 hc, CSu17 hc, qtc_17 hc, qlc_17 hc, CSg19 hc, CSu19 hc, qtc_19 hc, qlc_19 hc, CSg20 hc, CSu20 hc, qtc_20 hc, qlc_20 hc, CSg22 hc, CSu22 hc, qtc_22 hc, qlc_22 hc, CSg23 hc, CSu23 hc, qtc_23 hc, qlc_23 hc, q_up_eq, q_up_ne, q_up_ne2, q_upf_ne, q_upf_eq, not_false_eq_true, Nat.reduceEqDiff, K_chk, true_implies, false_implies, not_true_eq_false, not_false_eq_true, true_and, and_true, implies_true, or_true, true_or, or_false, false_or, Int.reduceEq, Int.one_ne_zero, Nat.reduceEqDiff]
  exact ⟨fun h => by (repeat replace h := And.right h); exact h, fun h => by (repeat refine And.intro (by omega) ?_); exact h⟩
theorem c11 (hc : q_C c) (hs : 0 ≤ s ∧ s < 40) (hk : 0 ≤ C 0 2 ∧ C 0 2 < 40) : qx sc D 11 0 [vr c, vi s, vn] [] (0, 0) bb (CS c C r k ar) Q ↔ Q (.inl (some (vi (C 0 2)))) bb (CS c (q_up (q_up (q_up C 0 2 (C 0 2 + 1)) 8 s (C 0 2)) 15 (C 0 2) s) r k ar) := by
  simp only [k11_0, k11_1 hc, k11_4, k11_5, k11_6, k11_7 hc, k11_10, k11_11, k11_12 hc, k11_15, k11_16 hc, k11_19, k11_20, k11_21, k11_22, k11_23 hc, k11_26, k11_27, k11_28, k11_29, k11_30, CS_at, CS_ar, CS_co, CS_6 hc, CS_7 hc, CS_8 hc, CSf hc, CSuf hc, CS_upat, CS_upar, c_nn, Int.toNat_natCast, c18_0, c18_1, c21_0, c21_1, qt_6, ql_6, qt_7, ql_7, qt_8, ql_8, qtc_18 hc, qlc_18 hc, qtc_21 hc, qlc_21 hc, CSg1 hc, CSu1 hc, qtc_1 hc, qlc_1 hc, CSg2 hc, CSu2 hc, qtc_2 hc, qlc_2 hc, CSg3 hc, CSu3 hc, qtc_3 hc, qlc_3 hc, CSg4 hc, CSu4 hc, qtc_4 hc, qlc_4 hc, CSg5 hc, CSu5 hc, qtc_5 hc, qlc_5 hc, CSg6 hc, CSu6 hc, qtc_6 hc, qlc_6 hc, CSg7 hc, CSu7 hc, qtc_7 hc, qlc_7 hc, CSg8 hc, CSu8 hc, qtc_8 hc, qlc_8 hc, CSg9 hc, CSu9 hc, qtc_9 hc, qlc_9 hc, CSg10 hc, CSu10 hc, qtc_10 hc, qlc_10 hc, CSg11 hc, CSu11 hc, qtc_11 hc, qlc_11 hc, CSg12 hc, CSu12 hc, qtc_12 hc, qlc_12 hc, CSg13 hc, CSu13 hc, qtc_13 hc, qlc_13 hc, CSg14 hc, CSu14 hc, qtc_14 hc, qlc_14 hc, CSg15 hc, CSu15 hc, qtc_15 hc, qlc_15 hc, CSg17 hc, CSu17 hc, qtc_17 hc, qlc_17 hc, CSg19 hc, CSu19 hc, qtc_19 hc, qlc_19 hc, CSg20 hc, CSu20 hc, qtc_20 hc, qlc_20 hc, CSg22 hc, CSu22 hc, qtc_22 hc, qlc_22 hc, CSg23 hc, CSu23 hc, qtc_23 hc, qlc_23 hc, q_up_eq, q_up_ne, q_up_ne2, q_upf_ne, q_upf_eq, not_false_eq_true, Nat.reduceEqDiff, true_implies, false_implies, not_true_eq_false, not_false_eq_true, true_and, and_true, implies_true, or_true, true_or, or_false, false_or, Int.reduceEq, Int.one_ne_zero, Nat.reduceEqDiff]
  exact ⟨fun h => by (repeat replace h := And.right h); exact h, fun h => by (repeat refine And.intro (by omega) ?_); exact h⟩
/-- a statement begins -/
def K_beg (C : St) (kind ar : Int) : St := q_up (q_up (q_up (q_up (q_up (q_up (q_up (q_up (q_up (q_up (q_up C 0 0 (C 0 0 + 1)) 2 (C 0 0) kind) 3 (C 0 0) (-1)) 4 (C 0 0) 0) 5 (C 0 0) (-1)) 6 (C 0 0) 0) 7 (C 0 0) (-1)) 8 (C 0 0) (-1)) 9 (C 0 0) ar) 10 (C 0 0) (C 0 0 + 1)) 11 (C 0 0) (C 0 0 + 1)
theorem c12 (hc : q_C c) {kind a2 : Int} (hs : 0 ≤ C 0 0 ∧ C 0 0 < 40) : qx sc D 12 0 [vr c, vi kind, vi a2, vn] [] (0, 0) bb (CS c C r k ar) Q ↔ Q (.inl (some (vi (C 0 0)))) bb (CS c (K_beg C kind a2) r k ar) := by
  simp only [k12_0, k12_1 hc, k12_4, k12_5, k12_6, k12_7 hc, k12_10, k12_11, k12_12 hc, k12_15, k12_16 hc, k12_19, k12_20, k12_21, k12_22, k12_23 hc, k12_26, k12_27, k12_28, k12_29, k12_30 hc, k12_33, k12_34, k12_35, k12_36, k12_37 hc, k12_40, k12_41, k12_42, k12_43, k12_44 hc, k12_47, k12_48, k12_49, k12_50, k12_51 hc, k12_54, k12_55, k12_56, k12_57, k12_58 hc, k12_61, k12_62, k12_63, k12_64, k12_65 hc, k12_68, k12_69, k12_70, k12_71, k12_72 hc, k12_75, k12_76, k12_77, k12_78, k12_79, k12_80, k12_81 hc, k12_84, k12_85, k12_86, k12_87, k12_88, k12_89, k12_90, CS_at, CS_ar, CS_co, CS_6 hc, CS_7 hc, CS_8 hc, CSf hc, CSuf hc, CS_upat, CS_upar, c_nn, Int.toNat_natCast, c18_0, c18_1, c21_0, c21_1, qt_6, ql_6, qt_7, ql_7, qt_8, ql_8, qtc_18 hc, qlc_18 hc, qtc_21 hc, qlc_21 hc, CSg1 hc, CSu1 hc, qtc_1 hc, qlc_1 hc, CSg2 hc, CSu2 hc, qtc_2 hc, qlc_2 hc, CSg3 hc, CSu3 hc, qtc_3 hc, qlc_3 hc, CSg4 hc, CSu4 hc, qtc_4 hc, qlc_4 hc, CSg5 hc, CSu5 hc, qtc_5 hc, qlc_5 hc, CSg6 hc, CSu6 hc, qtc_6 hc, qlc_6 hc, CSg7 hc, CSu7 hc, qtc_7 hc, qlc_7 hc, CSg8 hc, CSu8 hc, qtc_8 hc, qlc_8 hc, CSg9 hc, CSu9 hc, qtc_9 hc, qlc_9 hc, CSg10 hc, CSu10 hc, qtc_10 hc, qlc_10 hc, CSg11 hc, CSu11 hc, qtc_11 hc, qlc_11 hc, CSg12 hc, CSu12 hc, qtc_12 hc, qlc_12 hc, CSg13 hc, CSu13 hc, qtc_13 hc, qlc_13 hc, CSg14 hc, CSu14 hc, qtc_14 hc, qlc_14 hc, CSg15 hc, CSu15 hc, qtc_15 hc, qlc_15 hc, CSg17 hc, CSu17 hc, qtc_17 hc, qlc_17 hc, CSg19 hc, CSu19 hc, qtc_19 hc, qlc_19 hc, CSg20 hc, CSu20 hc, qtc_20 hc, qlc_20 hc, CSg22 hc, CSu22 hc, qtc_22 hc, qlc_22 hc, CSg23 hc, CSu23 hc, qtc_23 hc, qlc_23 hc, q_up_eq, q_up_ne, q_up_ne2, q_upf_ne, q_upf_eq, not_false_eq_true, Nat.reduceEqDiff, K_beg, true_implies, false_implies, not_true_eq_false, not_false_eq_true, true_and, and_true, implies_true, or_true, true_or, or_false, false_or, Int.reduceEq, Int.one_ne_zero, Nat.reduceEqDiff]
  exact ⟨fun h => by (repeat replace h := And.right h); exact h, fun h => by (repeat refine And.intro (by omega) ?_); exact h⟩
theorem n_42 (hc : q_C c) (hT : TKS r f n P M) (hf : t_by f n) (hpl : ∀ i, i = 0 ∨ i = 1 ∨ i = 2 → C 1 i = pl i) (h0 : 0 ≤ k) (hk : k ≤ M) (hs : 0 ≤ s ∧ s < 40) (hck : 0 ≤ C 0 1 ∧ C 0 1 < 40)
    (kk : ∀ C' k' res, CX P M (p_el f n pl (P k)) k' res → (∀ e q, p_el f n pl (P k) = .inr (e, q) → C' = K_chk C s e.1 e.2 ∧ 0 ≤ e.2 ∧ e.2 ≤ 7 ∧ 0 ≤ e.1 ∧ e.1 ≤ 2) → Q (.inl (some (vi res))) bb (CS c C' r k' ar)) : qx sc (D + 1) 42 0 [vr 4, vi s, vn, vn] [] (0, 0) bb (CS c C r k ar) Q := by
  simp only [k42_0, k42_1]
  refine n_55 hc hT hf hpl h0 hk (fun t1 k1 e1 => ?_) (fun t1 => ?_)
  · have x1 : p_ro f n pl (P k) = .inr (tk f n (P k) - 65, P (k + 1)) := by unfold p_ro; rw [if_pos t1, e1]
    unfold p_el at kk
    rw [x1] at kk
    simp only [p_b_inr] at kk
    have z1 : ¬ tk f n (P k) - 65 = -1 := by omega
    simp only [q_kn_v, k42_4, k42_5, k42_6, k42_7, k42_10, k42_11, k42_13, z1, true_implies, false_implies, not_true_eq_false, not_false_eq_true, true_and, and_true, implies_true, or_true, true_or, or_false, false_or, Int.reduceEq, Int.one_ne_zero, Nat.reduceEqDiff]
    refine n_51 hc hT (by omega) k1 (by decide) (fun t2 k2 e2 => ?_) (fun t2 => ?_)
    · have x2 : p_sg f n 91 (P (k + 1)) = .inr ((), P (k + 1 + 1)) := by unfold p_sg; rw [if_pos t2, e2]
      rw [x2] at kk
      simp only [p_b_inr] at kk
      simp only [q_kn_v, k42_16, k42_19, k42_20, k42_21, k42_22, true_implies, false_implies, not_true_eq_false, not_false_eq_true, true_and, and_true, implies_true, or_true, true_or, or_false, false_or, Int.reduceEq, Int.one_ne_zero, Nat.reduceEqDiff]
      refine n_57 hc hT hf (by omega) k2 (fun t3 k3 e3 => ?_) (fun t3 => ?_)
      · have x3 : p_va f n (P (k + 1 + 1)) = .inr (tk f n (P (k + 1 + 1)) - 97, P (k + 1 + 1 + 1)) := by unfold p_va; rw [if_pos t3, e3]
        rw [x3] at kk
        simp only [p_b_inr] at kk
        have z3 : ¬ tk f n (P (k + 1 + 1)) - 97 = -1 := by omega
        simp only [q_kn_v, k42_25, k42_26, k42_27, k42_28, k42_31, k42_32, k42_34, z3, true_implies, false_implies, not_true_eq_false, not_false_eq_true, true_and, and_true, implies_true, or_true, true_or, or_false, false_or, Int.reduceEq, Int.one_ne_zero, Nat.reduceEqDiff]
        refine n_51 hc hT (by omega) k3 (by decide) (fun t4 k4 e4 => ?_) (fun t4 => ?_)
        · have x4 : p_sg f n 93 (P (k + 1 + 1 + 1)) = .inr ((), P (k + 1 + 1 + 1 + 1)) := by unfold p_sg; rw [if_pos t4, e4]
          rw [x4] at kk
          simp only [p_b_inr] at kk
          simp only [q_kn_v, k42_37, k42_40, k42_41, k42_42, k42_43, k42_46, k42_47, k42_48, k42_49 hc, CS_at, CS_ar, CS_co, CS_6 hc, CS_7 hc, CS_8 hc, CSf hc, CSuf hc, CS_upat, CS_upar, c_nn, Int.toNat_natCast, c18_0, c18_1, c21_0, c21_1, qt_6, ql_6, qt_7, ql_7, qt_8, ql_8, qtc_18 hc, qlc_18 hc, qtc_21 hc, qlc_21 hc, CSg1 hc, CSu1 hc, qtc_1 hc, qlc_1 hc, CSg2 hc, CSu2 hc, qtc_2 hc, qlc_2 hc, CSg3 hc, CSu3 hc, qtc_3 hc, qlc_3 hc, CSg4 hc, CSu4 hc, qtc_4 hc, qlc_4 hc, CSg5 hc, CSu5 hc, qtc_5 hc, qlc_5 hc, CSg6 hc, CSu6 hc, qtc_6 hc, qlc_6 hc, CSg7 hc, CSu7 hc, qtc_7 hc, qlc_7 hc, CSg8 hc, CSu8 hc, qtc_8 hc, qlc_8 hc, CSg9 hc, CSu9 hc, qtc_9 hc, qlc_9 hc, CSg10 hc, CSu10 hc, qtc_10 hc, qlc_10 hc, CSg11 hc, CSu11 hc, qtc_11 hc, qlc_11 hc, CSg12 hc, CSu12 hc, qtc_12 hc, qlc_12 hc, CSg13 hc, CSu13 hc, qtc_13 hc, qlc_13 hc, CSg14 hc, CSu14 hc, qtc_14 hc, qlc_14 hc, CSg15 hc, CSu15 hc, qtc_15 hc, qlc_15 hc, CSg17 hc, CSu17 hc, qtc_17 hc, qlc_17 hc, CSg19 hc, CSu19 hc, qtc_19 hc, qlc_19 hc, CSg20 hc, CSu20 hc, qtc_20 hc, qlc_20 hc, CSg22 hc, CSu22 hc, qtc_22 hc, qlc_22 hc, CSg23 hc, CSu23 hc, qtc_23 hc, qlc_23 hc, c10 hc hs hck, q_kn_n, k42_52, k42_53, true_implies, false_implies, not_true_eq_false, not_false_eq_true, true_and, and_true, implies_true, or_true, true_or, or_false, false_or, Int.reduceEq, Int.one_ne_zero, Nat.reduceEqDiff]
          refine kk _ _ _ ⟨by omega, k4, rfl, rfl⟩ (fun e q h => ?_)
          cases h
          exact ⟨rfl, by omega, by omega, by omega, by omega⟩
        · have x4 : p_sg f n 93 (P (k + 1 + 1 + 1)) = .inl (P (k + 1 + 1 + 1)) := by unfold p_sg; rw [if_neg t4]
          rw [x4] at kk
          simp only [q_kn_v, k42_37, k42_40, k42_41, true_implies, false_implies, not_true_eq_false, not_false_eq_true, true_and, and_true, implies_true, or_true, true_or, or_false, false_or, Int.reduceEq, Int.one_ne_zero, Nat.reduceEqDiff]
          exact kk _ _ _ ⟨by omega, k3, rfl, rfl⟩ (fun e q h => by cases h)
      · have x3 : p_va f n (P (k + 1 + 1)) = .inl (P (k + 1 + 1)) := by unfold p_va; rw [if_neg t3]
        rw [x3] at kk
        simp only [q_kn_v, k42_25, k42_26, k42_27, k42_28, k42_40, k42_41, true_implies, false_implies, not_true_eq_false, not_false_eq_true, true_and, and_true, implies_true, or_true, true_or, or_false, false_or, Int.reduceEq, Int.one_ne_zero, Nat.reduceEqDiff]
        exact kk _ _ _ ⟨by omega, k2, rfl, rfl⟩ (fun e q h => by cases h)
    · have x2 : p_sg f n 91 (P (k + 1)) = .inl (P (k + 1)) := by unfold p_sg; rw [if_neg t2]
      rw [x2] at kk
      simp only [q_kn_v, k42_16, k42_19, k42_20, true_implies, false_implies, not_true_eq_false, not_false_eq_true, true_and, and_true, implies_true, or_true, true_or, or_false, false_or, Int.reduceEq, Int.one_ne_zero, Nat.reduceEqDiff]
      exact kk _ _ _ ⟨by omega, k1, rfl, rfl⟩ (fun e q h => by cases h)
  · have x1 : p_ro f n pl (P k) = .inl (P k) := by unfold p_ro; rw [if_neg t1]
    unfold p_el at kk
    rw [x1] at kk
    simp only [q_kn_v, k42_4, k42_5, k42_6, k42_7, k42_19, k42_20, true_implies, false_implies, not_true_eq_false, not_false_eq_true, true_and, and_true, implies_true, or_true, true_or, or_false, false_or, Int.reduceEq, Int.one_ne_zero, Nat.reduceEqDiff]
    exact kk _ _ _ ⟨h0, hk, rfl, rfl⟩ (fun e q h => by cases h)
end CRD
