/-! the reference's small methods that make -/
section RA
variable {sc : Nat × (Nat → Int32)} {D : Nat} {bb : Bool} {S r : St} {Q : QP} {p b ft dp x0 x1 x2 x3 x4 s w : Int}
theorem c172 (h1 : 0 ≤ S 136 18) (h2 : S 136 18 < 3000) : qx sc D 172 0 [vr 136, vi x0, vi x1, vi x2] [] (0, 0) bb (RP S r p b ft dp) Q ↔ Q (.inl (some (vi (S 136 18)))) bb (RP (F_lay S x0 x1 x2) r p b ft dp) := by
  have e : S 136 18 + 1 - 1 = S 136 18 := by omega
  simp only [k172_0, k172_1, k172_4, k172_5, k172_8, k172_9, k172_10, k172_11, k172_14, k172_15, k172_18, k172_19, k172_20, k172_21, k172_24, k172_25, k172_28, k172_29, k172_30, k172_31, k172_32, k172_35, k172_36, k172_37, k172_40, k172_41, k172_44, k172_45, k172_46, RP_p, RP_b, RP_ft, RP_dp, RP_n, RP_told, RP_src, RP_least, RP_14, RP_15, RP_16, RP_17, RP_18, RP_49, RP_51, RP_c142, RP_u142, RP_c143, RP_u143, RP_c144, RP_u144, RP_c145, RP_u145, RP_c146, RP_u146, RP_c147, RP_u147, RP_c148, RP_u148, RP_c149, RP_u149, RP_c150, RP_u150, RP_c151, RP_u151, RP_c152, RP_u152, RP_c153, RP_u153, RP_c154, RP_u154, RP_c155, RP_u155, RP_c156, RP_u156, RP_c157, RP_u157, RP_c158, RP_u158, RP_c159, RP_u159, RP_c160, RP_u160, RP_c161, RP_u161, RP_c162, RP_u162, RP_c163, RP_u163, RP_c164, RP_u164, RP_c165, RP_u165, RP_c166, RP_u166, RP_c167, RP_u167, RP_c168, RP_u168, RP_c169, RP_u169, RP_c170, RP_u170, RP_c171, RP_u171, RP_c172, RP_u172, RP_upp, RP_upb, RP_upft, RP_updp, RP_uptold, RP_upleast, RP_up14, RP_up15, RP_up16, RP_up17, RP_up18, RP_up49, RP_up51, q_up_eq, q_up_ne, q_up_ne2, q_upf_ne, q_upf_eq, not_false_eq_true, qt_168, qt_169, qt_170, ql_168, ql_169, ql_170, e, F_lay, true_implies, false_implies, not_true_eq_false, not_false_eq_true, true_and, and_true, implies_true, or_true, true_or, or_false, false_or, Int.reduceEq, Int.one_ne_zero, Nat.reduceEqDiff]
  exact ⟨fun h => by (repeat replace h := And.right h); exact h, fun h => by (repeat refine And.intro (by omega) ?_); exact h⟩
theorem c180 (h1 : 0 ≤ S 136 15) (h2 : S 136 15 < 700) (h3 : 0 ≤ x0) (h4 : x0 < 8) : qx sc D 180 0 [vr 136, vi x0, vi x1, vi x2, vi x3, vi x4, vn] [] (0, 0) bb (RP S r p b ft dp) Q ↔ Q (.inl (some (vi (S 136 15)))) bb (RP (F_mk S x0 x1 x2 x3 x4) r p b ft dp) := by
  simp only [k180_0, k180_1, k180_4, k180_6, k180_7, k180_10, k180_12, k180_13, k180_14, k180_15, k180_18, k180_20, k180_21, k180_22, k180_23, k180_26, k180_28, k180_29, k180_30, k180_31, k180_34, k180_36, k180_38, k180_39, k180_40, k180_43, k180_45, k180_47, k180_48, k180_49, k180_52, k180_54, k180_55, k180_56, k180_57, k180_60, k180_62, k180_63, k180_64, k180_65, k180_68, k180_70, k180_71, k180_72, k180_73, k180_74, k180_77, k180_78, k180_79, k180_82, k180_83, k180_86, k180_87, k180_89, k180_90, k180_92, RP_p, RP_b, RP_ft, RP_dp, RP_n, RP_told, RP_src, RP_least, RP_14, RP_15, RP_16, RP_17, RP_18, RP_49, RP_51, RP_c142, RP_u142, RP_c143, RP_u143, RP_c144, RP_u144, RP_c145, RP_u145, RP_c146, RP_u146, RP_c147, RP_u147, RP_c148, RP_u148, RP_c149, RP_u149, RP_c150, RP_u150, RP_c151, RP_u151, RP_c152, RP_u152, RP_c153, RP_u153, RP_c154, RP_u154, RP_c155, RP_u155, RP_c156, RP_u156, RP_c157, RP_u157, RP_c158, RP_u158, RP_c159, RP_u159, RP_c160, RP_u160, RP_c161, RP_u161, RP_c162, RP_u162, RP_c163, RP_u163, RP_c164, RP_u164, RP_c165, RP_u165, RP_c166, RP_u166, RP_c167, RP_u167, RP_c168, RP_u168, RP_c169, RP_u169, RP_c170, RP_u170, RP_c171, RP_u171, RP_c172, RP_u172, RP_upp, RP_upb, RP_upft, RP_updp, RP_uptold, RP_upleast, RP_up14, RP_up15, RP_up16, RP_up17, RP_up18, RP_up49, RP_up51, q_up_eq, q_up_ne, q_up_ne2, q_upf_ne, q_upf_eq, not_false_eq_true, qt_147, qt_148, qt_149, qt_150, qt_151, qt_152, qt_153, qt_154, qt_171, ql_147, ql_148, ql_149, ql_150, ql_151, ql_152, ql_153, ql_154, ql_171, F_mk, true_implies, false_implies, not_true_eq_false, not_false_eq_true, true_and, and_true, implies_true, or_true, true_or, or_false, false_or, Int.reduceEq, Int.one_ne_zero, Nat.reduceEqDiff]
  exact ⟨fun h => by (repeat replace h := And.right h); exact h, fun h => by (repeat refine And.intro (by omega) ?_); exact h⟩
theorem c170_1 {t : Int} (h1 : 0 ≤ t) (h2 : t + 8 ≤ 512) : ∀ (m : Nat) (k : Int), (8 - k).toNat = m → 0 ≤ k → k ≤ 8 → (qx sc D 170 7 [vr 136, vi t, vi k] [] (0, 0) bb (RP (q_upf S 172 (fun j => if t ≤ j ∧ j < t + k then S 171 (j - t) else S 172 j)) r p b ft dp) Q ↔ qx sc D 170 33 [vr 136, vi t, vi 8] [] (0, 0) bb (RP (q_upf S 172 (fun j => if t ≤ j ∧ j < t + 8 then S 171 (j - t) else S 172 j)) r p b ft dp) Q) := by
  intro m
  induction m with
  | zero =>
    intro k hm hk hk8
    have e : k = 8 := by omega
    subst e
    rw [k170_7]
    simp only [k170_8, k170_10]
    grind
  | succ m ih =>
    intro k hm hk hk8
    have e := ih (k + 1) (by omega) (by omega) (by omega)
    have e2 : q_up (q_upf S 172 (fun j => if t ≤ j ∧ j < t + k then S 171 (j - t) else S 172 j)) 172 (t + k) (S 171 k) = q_upf S 172 (fun j => if t ≤ j ∧ j < t + (k + 1) then S 171 (j - t) else S 172 j) := by
      funext c j
      simp only [q_up, q_upf]
      by_cases hc : c = 172
      · by_cases hj : j = t + k
        · subst hj
          simp only [hc, and_self, if_true]
          rw [if_pos (by omega)]
          congr 1
          omega
        · simp only [hc, hj, and_false, if_false, if_true]
          grind
      · simp only [hc, false_and, if_false]
    rw [k170_7]
    simp only [k170_0, k170_1, k170_4, k170_5, k170_6, k170_8, k170_10, k170_13, k170_14, k170_17, k170_18, k170_19, k170_20, k170_21, k170_24, k170_25, k170_26, k170_27, k170_30, k170_34, k170_35, k170_38, k170_40, k170_41, k170_44, k170_45, RP_p, RP_b, RP_ft, RP_dp, RP_n, RP_told, RP_src, RP_least, RP_14, RP_15, RP_16, RP_17, RP_18, RP_49, RP_51, RP_c142, RP_u142, RP_c143, RP_u143, RP_c144, RP_u144, RP_c145, RP_u145, RP_c146, RP_u146, RP_c147, RP_u147, RP_c148, RP_u148, RP_c149, RP_u149, RP_c150, RP_u150, RP_c151, RP_u151, RP_c152, RP_u152, RP_c153, RP_u153, RP_c154, RP_u154, RP_c155, RP_u155, RP_c156, RP_u156, RP_c157, RP_u157, RP_c158, RP_u158, RP_c159, RP_u159, RP_c160, RP_u160, RP_c161, RP_u161, RP_c162, RP_u162, RP_c163, RP_u163, RP_c164, RP_u164, RP_c165, RP_u165, RP_c166, RP_u166, RP_c167, RP_u167, RP_c168, RP_u168, RP_c169, RP_u169, RP_c170, RP_u170, RP_c171, RP_u171, RP_c172, RP_u172, RP_upp, RP_upb, RP_upft, RP_updp, RP_uptold, RP_upleast, RP_up14, RP_up15, RP_up16, RP_up17, RP_up18, RP_up49, RP_up51, q_up_eq, q_up_ne, q_up_ne2, q_upf_ne, q_upf_eq, not_false_eq_true, qt_172, ql_172, qt_171, ql_171, e2, e, true_implies, false_implies, not_true_eq_false, not_false_eq_true, true_and, and_true, implies_true, or_true, true_or, or_false, false_or, Int.reduceEq, Int.one_ne_zero, Nat.reduceEqDiff]
    have hk : k < 8 := by omega
    simp only [hk, true_implies, false_implies, not_true_eq_false, not_false_eq_true, true_and, and_true, implies_true, or_true, true_or, or_false, false_or, Int.reduceEq, Int.one_ne_zero, Nat.reduceEqDiff]
    exact ⟨fun h => by (repeat replace h := And.right h); exact h, fun h => by (repeat refine And.intro (by omega) ?_); exact h⟩
theorem c170 (h1 : 0 ≤ S 136 51) (h2 : S 136 51 + 8 ≤ 512) : qx sc D 170 0 [vr 136, vn, vn] [] (0, 0) bb (RP S r p b ft dp) Q ↔ Q (.inl (some (vi (S 136 51)))) bb (RP (F_keep S) r p b ft dp) := by
  have e := c170_1 (sc := sc) (D := D) (bb := bb) (S := S) (r := r) (p := p) (b := b) (ft := ft) (dp := dp) (Q := Q) h1 h2 _ 0 rfl (by omega) (by omega)
  have e2 : q_upf S 172 (fun j => if S 136 51 ≤ j ∧ j < S 136 51 + 0 then S 171 (j - S 136 51) else S 172 j) = S := by
    funext c j
    simp only [q_upf]
    grind
  rw [e2] at e
  simp only [k170_0, k170_1, k170_4, k170_5, k170_6, RP_51, e]
  simp only [k170_33, k170_34, k170_35, k170_38, k170_40, k170_41, k170_44, k170_45, RP_p, RP_b, RP_ft, RP_dp, RP_n, RP_told, RP_src, RP_least, RP_14, RP_15, RP_16, RP_17, RP_18, RP_49, RP_51, RP_c142, RP_u142, RP_c143, RP_u143, RP_c144, RP_u144, RP_c145, RP_u145, RP_c146, RP_u146, RP_c147, RP_u147, RP_c148, RP_u148, RP_c149, RP_u149, RP_c150, RP_u150, RP_c151, RP_u151, RP_c152, RP_u152, RP_c153, RP_u153, RP_c154, RP_u154, RP_c155, RP_u155, RP_c156, RP_u156, RP_c157, RP_u157, RP_c158, RP_u158, RP_c159, RP_u159, RP_c160, RP_u160, RP_c161, RP_u161, RP_c162, RP_u162, RP_c163, RP_u163, RP_c164, RP_u164, RP_c165, RP_u165, RP_c166, RP_u166, RP_c167, RP_u167, RP_c168, RP_u168, RP_c169, RP_u169, RP_c170, RP_u170, RP_c171, RP_u171, RP_c172, RP_u172, RP_upp, RP_upb, RP_upft, RP_updp, RP_uptold, RP_upleast, RP_up14, RP_up15, RP_up16, RP_up17, RP_up18, RP_up49, RP_up51, q_up_eq, q_up_ne, q_up_ne2, q_upf_ne, q_upf_eq, not_false_eq_true, F_keep, true_implies, false_implies, not_true_eq_false, not_false_eq_true, true_and, and_true, implies_true, or_true, true_or, or_false, false_or, Int.reduceEq, Int.one_ne_zero, Nat.reduceEqDiff]
  exact ⟨fun h => by (repeat replace h := And.right h); exact h, fun h => by (repeat refine And.intro (by omega) ?_); exact h⟩
theorem c220_1 {t : Int} (h1 : 0 ≤ t) (h2 : t + 8 ≤ 512) : ∀ (m : Nat) (k : Int), (8 - k).toNat = m → 0 ≤ k → k ≤ 8 → (qx sc D 220 2 [vr 136, vi t, vi k] [] (0, 0) bb (RP (q_upf S 171 (fun j => if 0 ≤ j ∧ j < k then S 172 (t + j) else S 171 j)) r p b ft dp) Q ↔ Q (.inl none) bb (RP (q_upf S 171 (fun j => if 0 ≤ j ∧ j < 8 then S 172 (t + j) else S 171 j)) r p b ft dp)) := by
  intro m
  induction m with
  | zero =>
    intro k hm hk hk8
    have e : k = 8 := by omega
    subst e
    rw [k220_2]
    simp only [k220_3, k220_5, k220_28]
    grind
  | succ m ih =>
    intro k hm hk hk8
    have e := ih (k + 1) (by omega) (by omega) (by omega)
    have e2 : q_up (q_upf S 171 (fun j => if 0 ≤ j ∧ j < k then S 172 (t + j) else S 171 j)) 171 k (S 172 (t + k)) = q_upf S 171 (fun j => if 0 ≤ j ∧ j < k + 1 then S 172 (t + j) else S 171 j) := by
      funext c j
      simp only [q_up, q_upf]
      by_cases hc : c = 171
      · by_cases hj : j = k
        · subst hj
          simp only [hc, and_self, if_true]
          rw [if_pos (by omega)]
        · simp only [hc, hj, and_false, if_false, if_true]
          grind
      · simp only [hc, false_and, if_false]
    rw [k220_2]
    simp only [k220_0, k220_1, k220_3, k220_5, k220_8, k220_9, k220_12, k220_13, k220_14, k220_17, k220_18, k220_19, k220_20, k220_21, k220_22, k220_25, RP_p, RP_b, RP_ft, RP_dp, RP_n, RP_told, RP_src, RP_least, RP_14, RP_15, RP_16, RP_17, RP_18, RP_49, RP_51, RP_c142, RP_u142, RP_c143, RP_u143, RP_c144, RP_u144, RP_c145, RP_u145, RP_c146, RP_u146, RP_c147, RP_u147, RP_c148, RP_u148, RP_c149, RP_u149, RP_c150, RP_u150, RP_c151, RP_u151, RP_c152, RP_u152, RP_c153, RP_u153, RP_c154, RP_u154, RP_c155, RP_u155, RP_c156, RP_u156, RP_c157, RP_u157, RP_c158, RP_u158, RP_c159, RP_u159, RP_c160, RP_u160, RP_c161, RP_u161, RP_c162, RP_u162, RP_c163, RP_u163, RP_c164, RP_u164, RP_c165, RP_u165, RP_c166, RP_u166, RP_c167, RP_u167, RP_c168, RP_u168, RP_c169, RP_u169, RP_c170, RP_u170, RP_c171, RP_u171, RP_c172, RP_u172, RP_upp, RP_upb, RP_upft, RP_updp, RP_uptold, RP_upleast, RP_up14, RP_up15, RP_up16, RP_up17, RP_up18, RP_up49, RP_up51, q_up_eq, q_up_ne, q_up_ne2, q_upf_ne, q_upf_eq, not_false_eq_true, qt_172, ql_172, qt_171, ql_171, e2, e, true_implies, false_implies, not_true_eq_false, not_false_eq_true, true_and, and_true, implies_true, or_true, true_or, or_false, false_or, Int.reduceEq, Int.one_ne_zero, Nat.reduceEqDiff]
    have hk : k < 8 := by omega
    simp only [hk, true_implies, false_implies, not_true_eq_false, not_false_eq_true, true_and, and_true, implies_true, or_true, true_or, or_false, false_or, Int.reduceEq, Int.one_ne_zero, Nat.reduceEqDiff]
    exact ⟨fun h => by (repeat replace h := And.right h); exact h, fun h => by (repeat refine And.intro (by omega) ?_); exact h⟩
theorem c220 {t : Int} (h1 : 0 ≤ t) (h2 : t + 8 ≤ 512) : qx sc D 220 0 [vr 136, vi t, vn] [] (0, 0) bb (RP S r p b ft dp) Q ↔ Q (.inl none) bb (RP (F_take S t) r p b ft dp) := by
  have e := c220_1 (sc := sc) (D := D) (bb := bb) (S := S) (r := r) (p := p) (b := b) (ft := ft) (dp := dp) (Q := Q) h1 h2 _ 0 rfl (by omega) (by omega)
  have e2 : q_upf S 171 (fun j => if 0 ≤ j ∧ j < 0 then S 172 (t + j) else S 171 j) = S := by
    funext c j
    simp only [q_upf]
    grind
  rw [e2] at e
  simp only [k220_0, k220_1, e, F_take]
theorem c226_1 {t : Int} (h2 : t ≤ 40) : ∀ (k : Nat) (i m : Int), 0 ≤ i → (t - i).toNat = k → (qx sc D 226 5 [vr 136, vi x0, vi t, vi m, vi i] [] (0, 0) bb (RP S r p b ft dp) Q ↔ Q (.inl (some (vi (F_told S k i m)))) bb (RP S r p b ft dp)) := by
  intro k
  induction k with
  | zero =>
    intro i m hi hk
    rw [k226_5]
    simp only [k226_7, k226_8, k226_50, k226_51, F_told]
    grind
  | succ k ih =>
    intro i m hi hk
    rw [k226_5]
    simp only [k226_0, k226_1, k226_2, k226_3, k226_7, k226_8, k226_11, k226_12, k226_15, k226_17, k226_18, k226_21, k226_22, k226_25, k226_27, k226_28, k226_29, k226_32, k226_33, k226_34, k226_35, k226_38, k226_40, k226_41, k226_42, k226_43, k226_44, k226_47, RP_p, RP_b, RP_ft, RP_dp, RP_n, RP_told, RP_src, RP_least, RP_14, RP_15, RP_16, RP_17, RP_18, RP_49, RP_51, RP_c142, RP_u142, RP_c143, RP_u143, RP_c144, RP_u144, RP_c145, RP_u145, RP_c146, RP_u146, RP_c147, RP_u147, RP_c148, RP_u148, RP_c149, RP_u149, RP_c150, RP_u150, RP_c151, RP_u151, RP_c152, RP_u152, RP_c153, RP_u153, RP_c154, RP_u154, RP_c155, RP_u155, RP_c156, RP_u156, RP_c157, RP_u157, RP_c158, RP_u158, RP_c159, RP_u159, RP_c160, RP_u160, RP_c161, RP_u161, RP_c162, RP_u162, RP_c163, RP_u163, RP_c164, RP_u164, RP_c165, RP_u165, RP_c166, RP_u166, RP_c167, RP_u167, RP_c168, RP_u168, RP_c169, RP_u169, RP_c170, RP_u170, RP_c171, RP_u171, RP_c172, RP_u172, RP_upp, RP_upb, RP_upft, RP_updp, RP_uptold, RP_upleast, RP_up14, RP_up15, RP_up16, RP_up17, RP_up18, RP_up49, RP_up51, qt_142, ql_142, qt_143, ql_143, q_or_fold, F_told, fun m => ih (i + 1) m (by omega) (by omega), true_implies, false_implies, not_true_eq_false, not_false_eq_true, true_and, and_true, implies_true, or_true, true_or, or_false, false_or, Int.reduceEq, Int.one_ne_zero, Nat.reduceEqDiff]
    have hk : i < t := by omega
    have r0 : 0 ≤ i ∧ i < 40 := by omega
    have r1 : q_R (i + 1) := by constructor <;> omega
    by_cases ha : S 142 i = 0 <;> by_cases hb : S 143 i = -1 <;> simp [hk, ha, hb, r0] <;> omega
theorem c226 {f t : Int} (h1 : 0 ≤ f) (h2 : t ≤ 40) : qx sc D 226 0 [vr 136, vi f, vi t, vn, vn] [] (0, 0) bb (RP S r p b ft dp) Q ↔ Q (.inl (some (vi (F_told S (t - f).toNat f 0)))) bb (RP S r p b ft dp) := by
  simp only [k226_0, k226_1, k226_2, k226_3]
  exact c226_1 h2 _ _ _ h1 rfl
theorem c155 (h1 : 0 ≤ s) (h2 : s < 40) (h3 : 0 ≤ w) (h4 : w < 2) : qx sc D 155 0 [vr 136, vi s, vi w] [] (0, 0) bb (RP S r p b ft dp) Q ↔ (F_own S s w → Q (.inl (some (vi 1))) bb (RP S r p b ft dp)) ∧ (¬ F_own S s w → Q (.inl (some (vi 0))) bb (RP S r p b ft dp)) := by
  have r1 : q_R (2 * s) := by constructor <;> omega
  have r2 : q_R (2 * s + w) := by constructor <;> omega
  have r3 : q_R (2 * s + 1) := by constructor <;> omega
  have g1 : 0 ≤ 2 * s ∧ 2 * s < 80 := by omega
  have g2 : 0 ≤ 2 * s + w ∧ 2 * s + w < 80 := by omega
  have g3 : 0 ≤ 2 * s + 1 ∧ 2 * s + 1 < 80 := by omega
  simp only [k155_0, k155_1, k155_4, k155_5, k155_6, k155_7, k155_8, k155_9, k155_10, k155_11, k155_14, k155_15, k155_18, k155_19, k155_20, k155_21, k155_22, k155_23, k155_26, k155_27, k155_30, k155_31, k155_32, k155_33, k155_34, k155_35, k155_36, k155_37, k155_40, k155_41, k155_44, k155_45, k155_46, k155_47, k155_48, k155_49, k155_52, k155_53, k155_54, k155_55, k155_56, k155_57, k155_58, k155_61, k155_62, k155_65, k155_66, RP_p, RP_b, RP_ft, RP_dp, RP_n, RP_told, RP_src, RP_least, RP_14, RP_15, RP_16, RP_17, RP_18, RP_49, RP_51, RP_c142, RP_u142, RP_c143, RP_u143, RP_c144, RP_u144, RP_c145, RP_u145, RP_c146, RP_u146, RP_c147, RP_u147, RP_c148, RP_u148, RP_c149, RP_u149, RP_c150, RP_u150, RP_c151, RP_u151, RP_c152, RP_u152, RP_c153, RP_u153, RP_c154, RP_u154, RP_c155, RP_u155, RP_c156, RP_u156, RP_c157, RP_u157, RP_c158, RP_u158, RP_c159, RP_u159, RP_c160, RP_u160, RP_c161, RP_u161, RP_c162, RP_u162, RP_c163, RP_u163, RP_c164, RP_u164, RP_c165, RP_u165, RP_c166, RP_u166, RP_c167, RP_u167, RP_c168, RP_u168, RP_c169, RP_u169, RP_c170, RP_u170, RP_c171, RP_u171, RP_c172, RP_u172, RP_upp, RP_upb, RP_upft, RP_updp, RP_uptold, RP_upleast, RP_up14, RP_up15, RP_up16, RP_up17, RP_up18, RP_up49, RP_up51, qt_165, ql_165, qt_166, ql_166, F_own, true_implies, false_implies, not_true_eq_false, not_false_eq_true, true_and, and_true, implies_true, or_true, true_or, or_false, false_or, Int.reduceEq, Int.one_ne_zero, Nat.reduceEqDiff]
  by_cases a1 : S 165 (2 * s + w) = 1 <;> by_cases a2 : S 165 (2 * s) = 1 <;> by_cases a3 : S 165 (2 * s + 1) = 1 <;> by_cases a4 : S 166 (2 * s) = S 166 (2 * s + 1) <;> simp only [a1, a2, a3, a4, and_false, false_and, and_self, true_implies, false_implies, not_true_eq_false, not_false_eq_true, true_and, and_true, implies_true, or_true, true_or, or_false, false_or, Int.reduceEq, Int.one_ne_zero, Nat.reduceEqDiff] <;> exact ⟨fun h => by (repeat replace h := And.right h); exact h, fun h => by (repeat refine And.intro (by omega) ?_); exact h⟩
theorem c177_1 (h1 : 0 ≤ s) (h2 : s < 40) (h3 : 0 ≤ w) (h4 : w < 2) (h5 : S 165 (2 * s + w) = 1 → 0 ≤ S 166 (2 * s + w) ∧ S 166 (2 * s + w) < 8) : qx sc D 177 2 [vr 136, vi s, vi w] [] (0, 0) bb (RP S r p b ft dp) Q ↔ qx sc D 177 2 [vr 136, vi s, vi (w + 1)] [] (0, 0) bb (RP (F_look1 S s w) r p b ft dp) Q := by
  have r2 : q_R (2 * s + w) := by constructor <;> omega
  have r3 : q_R (2 * s) := by constructor <;> omega
  have g2 : 0 ≤ 2 * s + w ∧ 2 * s + w < 80 := by omega
  conv => lhs; rw [k177_2]
  simp only [k177_3, k177_4, k177_7, k177_8, k177_11, k177_12, k177_13, k177_14, k177_15, k177_16, k177_17, k177_20, k177_21, k177_22, k177_23, k177_24, k177_25, k177_26, k177_27, k177_30, k177_31, k177_34, k177_35, k177_38, k177_39, k177_40, k177_41, k177_42, k177_43, k177_44, k177_45, k177_48, k177_49, k177_50, k177_53, k177_56, RP_p, RP_b, RP_ft, RP_dp, RP_n, RP_told, RP_src, RP_least, RP_14, RP_15, RP_16, RP_17, RP_18, RP_49, RP_51, RP_c142, RP_u142, RP_c143, RP_u143, RP_c144, RP_u144, RP_c145, RP_u145, RP_c146, RP_u146, RP_c147, RP_u147, RP_c148, RP_u148, RP_c149, RP_u149, RP_c150, RP_u150, RP_c151, RP_u151, RP_c152, RP_u152, RP_c153, RP_u153, RP_c154, RP_u154, RP_c155, RP_u155, RP_c156, RP_u156, RP_c157, RP_u157, RP_c158, RP_u158, RP_c159, RP_u159, RP_c160, RP_u160, RP_c161, RP_u161, RP_c162, RP_u162, RP_c163, RP_u163, RP_c164, RP_u164, RP_c165, RP_u165, RP_c166, RP_u166, RP_c167, RP_u167, RP_c168, RP_u168, RP_c169, RP_u169, RP_c170, RP_u170, RP_c171, RP_u171, RP_c172, RP_u172, RP_upp, RP_upb, RP_upft, RP_updp, RP_uptold, RP_upleast, RP_up14, RP_up15, RP_up16, RP_up17, RP_up18, RP_up49, RP_up51, q_up_eq, q_up_ne, q_up_ne2, q_upf_ne, q_upf_eq, not_false_eq_true, qt_165, ql_165, qt_166, ql_166, qt_167, ql_167, qt_171, ql_171, F_look1, h4, true_implies, false_implies, not_true_eq_false, not_false_eq_true, true_and, and_true, implies_true, or_true, true_or, or_false, false_or, Int.reduceEq, Int.one_ne_zero, Nat.reduceEqDiff]
  by_cases ha : S 165 (2 * s + w) = 1
  · have := h5 ha
    simp only [ha, if_true, true_implies, false_implies, not_true_eq_false, not_false_eq_true, true_and, and_true, implies_true, or_true, true_or, or_false, false_or, Int.reduceEq, Int.one_ne_zero, Nat.reduceEqDiff]
    exact ⟨fun h => by (repeat replace h := And.right h); exact h, fun h => by (repeat refine And.intro (by omega) ?_); exact h⟩
  · simp only [ha, if_false, true_implies, false_implies, not_true_eq_false, not_false_eq_true, true_and, and_true, implies_true, or_true, true_or, or_false, false_or, Int.reduceEq, Int.one_ne_zero, Nat.reduceEqDiff]
    exact ⟨fun h => by (repeat replace h := And.right h); exact h, fun h => by (repeat refine And.intro (by omega) ?_); exact h⟩
theorem c177 (h1 : 0 ≤ s) (h2 : s < 40) (h3 : S 165 (2 * s) = 1 → 0 ≤ S 166 (2 * s) ∧ S 166 (2 * s) < 8) (h4 : S 165 (2 * s + 1) = 1 → 0 ≤ S 166 (2 * s + 1) ∧ S 166 (2 * s + 1) < 8) : qx sc D 177 0 [vr 136, vi s, vn] [] (0, 0) bb (RP S r p b ft dp) Q ↔ Q (.inl none) bb (RP (F_look S s) r p b ft dp) := by
  simp only [k177_0, k177_1]
  rw [c177_1 h1 h2 (by omega) (by omega) (by rw [Int.add_zero]; exact h3), show (0 : Int) + 1 = 1 from rfl, c177_1 h1 h2 (by omega) (by omega) (by simp only [F_look1, q_up_eq, q_up_ne, q_up_ne2, q_upf_ne, q_upf_eq, not_false_eq_true, Nat.reduceEqDiff]; exact h4), k177_2]
  simp only [k177_3, k177_4, k177_56, Int.reduceAdd, Int.reduceLT, true_implies, false_implies, not_true_eq_false, not_false_eq_true, true_and, and_true, implies_true, or_true, true_or, or_false, false_or, Int.reduceEq, Int.one_ne_zero, Nat.reduceEqDiff]
  rfl
theorem c181_1 {how : Int} (h1 : 0 ≤ s) (h2 : s < 40) (h3 : 0 ≤ w) (h4 : w < 2) (h5 : S 165 (2 * s + w) = 1 → 0 ≤ S 166 (2 * s + w) ∧ S 166 (2 * s + w) < 8) (h6 : 0 ≤ S 136 15) (h7 : S 136 15 < 700) (h8 : 0 ≤ S 136 18) (h9 : S 136 18 < 3000) {l4 l5 : V2} (kk : ∀ l4 l5, qx sc (D + 1) 181 2 [vr 136, vi s, vi how, vi (w + 1), l4, l5] [] (0, 0) bb (RP (F_side1 S s how w) r p b ft dp) Q) : qx sc (D + 1) 181 2 [vr 136, vi s, vi how, vi w, l4, l5] [] (0, 0) bb (RP S r p b ft dp) Q := by
  have r2 : q_R (2 * s + w) := by constructor <;> omega
  have r3 : q_R (2 * s) := by constructor <;> omega
  have g2 : 0 ≤ 2 * s + w ∧ 2 * s + w < 80 := by omega
  rw [k181_2]
  simp only [k181_3, k181_4, k181_7, k181_8, k181_9, k181_10, c155 h1 h2 h3 h4, q_kn_v, h4, true_implies, false_implies, not_true_eq_false, not_false_eq_true, true_and, and_true, implies_true, or_true, true_or, or_false, false_or, Int.reduceEq, Int.one_ne_zero, Nat.reduceEqDiff]
  refine ⟨fun ho => ?_, fun ho => ?_⟩
  · have e5 := h5 ho.1
    have kk := kk
    unfold F_side1 at kk
    rw [if_pos ho] at kk
    simp only [k181_0, k181_1, k181_3, k181_4, k181_7, k181_8, k181_9, k181_10, k181_13, k181_16, k181_19, k181_20, k181_21, k181_24, k181_25, k181_26, k181_27, k181_28, k181_29, k181_30, k181_31, k181_32, k181_33, k181_36, k181_37, k181_38, k181_39, k181_40, k181_41, k181_42, k181_43, k181_46, k181_48, k181_49, k181_51, k181_53, k181_54, k181_57, k181_59, k181_62, k181_65, RP_p, RP_b, RP_ft, RP_dp, RP_n, RP_told, RP_src, RP_least, RP_14, RP_15, RP_16, RP_17, RP_18, RP_49, RP_51, RP_c142, RP_u142, RP_c143, RP_u143, RP_c144, RP_u144, RP_c145, RP_u145, RP_c146, RP_u146, RP_c147, RP_u147, RP_c148, RP_u148, RP_c149, RP_u149, RP_c150, RP_u150, RP_c151, RP_u151, RP_c152, RP_u152, RP_c153, RP_u153, RP_c154, RP_u154, RP_c155, RP_u155, RP_c156, RP_u156, RP_c157, RP_u157, RP_c158, RP_u158, RP_c159, RP_u159, RP_c160, RP_u160, RP_c161, RP_u161, RP_c162, RP_u162, RP_c163, RP_u163, RP_c164, RP_u164, RP_c165, RP_u165, RP_c166, RP_u166, RP_c167, RP_u167, RP_c168, RP_u168, RP_c169, RP_u169, RP_c170, RP_u170, RP_c171, RP_u171, RP_c172, RP_u172, RP_upp, RP_upb, RP_upft, RP_updp, RP_uptold, RP_upleast, RP_up14, RP_up15, RP_up16, RP_up17, RP_up18, RP_up49, RP_up51, q_up_eq, q_up_ne, q_up_ne2, q_upf_ne, q_upf_eq, not_false_eq_true, qt_166, ql_166, qt_167, ql_167, c180 h6 h7 e5.1 e5.2, c172 (S := F_mk S (S 166 (2 * s + w)) how s (S 167 (2 * s + w)) (-1)) (by simp only [F_mk, q_up_eq, q_up_ne, q_up_ne2, q_upf_ne, q_upf_eq, not_false_eq_true]; exact h8) (by simp only [F_mk, q_up_eq, q_up_ne, q_up_ne2, q_upf_ne, q_upf_eq, not_false_eq_true]; exact h9), q_kn_v, true_implies, false_implies, not_true_eq_false, not_false_eq_true, true_and, and_true, implies_true, or_true, true_or, or_false, false_or, Int.reduceEq, Int.one_ne_zero, Nat.reduceEqDiff]
    repeat refine And.intro (by omega) ?_
    exact kk _ _
  · have kk := kk
    unfold F_side1 at kk
    rw [if_neg ho] at kk
    simp only [k181_0, k181_1, k181_3, k181_4, k181_7, k181_8, k181_9, k181_10, k181_13, k181_16, k181_19, k181_20, k181_21, k181_24, k181_25, k181_26, k181_27, k181_28, k181_29, k181_30, k181_31, k181_32, k181_33, k181_36, k181_37, k181_38, k181_39, k181_40, k181_41, k181_42, k181_43, k181_46, k181_48, k181_49, k181_51, k181_53, k181_54, k181_57, k181_59, k181_62, k181_65, true_implies, false_implies, not_true_eq_false, not_false_eq_true, true_and, and_true, implies_true, or_true, true_or, or_false, false_or, Int.reduceEq, Int.one_ne_zero, Nat.reduceEqDiff]
    repeat refine And.intro (by omega) ?_
    exact kk _ _
theorem c181 {how : Int} (h1 : 0 ≤ s) (h2 : s < 40) (h3 : S 165 (2 * s) = 1 → 0 ≤ S 166 (2 * s) ∧ S 166 (2 * s) < 8) (h4 : S 165 (2 * s + 1) = 1 → 0 ≤ S 166 (2 * s + 1) ∧ S 166 (2 * s + 1) < 8) (h6 : 0 ≤ S 136 15) (h7 : S 136 15 < 699) (h8 : 0 ≤ S 136 18) (h9 : S 136 18 < 2999) (kk : Q (.inl none) bb (RP (F_sides S s how) r p b ft dp)) : qx sc (D + 1) 181 0 [vr 136, vi s, vi how, vn, vn, vn] [] (0, 0) bb (RP S r p b ft dp) Q := by
  simp only [k181_0, k181_1]
  have key : ∀ w', F_side1 S s how w' 136 15 ≤ S 136 15 + 1 ∧ S 136 15 ≤ F_side1 S s how w' 136 15 ∧ F_side1 S s how w' 136 18 ≤ S 136 18 + 1 ∧ S 136 18 ≤ F_side1 S s how w' 136 18 ∧ (∀ i, F_side1 S s how w' 165 i = S 165 i ∧ F_side1 S s how w' 166 i = S 166 i) := by
    intro w'
    unfold F_side1
    split
    · simp only [F_lay, F_mk, q_up_eq, q_up_ne, q_up_ne2, q_upf_ne, q_upf_eq, not_false_eq_true, Nat.reduceEqDiff, Int.reduceEq]
      refine ⟨by omega, by omega, by omega, by omega, fun _ => by simp⟩
    · exact ⟨by omega, by omega, by omega, by omega, fun _ => ⟨rfl, rfl⟩⟩
  obtain ⟨q1, q2, q3, q4, q5⟩ := key 0
  refine c181_1 h1 h2 (by omega) (by omega) (by rw [Int.add_zero]; exact h3) h6 (by omega) h8 (by omega) (fun l4 l5 => ?_)
  rw [show (0 : Int) + 1 = 1 from rfl]
  refine c181_1 h1 h2 (by omega) (by omega) (by rw [(q5 _).1, (q5 _).2]; exact h4) (by omega) (by omega) (by omega) (by omega) (fun l4 l5 => ?_)
  rw [k181_2]
  simp only [k181_3, k181_4, k181_65, Int.reduceAdd, Int.reduceLT, true_implies, false_implies, not_true_eq_false, not_false_eq_true, true_and, and_true, implies_true, or_true, true_or, or_false, false_or, Int.reduceEq, Int.one_ne_zero, Nat.reduceEqDiff]
  exact kk
end RA
