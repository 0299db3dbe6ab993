section RD
variable {sc : Nat × (Nat → Int32)} {D : Nat} {bb : Bool} {S r : St} {Q : QP} {p b ft dp s : Int} {α : Type} {x : PX α} {pl : Int → Int}
/-- how much the counts may have grown -/
def CG (dv dc dk : Int) (S S' : St) : Prop := S' 136 14 = S 136 14 ∧ S 136 15 ≤ S' 136 15 ∧ S' 136 15 ≤ S 136 15 + dv ∧ S 136 16 ≤ S' 136 16 ∧ S' 136 16 ≤ S 136 16 + dk ∧ S' 136 17 = S 136 17 ∧ S 136 18 ≤ S' 136 18 ∧ S' 136 18 ≤ S 136 18 + dc ∧ S' 136 51 = S 136 51
/-- what a statement's own part leaves: rows below the counts, rows of other statements -/
def CH (s : Int) (S S' : St) : Prop := ∀ a i, (a = 136 → ¬ i = 15 ∧ ¬ i = 16 ∧ ¬ i = 18) → ¬ a = 171 → (a = 143 ∨ a = 144 → ¬ i = s) → (147 ≤ a ∧ a ≤ 154 → i < S 136 15) → (155 ≤ a ∧ a ≤ 159 → i < S 136 16) → (168 ≤ a ∧ a ≤ 170 → i < S 136 18) → S' a i = S a i
theorem CH_refl : CH s S S := fun _ _ _ _ _ _ _ _ => rfl
theorem CH_up {T : St} {a : Nat} {i v : Int} (h : CH s S T) (hn : (a = 136 ∧ (i = 15 ∨ i = 16 ∨ i = 18)) ∨ a = 171 ∨ ((a = 143 ∨ a = 144) ∧ i = s) ∨ (147 ≤ a ∧ a ≤ 154 ∧ S 136 15 ≤ i) ∨ (155 ≤ a ∧ a ≤ 159 ∧ S 136 16 ≤ i) ∨ (168 ≤ a ∧ a ≤ 170 ∧ S 136 18 ≤ i)) : CH s S (q_up T a i v) := by
  intro c j h1 h2 h3 h4 h5 h6
  rw [q_up_app, if_neg (by rintro ⟨rfl, rfl⟩; omega)]
  exact h c j h1 h2 h3 h4 h5 h6
theorem CH_lay {T : St} {o u v : Int} (h : CH s S T) (hc : S 136 18 ≤ T 136 18) : CH s S (F_lay T o u v) := by
  unfold F_lay
  refine CH_up (CH_up (CH_up (CH_up h ?_) ?_) ?_) ?_ <;> omega
theorem CH_mk {T : St} {o u v f t : Int} (h : CH s S T) (hc : S 136 15 ≤ T 136 15) : CH s S (F_mk T o u v f t) := by
  unfold F_mk
  refine CH_up (CH_up (CH_up (CH_up (CH_up (CH_up (CH_up (CH_up (CH_up (CH_up h ?_) ?_) ?_) ?_) ?_) ?_) ?_) ?_) ?_) ?_ <;> omega
theorem CH_chk {T : St} {u v : Int} (h : CH s S T) (h1 : S 136 15 ≤ T 136 15) (h2 : S 136 16 ≤ T 136 16) (h3 : S 136 18 ≤ T 136 18) : CH s S (F_chk T s u v) := by
  unfold F_chk
  dsimp only
  have a1 : CH s S (q_up (q_up (q_up (q_up T 155 (T 136 16) s) 156 (T 136 16) u) 157 (T 136 16) (T 171 v)) 159 (T 136 16) (T 136 49)) := by
    refine CH_up (CH_up (CH_up (CH_up h ?_) ?_) ?_) ?_ <;> omega
  refine CH_lay (CH_lay (CH_up (CH_up (CH_up (CH_mk a1 ?_) ?_) ?_) ?_) ?_) ?_
  · simp only [F_lay_ne, F_lay_f, F_lay_18, F_mk_ne, F_mk_f, F_mk_15, q_up_eq, q_up_ne, q_up_ne2, q_upf_ne, q_upf_eq, not_false_eq_true, Nat.reduceEqDiff, Int.reduceEq]; omega
  · omega
  · omega
  · omega
  · simp only [F_lay_ne, F_lay_f, F_lay_18, F_mk_ne, F_mk_f, F_mk_15, q_up_eq, q_up_ne, q_up_ne2, q_upf_ne, q_upf_eq, not_false_eq_true, Nat.reduceEqDiff, Int.reduceEq]; omega
  · simp only [F_lay_ne, F_lay_f, F_lay_18, F_mk_ne, F_mk_f, F_mk_15, q_up_eq, q_up_ne, q_up_ne2, q_upf_ne, q_upf_eq, not_false_eq_true, Nat.reduceEqDiff, Int.reduceEq]; omega
theorem CH_trans {T U : St} (h1 : CH s S T) (h2 : CH s T U) (a1 : S 136 15 ≤ T 136 15) (a2 : S 136 16 ≤ T 136 16) (a3 : S 136 18 ≤ T 136 18) : CH s S U := by
  intro a i b1 b2 b3 b4 b5 b6
  rw [h2 a i b1 b2 b3 (fun h => by have := b4 h; omega) (fun h => by have := b5 h; omega) (fun h => by have := b6 h; omega)]
  exact h1 a i b1 b2 b3 b4 b5 b6
/-- what a test leaves -/
def TF (s : Int) (S S' : St) : Prop := ∀ a i, ¬ (a = 164 ∧ i = s) → ¬ (a = 165 ∧ (i = 2 * s ∨ i = 2 * s + 1)) → ¬ (a = 166 ∧ (i = 2 * s ∨ i = 2 * s + 1)) → S' a i = S a i
/-- a side is told -/
def F_sd (S : St) (k : Int) (t : Int × Int) : St := q_up (q_up S 165 k (F_sk t.1)) 166 k t.2
/-- a side as it may be -/
def SDok (t : Int × Int) : Prop := (t.1 = 1 ∨ t.1 = 2 ∨ t.1 = 3) ∧ (t.1 = 3 → 0 ≤ t.2 ∧ t.2 ≤ 7)
theorem p_sd_num {q : Int} (hr : RH r) (hq : 0 ≤ q) (h : q < r 136 6) (hd : t_dg (r 139 q) = true) : p_sd (r 139) (r 136 6) pl q = p_b (p_nu (r 139) (r 136 6) 99 q) (fun v p => .inr ((1, v), p)) := by
  unfold p_sd
  by_cases e : tk (r 139) (r 136 6) q = 262
  · rw [if_pos e]
  · have hd2 := t_dg_iff.mp hd
    have e2 : tk (r 139) (r 136 6) q = 264 := by
      rcases tk_cases hr.2.2 hq h with ⟨k1, -⟩ | ⟨k1, k2, -⟩ | ⟨k1, -⟩ | ⟨-, k1, -⟩
      · rw [t_let_iff] at k1; omega
      · rw [k2] at e ⊢
        split at e
        · omega
        · rename_i h3; rw [if_neg h3]
      · omega
      · rw [k1] at hd; cases hd
    rw [if_neg e, if_neg (by omega)]
    simp only [p_nu, p_va]
    rw [if_neg (by omega), if_neg (fun h => e h.1)]
    rfl
theorem m_212 {w : Int} (hr : RH r) (hpl : PL r pl) (hx : RA r x p ft) (hs : 0 ≤ s ∧ s < 40) (hw : 0 ≤ w ∧ w < 2)
    (kk : ∀ S' p' b' ft', RA r (p_b x (fun _ q => p_sd (r 139) (r 136 6) pl q)) p' ft' → (∀ t q, p_b x (fun _ q => p_sd (r 139) (r 136 6) pl q) = .inr (t, q) → S' = F_sd S (2 * s + w) t ∧ SDok t) → (∃ a c, S' = q_up (q_up S 165 (2 * s + w) a) 166 (2 * s + w) c) → Q (.inl none) bb (RP S' r p' b' ft' dp)) : qx sc (D + 5) 212 0 [vr 136, vi s, vi w, vn] [] (0, 0) bb (RP S r p b ft dp) Q := by
  have r1 : q_R (2 * s) := by constructor <;> omega
  have r2 : q_R (2 * s + w) := by constructor <;> omega
  have g2 : 0 ≤ 2 * s + w ∧ 2 * s + w < 80 := by omega
  simp only [k212_0, k212_1, k212_2, k212_3, k212_4, k212_5, k212_6, k212_7]
  refine ⟨r1, r2, ?_⟩
  refine m_163 hr hx (fun a q p1 b1 e1 e2 e3 h1 => ?_) (fun p1 b1 e1 h1 => ?_)
  · simp only [q_kn_v, k212_1, k212_2, k212_3, k212_4, k212_5, k212_6, k212_7, k212_10, k212_13, k212_14, k212_17, k212_18, k212_19, k212_20, k212_21, k212_24, k212_25, k212_26, k212_28, k212_31, k212_32, k212_35, k212_36, k212_38, k212_41, k212_44, k212_45, k212_48, k212_49, k212_50, k212_51, k212_52, k212_55, k212_56, k212_57, k212_60, k212_61, k212_64, k212_65, k212_68, k212_69, k212_70, k212_71, k212_72, k212_75, k212_76, k212_77, k212_80, k212_81, RP_p, RP_b, RP_ft, RP_dp, RP_n, RP_told, RP_src, RP_least, RP_14, RP_15, RP_16, RP_17, RP_18, RP_49, RP_51, RP_c142, RP_u142, RP_c143, RP_u143, RP_c144, RP_u144, RP_c145, RP_u145, RP_c146, RP_u146, RP_c147, RP_u147, RP_c148, RP_u148, RP_c149, RP_u149, RP_c150, RP_u150, RP_c151, RP_u151, RP_c152, RP_u152, RP_c153, RP_u153, RP_c154, RP_u154, RP_c155, RP_u155, RP_c156, RP_u156, RP_c157, RP_u157, RP_c158, RP_u158, RP_c159, RP_u159, RP_c160, RP_u160, RP_c161, RP_u161, RP_c162, RP_u162, RP_c163, RP_u163, RP_c164, RP_u164, RP_c165, RP_u165, RP_c166, RP_u166, RP_c167, RP_u167, RP_c168, RP_u168, RP_c169, RP_u169, RP_c170, RP_u170, RP_c171, RP_u171, RP_c172, RP_u172, RP_upp, RP_upb, RP_upft, RP_updp, RP_uptold, RP_upleast, RP_up14, RP_up15, RP_up16, RP_up17, RP_up18, RP_up49, RP_up51, q_up_eq, q_up_ne, q_up_ne2, q_upf_ne, q_upf_eq, not_false_eq_true, qt_165, ql_165, true_implies, false_implies, not_true_eq_false, not_false_eq_true, true_and, and_true, implies_true, or_true, true_or, or_false, false_or, Int.reduceEq, Int.one_ne_zero, Nat.reduceEqDiff]
    refine ⟨g2, ?_⟩
    refine m_189 hr h1 (fun v p2 b2 ft2 h2 v1 v2 v3 => ?_)
    simp only [q_kn_v, k212_1, k212_2, k212_3, k212_4, k212_5, k212_6, k212_7, k212_10, k212_13, k212_14, k212_17, k212_18, k212_19, k212_20, k212_21, k212_24, k212_25, k212_26, k212_28, k212_31, k212_32, k212_35, k212_36, k212_38, k212_41, k212_44, k212_45, k212_48, k212_49, k212_50, k212_51, k212_52, k212_55, k212_56, k212_57, k212_60, k212_61, k212_64, k212_65, k212_68, k212_69, k212_70, k212_71, k212_72, k212_75, k212_76, k212_77, k212_80, k212_81, RP_p, RP_b, RP_ft, RP_dp, RP_n, RP_told, RP_src, RP_least, RP_14, RP_15, RP_16, RP_17, RP_18, RP_49, RP_51, RP_c142, RP_u142, RP_c143, RP_u143, RP_c144, RP_u144, RP_c145, RP_u145, RP_c146, RP_u146, RP_c147, RP_u147, RP_c148, RP_u148, RP_c149, RP_u149, RP_c150, RP_u150, RP_c151, RP_u151, RP_c152, RP_u152, RP_c153, RP_u153, RP_c154, RP_u154, RP_c155, RP_u155, RP_c156, RP_u156, RP_c157, RP_u157, RP_c158, RP_u158, RP_c159, RP_u159, RP_c160, RP_u160, RP_c161, RP_u161, RP_c162, RP_u162, RP_c163, RP_u163, RP_c164, RP_u164, RP_c165, RP_u165, RP_c166, RP_u166, RP_c167, RP_u167, RP_c168, RP_u168, RP_c169, RP_u169, RP_c170, RP_u170, RP_c171, RP_u171, RP_c172, RP_u172, RP_upp, RP_upb, RP_upft, RP_updp, RP_uptold, RP_upleast, RP_up14, RP_up15, RP_up16, RP_up17, RP_up18, RP_up49, RP_up51, q_up_eq, q_up_ne, q_up_ne2, q_upf_ne, q_upf_eq, not_false_eq_true, qt_166, ql_166, true_implies, false_implies, not_true_eq_false, not_false_eq_true, true_and, and_true, implies_true, or_true, true_or, or_false, false_or, Int.reduceEq, Int.one_ne_zero, Nat.reduceEqDiff]
    refine ⟨g2, ?_⟩
    have hq : 0 ≤ q := by
      have := h1.2; rw [e1] at this; simp only at this; rw [← this.2]; exact sk_0 h1.1
    have e4 : p_b x (fun _ q => p_sd (r 139) (r 136 6) pl q) = p_b (p_b x (fun _ q => p_nu (r 139) (r 136 6) 99 q)) (fun v p => .inr ((1, v), p)) := by
      rw [e1, p_b_inr, p_b_inr, p_sd_num hr hq e2 e3]
    rw [e4] at kk
    generalize hy : p_b x (fun _ q => p_nu (r 139) (r 136 6) 99 q) = y at *
    rcases y with y | ⟨y, z⟩
    · exact kk _ _ _ _ h2 (fun t q e => by cases e) ⟨_, _, rfl⟩
    · refine kk _ _ _ _ h2 (fun t q e => ?_) ⟨_, _, rfl⟩
      cases e
      have := v1 y z rfl
      subst this
      exact ⟨rfl, Or.inl rfl, fun h => by simp at h⟩
  · simp only [q_kn_v, k212_10, k212_35, k212_36, k212_38, true_implies, false_implies, not_true_eq_false, not_false_eq_true, true_and, and_true, implies_true, or_true, true_or, or_false, false_or, Int.reduceEq, Int.one_ne_zero, Nat.reduceEqDiff]
    refine m_219 hr h1 (by decide) (by decide) (by decide) (by decide) (fun a q p2 b2 e2 e3 h2 => ?_) (fun p2 b2 e2 h2 => ?_)
    · simp only [q_kn_v, k212_1, k212_2, k212_3, k212_4, k212_5, k212_6, k212_7, k212_10, k212_13, k212_14, k212_17, k212_18, k212_19, k212_20, k212_21, k212_24, k212_25, k212_26, k212_28, k212_31, k212_32, k212_35, k212_36, k212_38, k212_41, k212_44, k212_45, k212_48, k212_49, k212_50, k212_51, k212_52, k212_55, k212_56, k212_57, k212_60, k212_61, k212_64, k212_65, k212_68, k212_69, k212_70, k212_71, k212_72, k212_75, k212_76, k212_77, k212_80, k212_81, RP_p, RP_b, RP_ft, RP_dp, RP_n, RP_told, RP_src, RP_least, RP_14, RP_15, RP_16, RP_17, RP_18, RP_49, RP_51, RP_c142, RP_u142, RP_c143, RP_u143, RP_c144, RP_u144, RP_c145, RP_u145, RP_c146, RP_u146, RP_c147, RP_u147, RP_c148, RP_u148, RP_c149, RP_u149, RP_c150, RP_u150, RP_c151, RP_u151, RP_c152, RP_u152, RP_c153, RP_u153, RP_c154, RP_u154, RP_c155, RP_u155, RP_c156, RP_u156, RP_c157, RP_u157, RP_c158, RP_u158, RP_c159, RP_u159, RP_c160, RP_u160, RP_c161, RP_u161, RP_c162, RP_u162, RP_c163, RP_u163, RP_c164, RP_u164, RP_c165, RP_u165, RP_c166, RP_u166, RP_c167, RP_u167, RP_c168, RP_u168, RP_c169, RP_u169, RP_c170, RP_u170, RP_c171, RP_u171, RP_c172, RP_u172, RP_upp, RP_upb, RP_upft, RP_updp, RP_uptold, RP_upleast, RP_up14, RP_up15, RP_up16, RP_up17, RP_up18, RP_up49, RP_up51, q_up_eq, q_up_ne, q_up_ne2, q_upf_ne, q_upf_eq, not_false_eq_true, qt_165, ql_165, true_implies, false_implies, not_true_eq_false, not_false_eq_true, true_and, and_true, implies_true, or_true, true_or, or_false, false_or, Int.reduceEq, Int.one_ne_zero, Nat.reduceEqDiff]
      refine ⟨g2, ?_⟩
      refine m_206 hr hpl h2 (fun v p3 b3 ft3 h3 v1 v2 v3 => ?_)
      simp only [q_kn_v, k212_1, k212_2, k212_3, k212_4, k212_5, k212_6, k212_7, k212_10, k212_13, k212_14, k212_17, k212_18, k212_19, k212_20, k212_21, k212_24, k212_25, k212_26, k212_28, k212_31, k212_32, k212_35, k212_36, k212_38, k212_41, k212_44, k212_45, k212_48, k212_49, k212_50, k212_51, k212_52, k212_55, k212_56, k212_57, k212_60, k212_61, k212_64, k212_65, k212_68, k212_69, k212_70, k212_71, k212_72, k212_75, k212_76, k212_77, k212_80, k212_81, RP_p, RP_b, RP_ft, RP_dp, RP_n, RP_told, RP_src, RP_least, RP_14, RP_15, RP_16, RP_17, RP_18, RP_49, RP_51, RP_c142, RP_u142, RP_c143, RP_u143, RP_c144, RP_u144, RP_c145, RP_u145, RP_c146, RP_u146, RP_c147, RP_u147, RP_c148, RP_u148, RP_c149, RP_u149, RP_c150, RP_u150, RP_c151, RP_u151, RP_c152, RP_u152, RP_c153, RP_u153, RP_c154, RP_u154, RP_c155, RP_u155, RP_c156, RP_u156, RP_c157, RP_u157, RP_c158, RP_u158, RP_c159, RP_u159, RP_c160, RP_u160, RP_c161, RP_u161, RP_c162, RP_u162, RP_c163, RP_u163, RP_c164, RP_u164, RP_c165, RP_u165, RP_c166, RP_u166, RP_c167, RP_u167, RP_c168, RP_u168, RP_c169, RP_u169, RP_c170, RP_u170, RP_c171, RP_u171, RP_c172, RP_u172, RP_upp, RP_upb, RP_upft, RP_updp, RP_uptold, RP_upleast, RP_up14, RP_up15, RP_up16, RP_up17, RP_up18, RP_up49, RP_up51, q_up_eq, q_up_ne, q_up_ne2, q_upf_ne, q_upf_eq, not_false_eq_true, qt_166, ql_166, true_implies, false_implies, not_true_eq_false, not_false_eq_true, true_and, and_true, implies_true, or_true, true_or, or_false, false_or, Int.reduceEq, Int.one_ne_zero, Nat.reduceEqDiff]
      refine ⟨g2, ?_⟩
      simp only [p_b_inr] at h3 v1
      have e4 : p_b x (fun _ q => p_sd (r 139) (r 136 6) pl q) = p_b (p_ro (r 139) (r 136 6) pl (nx (r 139) (r 136 6) q)) (fun v p => .inr ((2, v), p)) := by
        rw [e2, p_b_inr]
        unfold p_sd
        rw [if_neg (by omega), if_pos e3]
      rw [e4] at kk
      generalize hy : p_ro (r 139) (r 136 6) pl (nx (r 139) (r 136 6) q) = y at *
      rcases y with y | ⟨y, z⟩
      · exact kk _ _ _ _ h3 (fun t q e => by cases e) ⟨_, _, rfl⟩
      · refine kk _ _ _ _ h3 (fun t q e => ?_) ⟨_, _, rfl⟩
        cases e
        have := v1 y z rfl
        subst this
        exact ⟨rfl, Or.inr (Or.inl rfl), fun h => by simp at h⟩
    · simp only [q_kn_v, k212_1, k212_2, k212_3, k212_4, k212_5, k212_6, k212_7, k212_10, k212_13, k212_14, k212_17, k212_18, k212_19, k212_20, k212_21, k212_24, k212_25, k212_26, k212_28, k212_31, k212_32, k212_35, k212_36, k212_38, k212_41, k212_44, k212_45, k212_48, k212_49, k212_50, k212_51, k212_52, k212_55, k212_56, k212_57, k212_60, k212_61, k212_64, k212_65, k212_68, k212_69, k212_70, k212_71, k212_72, k212_75, k212_76, k212_77, k212_80, k212_81, RP_p, RP_b, RP_ft, RP_dp, RP_n, RP_told, RP_src, RP_least, RP_14, RP_15, RP_16, RP_17, RP_18, RP_49, RP_51, RP_c142, RP_u142, RP_c143, RP_u143, RP_c144, RP_u144, RP_c145, RP_u145, RP_c146, RP_u146, RP_c147, RP_u147, RP_c148, RP_u148, RP_c149, RP_u149, RP_c150, RP_u150, RP_c151, RP_u151, RP_c152, RP_u152, RP_c153, RP_u153, RP_c154, RP_u154, RP_c155, RP_u155, RP_c156, RP_u156, RP_c157, RP_u157, RP_c158, RP_u158, RP_c159, RP_u159, RP_c160, RP_u160, RP_c161, RP_u161, RP_c162, RP_u162, RP_c163, RP_u163, RP_c164, RP_u164, RP_c165, RP_u165, RP_c166, RP_u166, RP_c167, RP_u167, RP_c168, RP_u168, RP_c169, RP_u169, RP_c170, RP_u170, RP_c171, RP_u171, RP_c172, RP_u172, RP_upp, RP_upb, RP_upft, RP_updp, RP_uptold, RP_upleast, RP_up14, RP_up15, RP_up16, RP_up17, RP_up18, RP_up49, RP_up51, q_up_eq, q_up_ne, q_up_ne2, q_upf_ne, q_upf_eq, not_false_eq_true, qt_165, ql_165, true_implies, false_implies, not_true_eq_false, not_false_eq_true, true_and, and_true, implies_true, or_true, true_or, or_false, false_or, Int.reduceEq, Int.one_ne_zero, Nat.reduceEqDiff]
      refine ⟨g2, ?_⟩
      refine m_228 hr h2 (fun v p3 b3 ft3 h3 v1 v2 v3 => ?_)
      simp only [q_kn_v, k212_1, k212_2, k212_3, k212_4, k212_5, k212_6, k212_7, k212_10, k212_13, k212_14, k212_17, k212_18, k212_19, k212_20, k212_21, k212_24, k212_25, k212_26, k212_28, k212_31, k212_32, k212_35, k212_36, k212_38, k212_41, k212_44, k212_45, k212_48, k212_49, k212_50, k212_51, k212_52, k212_55, k212_56, k212_57, k212_60, k212_61, k212_64, k212_65, k212_68, k212_69, k212_70, k212_71, k212_72, k212_75, k212_76, k212_77, k212_80, k212_81, RP_p, RP_b, RP_ft, RP_dp, RP_n, RP_told, RP_src, RP_least, RP_14, RP_15, RP_16, RP_17, RP_18, RP_49, RP_51, RP_c142, RP_u142, RP_c143, RP_u143, RP_c144, RP_u144, RP_c145, RP_u145, RP_c146, RP_u146, RP_c147, RP_u147, RP_c148, RP_u148, RP_c149, RP_u149, RP_c150, RP_u150, RP_c151, RP_u151, RP_c152, RP_u152, RP_c153, RP_u153, RP_c154, RP_u154, RP_c155, RP_u155, RP_c156, RP_u156, RP_c157, RP_u157, RP_c158, RP_u158, RP_c159, RP_u159, RP_c160, RP_u160, RP_c161, RP_u161, RP_c162, RP_u162, RP_c163, RP_u163, RP_c164, RP_u164, RP_c165, RP_u165, RP_c166, RP_u166, RP_c167, RP_u167, RP_c168, RP_u168, RP_c169, RP_u169, RP_c170, RP_u170, RP_c171, RP_u171, RP_c172, RP_u172, RP_upp, RP_upb, RP_upft, RP_updp, RP_uptold, RP_upleast, RP_up14, RP_up15, RP_up16, RP_up17, RP_up18, RP_up49, RP_up51, q_up_eq, q_up_ne, q_up_ne2, q_upf_ne, q_upf_eq, not_false_eq_true, qt_166, ql_166, true_implies, false_implies, not_true_eq_false, not_false_eq_true, true_and, and_true, implies_true, or_true, true_or, or_false, false_or, Int.reduceEq, Int.one_ne_zero, Nat.reduceEqDiff]
      refine ⟨g2, ?_⟩
      have e4 : p_b x (fun _ q => p_sd (r 139) (r 136 6) pl q) = p_b (p_b x (fun _ q => p_va (r 139) (r 136 6) q)) (fun v p => .inr ((3, v), p)) := by
        rcases x with y | ⟨y, z⟩
        · rfl
        · rw [p_b_inr, p_b_inr]
          unfold p_sd
          have e5 := e1 y z rfl
          have hz : 0 ≤ z := by
            have := h1.2; simp only at this; rw [← this.2]; exact sk_0 h1.1
          rw [if_neg (fun h => e5 ⟨((tk_num hr.2.2 hz).mp h).1, ((tk_num hr.2.2 hz).mp h).2.1⟩), if_neg (e2 y z rfl).1]
      rw [e4] at kk
      generalize hy : p_b x (fun _ q => p_va (r 139) (r 136 6) q) = y at *
      rcases y with y | ⟨y, z⟩
      · exact kk _ _ _ _ h3 (fun t q e => by cases e) ⟨_, _, rfl⟩
      · refine kk _ _ _ _ h3 (fun t q e => ?_) ⟨_, _, rfl⟩
        cases e
        have := v1 y z rfl
        subst this
        exact ⟨rfl, Or.inr (Or.inr rfl), fun _ => ⟨v2, v3⟩⟩
/-- where < stands -/
theorem tk_lt (hr : RH r) {q : Int} (hq : 0 ≤ q) (h : q < r 136 6) (e : r 139 q = 60) : (q + 1 < r 136 6 ∧ r 139 (q + 1) = 61 → tk (r 139) (r 136 6) q = 263 ∧ te (r 139) (r 136 6) q = q + 2) ∧ (¬ (q + 1 < r 136 6 ∧ r 139 (q + 1) = 61) → tk (r 139) (r 136 6) q = 60 ∧ te (r 139) (r 136 6) q = q + 1) := by
  rcases tk_cases hr.2.2 hq h with ⟨k1, -⟩ | ⟨k1, -⟩ | ⟨k1, k2, k3, k4, k5⟩ | ⟨k1, k2, k3, k4, k5, k6, k7⟩
  · rw [t_let_iff] at k1; omega
  · rw [t_dg_iff] at k1; omega
  · exact ⟨fun _ => ⟨k4, k5⟩, fun h => absurd ⟨k2, k3⟩ h⟩
  · exact ⟨fun h => absurd ⟨e, h⟩ k3, fun _ => ⟨by omega, k4⟩⟩
theorem tk_60 (hr : RH r) {q : Int} (hq : 0 ≤ q) (h : tk (r 139) (r 136 6) q = 60 ∨ tk (r 139) (r 136 6) q = 263) : q < r 136 6 ∧ r 139 q = 60 := by
  by_cases h0 : q < r 136 6
  · have hw := t_wk_cases (f := r 139) (p := q) (m := t_run t_let (r 139) (r 136 6) q - q)
    rcases tk_cases hr.2.2 hq h0 with ⟨k1, k2, -⟩ | ⟨k1, k2, -⟩ | ⟨k1, k2, k3, k4, k5⟩ | ⟨k1, k2, k3, k4, k5, k6, k7⟩
    · rw [t_let_iff] at k1; omega
    · rw [k2] at h; split at h <;> omega
    · exact ⟨h0, k1⟩
    · exact ⟨h0, by omega⟩
  · have := (tk_past (f := r 139) (n := r 136 6) (p := q) (by omega)).1; omega
theorem m_222 (hr : RH r) (hpl : PL r pl) (hx : RA r x p ft) (hs : 0 ≤ s ∧ s < 40)
    (kk : ∀ S' p' b' ft', RA r (p_b x (fun _ q => p_te (r 139) (r 136 6) pl q)) p' ft' → (∀ t q, p_b x (fun _ q => p_te (r 139) (r 136 6) pl q) = .inr (t, q) → S' = F_test S s t ∧ SDok t.2.1 ∧ SDok t.2.2) → TF s S S' → Q (.inl none) bb (RP S' r p' b' ft' dp)) : qx sc (D + 6) 222 0 [vr 136, vi s] [] (0, 0) bb (RP S r p b ft dp) Q := by
  simp only [k222_0, k222_1, k222_2, k222_3]
  refine m_212 hr hpl hx hs (by omega) (fun S1 p1 b1 ft1 h1 e1 e2 => ?_)
  simp only [q_kn_n, k222_6, k222_7]
  obtain ⟨za, zc, e2⟩ := e2
  generalize hy : p_b x (fun _ q => p_sd (r 139) (r 136 6) pl q) = y at *
  have eT : p_b x (fun _ q => p_te (r 139) (r 136 6) pl q) = p_b y (fun l p => p_b (p_re (r 139) (r 136 6) p) fun b p => p_b (p_sd (r 139) (r 136 6) pl p) fun rr p => .inr ((b, l, rr), p)) := by
    rw [← hy, p_b_b]
    rfl
  rw [eT] at kk
  refine m_154 h1 (fun q eq1 eq2 => ?_) (fun l q eq1 eq2 => ?_)
  · simp only [q_kn_v, k222_10, k222_13, true_implies, false_implies, not_true_eq_false, not_false_eq_true, true_and, and_true, implies_true, or_true, true_or, or_false, false_or, Int.reduceEq, Int.one_ne_zero, Nat.reduceEqDiff]
    rw [eq1] at kk h1
    refine kk _ _ _ _ h1 (fun t q e => by cases e) (fun a i a1 a2 a3 => ?_)
    rw [e2, q_up_app, if_neg (by omega), q_up_app, if_neg (by omega)]
  · subst eq1
    obtain ⟨e1, ok1⟩ := e1 l q rfl
    simp only [p_b_inr] at kk
    have hq : 0 ≤ q := by have := h1.2.2; rw [← this]; exact sk_0 h1.1
    have hsk : sk (r 139) (r 136 6) p1 = q := h1.2.2
    simp only [q_kn_v, k222_10, k222_14, k222_15, k222_17, true_implies, false_implies, not_true_eq_false, not_false_eq_true, true_and, and_true, implies_true, or_true, true_or, or_false, false_or, Int.reduceEq, Int.one_ne_zero, Nat.reduceEqDiff]
    rw [c219 hr h1.1, hsk]
    -- the second side
    have tail : ∀ (by' : Int) (y2 : PX Int) (S2 : St) (p2 b2 ft2 : Int), RA r y2 p2 ft2 → p_re (r 139) (r 136 6) q = y2 → (∀ w z, y2 = .inr (w, z) → by' = w ∧ S2 = q_up S1 164 s w) → TF s S S2 → qx sc (D + 6) 222 86 [vr 136, vi s] [] (0, 0) bb (RP S2 r p2 b2 ft2 dp) Q := by
      intro by' y2 S2 p2 b2 ft2 h2 e3 e4 e5
      simp only [k222_86, k222_87, k222_88, k222_89]
      refine m_212 hr hpl h2 hs (by omega) (fun S3 p3 b3 ft3 h3 e6 e7 => ?_)
      obtain ⟨ya, yc, e7⟩ := e7
      simp only [q_kn_n, k222_92]
      rw [e3] at kk
      have hfr : TF s S S3 := by
        intro a i a1 a2 a3
        rw [e7, q_up_app, if_neg (by omega), q_up_app, if_neg (by omega)]
        exact e5 a i a1 a2 a3
      rcases y2 with z | ⟨w, z⟩
      · exact kk _ _ _ _ h3 (fun t q e => by cases e) hfr
      · obtain ⟨-, e8⟩ := e4 w z rfl
        simp only [p_b_inr] at kk h3 e6
        generalize hy3 : p_sd (r 139) (r 136 6) pl z = y3 at *
        rcases y3 with z3 | ⟨w3, z3⟩
        · exact kk _ _ _ _ h3 (fun t q e => by cases e) hfr
        · refine kk _ _ _ _ h3 (fun t q e => ?_) hfr
          cases e
          obtain ⟨e9, ok3⟩ := e6 w3 z3 rfl
          refine ⟨?_, ok1, ok3⟩
          rw [e9, e8, e1]
          simp only [F_sd, F_test, Int.add_zero]
    have hfr1 : TF s S S1 := by
      intro a i a1 a2 a3
      rw [e2, q_up_app, if_neg (by omega), q_up_app, if_neg (by omega)]
    have hfr2 : ∀ v, TF s S (q_up S1 164 s v) := by
      intro v a i a1 a2 a3
      rw [q_up_app, if_neg a1]
      exact hfr1 a i a1 a2 a3
    refine ⟨fun h => ?_, fun h => ?_⟩
    · obtain ⟨l1, l2⟩ := tk_lt hr hq h.2.1 h.2.2
      have hr1 := hr.2.1
      simp only [q_kn_v, k222_20, k222_23, k222_24, k222_27, k222_28, k222_29, k222_31, k222_33, c159 (p := q + 1) hr (by omega), k222_36, k222_39, k222_40, k222_43, k222_44, k222_45, k222_46, k222_47, k222_50, k222_51, k222_54, k222_55, k222_56, k222_57, k222_60, RP_p, RP_b, RP_ft, RP_dp, RP_n, RP_told, RP_src, RP_least, RP_14, RP_15, RP_16, RP_17, RP_18, RP_49, RP_51, RP_c142, RP_u142, RP_c143, RP_u143, RP_c144, RP_u144, RP_c145, RP_u145, RP_c146, RP_u146, RP_c147, RP_u147, RP_c148, RP_u148, RP_c149, RP_u149, RP_c150, RP_u150, RP_c151, RP_u151, RP_c152, RP_u152, RP_c153, RP_u153, RP_c154, RP_u154, RP_c155, RP_u155, RP_c156, RP_u156, RP_c157, RP_u157, RP_c158, RP_u158, RP_c159, RP_u159, RP_c160, RP_u160, RP_c161, RP_u161, RP_c162, RP_u162, RP_c163, RP_u163, RP_c164, RP_u164, RP_c165, RP_u165, RP_c166, RP_u166, RP_c167, RP_u167, RP_c168, RP_u168, RP_c169, RP_u169, RP_c170, RP_u170, RP_c171, RP_u171, RP_c172, RP_u172, RP_upp, RP_upb, RP_upft, RP_updp, RP_uptold, RP_upleast, RP_up14, RP_up15, RP_up16, RP_up17, RP_up18, RP_up49, RP_up51, q_up_eq, q_up_ne, q_up_ne2, q_upf_ne, q_upf_eq, not_false_eq_true, qt_164, ql_164, true_implies, false_implies, not_true_eq_false, not_false_eq_true, true_and, and_true, implies_true, or_true, true_or, or_false, false_or, Int.reduceEq, Int.one_ne_zero, Nat.reduceEqDiff]
      refine ⟨fun h2 => ?_, fun h2 => ?_⟩
      · obtain ⟨l3, l4⟩ := l1 ⟨h2.1, by omega⟩
        refine ⟨hs, hs, by omega, ?_⟩
        refine tail 1 (.inr (1, nx (r 139) (r 136 6) q)) _ _ _ _ ⟨by omega, eq2, ?_⟩ ?_ (fun w z e => by cases e; exact ⟨rfl, rfl⟩) (hfr2 1)
        · unfold nx; rw [l4, show q + 1 + 1 = q + 2 by omega]
        · unfold p_re; rw [if_neg (by omega), if_pos l3]
      · obtain ⟨l3, l4⟩ := l2 (fun h3 => h2 ⟨h3.1, by omega⟩)
        refine ⟨hs, hs, by omega, ?_⟩
        refine tail 0 (.inr (0, nx (r 139) (r 136 6) q)) _ _ _ _ ⟨by omega, eq2, ?_⟩ ?_ (fun w z e => by cases e; exact ⟨rfl, rfl⟩) (hfr2 0)
        · unfold nx; rw [l4, show q + 1 + 0 = q + 1 by omega]
        · unfold p_re; rw [if_pos l3]
    · have hn60 : ¬ (tk (r 139) (r 136 6) q = 60 ∨ tk (r 139) (r 136 6) q = 263) := fun h2 => h ⟨eq2, tk_60 hr hq h2⟩
      simp only [q_kn_v, k222_20, k222_63, k222_64, k222_66, true_implies, false_implies, not_true_eq_false, not_false_eq_true, true_and, and_true, implies_true, or_true, true_or, or_false, false_or, Int.reduceEq, Int.one_ne_zero, Nat.reduceEqDiff]
      refine m_219 (x := (.inr ((), q) : PX Unit)) hr ⟨hq, eq2, by rw [← hsk]; exact sk_id⟩ (by decide) (by decide) (by decide) (by decide) (fun a q2 p2 b2 e3 e4 h2 => ?_) (fun p2 b2 e3 h2 => ?_)
      · cases e3
        simp only [q_kn_v, k222_69, k222_72, k222_73, k222_76, k222_77, k222_78, k222_79, RP_p, RP_b, RP_ft, RP_dp, RP_n, RP_told, RP_src, RP_least, RP_14, RP_15, RP_16, RP_17, RP_18, RP_49, RP_51, RP_c142, RP_u142, RP_c143, RP_u143, RP_c144, RP_u144, RP_c145, RP_u145, RP_c146, RP_u146, RP_c147, RP_u147, RP_c148, RP_u148, RP_c149, RP_u149, RP_c150, RP_u150, RP_c151, RP_u151, RP_c152, RP_u152, RP_c153, RP_u153, RP_c154, RP_u154, RP_c155, RP_u155, RP_c156, RP_u156, RP_c157, RP_u157, RP_c158, RP_u158, RP_c159, RP_u159, RP_c160, RP_u160, RP_c161, RP_u161, RP_c162, RP_u162, RP_c163, RP_u163, RP_c164, RP_u164, RP_c165, RP_u165, RP_c166, RP_u166, RP_c167, RP_u167, RP_c168, RP_u168, RP_c169, RP_u169, RP_c170, RP_u170, RP_c171, RP_u171, RP_c172, RP_u172, RP_upp, RP_upb, RP_upft, RP_updp, RP_uptold, RP_upleast, RP_up14, RP_up15, RP_up16, RP_up17, RP_up18, RP_up49, RP_up51, qt_164, ql_164, true_implies, false_implies, not_true_eq_false, not_false_eq_true, true_and, and_true, implies_true, or_true, true_or, or_false, false_or, Int.reduceEq, Int.one_ne_zero, Nat.reduceEqDiff]
        refine ⟨hs, ?_⟩
        refine tail 2 (.inr (2, nx (r 139) (r 136 6) q)) _ _ _ _ h2 ?_ (fun w z e => by cases e; exact ⟨rfl, rfl⟩) (hfr2 2)
        unfold p_re
        rw [if_neg (fun h3 => hn60 (Or.inl h3)), if_neg (fun h3 => hn60 (Or.inr h3)), if_pos e4]
      · simp only [q_kn_v, k222_69, k222_82, k222_83, c148, q_kn_n, true_implies, false_implies, not_true_eq_false, not_false_eq_true, true_and, and_true, implies_true, or_true, true_or, or_false, false_or, Int.reduceEq, Int.one_ne_zero, Nat.reduceEqDiff]
        obtain ⟨e4, e5⟩ := e3 () q rfl
        rw [if_pos eq2, e5]
        refine tail 0 (.inl q) _ _ _ _ ⟨h2.1, rfl, hq⟩ ?_ (fun w z e => by cases e) hfr1
        unfold p_re
        rw [if_neg (fun h3 => hn60 (Or.inl h3)), if_neg (fun h3 => hn60 (Or.inr h3)), if_neg e4]
end RD
