/-! WHAT F LEAVES: all rows below the counts -/
/-- what lies below the counts of S0, and what F never touches -/
def bel (S0 : St) (a : Nat) (i : Int) : Prop :=
  (142 ≤ a ∧ a ≤ 146 ∧ i < S0 136 14) ∨ (a = 164 ∧ i < S0 136 14) ∨ (165 ≤ a ∧ a ≤ 167 ∧ i < 2 * S0 136 14) ∨ (147 ≤ a ∧ a ≤ 154 ∧ i < S0 136 15) ∨ (155 ≤ a ∧ a ≤ 159 ∧ i < S0 136 16) ∨ (160 ≤ a ∧ a ≤ 163 ∧ i < S0 136 17) ∨ (168 ≤ a ∧ a ≤ 170 ∧ i < S0 136 18) ∨ (a = 172 ∧ i < S0 136 51) ∨ (¬ a = 136 ∧ (a < 142 ∨ 172 < a)) ∨ (a = 136 ∧ ¬ (14 ≤ i ∧ i ≤ 18) ∧ ¬ i = 49 ∧ ¬ i = 51)
def FB (S0 S : St) : Prop := ∀ a i, bel S0 a i → S a i = S0 a i
/-- the versions that are looked at now are there -/
def NV (S : St) : Prop := ∀ i, 0 ≤ i → i ≤ 7 → 0 ≤ S 171 i ∧ S 171 i < S 136 15
/-- counts not below those of S0 -/
def CU (S0 S : St) : Prop := S0 136 14 ≤ S 136 14 ∧ S0 136 15 ≤ S 136 15 ∧ S0 136 16 ≤ S 136 16 ∧ S0 136 17 ≤ S 136 17 ∧ S0 136 18 ≤ S 136 18 ∧ S0 136 51 ≤ S 136 51
def IV (S0 S : St) : Prop := FB S0 S ∧ CU S0 S
section FRM
variable {S0 S S' : St} {x y s : Int}
theorem FB_up {a : Nat} {i : Int} (h : FB S0 S) (hn : ¬ bel S0 a i) : FB S0 (q_up S a i x) := by
  intro c j hc
  rw [q_up_app, if_neg (fun q => hn (by rw [← q.1, ← q.2]; exact hc))]
  exact h c j hc
theorem bel_up (hC : CU S0 S) {a : Nat} {i : Int} (h : bel S0 a i) : bel S a i := by
  unfold CU at hC
  unfold bel at h ⊢
  omega
theorem IV_trans (h1 : IV S0 S) (h2 : IV S S') : IV S0 S' := by
  refine ⟨fun a i h => ?_, ?_⟩
  · rw [h2.1 a i (bel_up h1.2 h)]
    exact h1.1 a i h
  · have a1 := h1.2
    have a2 := h2.2
    unfold CU at *
    omega
theorem IV_refl : IV S S := ⟨fun _ _ _ => rfl, by unfold CU; omega⟩
/-- a write into a row at or behind its count -/
theorem IV_up {a : Nat} {i : Int} (h : IV S0 S) (ha : ¬ a = 136) (hn : ¬ bel S0 a i) : IV S0 (q_up S a i x) := by
  refine ⟨FB_up h.1 hn, ?_⟩
  have := h.2
  unfold CU at this ⊢
  simp only [q_up_ne _ _ _ _ (show ¬ 136 = a from fun q => ha q.symm)]
  exact this
theorem IV_lay (h : IV S0 S) : IV S0 (F_lay S x y s) := by
  have hc := h.2
  refine ⟨?_, ?_⟩
  · unfold F_lay
    unfold CU at hc
    refine FB_up (FB_up (FB_up (FB_up h.1 ?_) ?_) ?_) ?_ <;> unfold bel <;> omega
  · unfold CU at hc ⊢
    simp only [F_lay_ne, F_lay_f, F_lay_18, F_mk_ne, F_mk_f, F_mk_15, q_up_eq, q_up_ne, q_up_ne2, q_upf_ne, q_upf_eq, not_false_eq_true, Nat.reduceEqDiff, Int.reduceEq]
    omega
theorem IV_mk {how fr too : Int} (h : IV S0 S) : IV S0 (F_mk S x how s fr too) := by
  have hc := h.2
  refine ⟨?_, ?_⟩
  · unfold F_mk
    unfold CU at hc
    refine FB_up (FB_up (FB_up (FB_up (FB_up (FB_up (FB_up (FB_up (FB_up (FB_up h.1 ?_) ?_) ?_) ?_) ?_) ?_) ?_) ?_) ?_) ?_ <;> unfold bel <;> omega
  · unfold CU at hc ⊢
    simp only [F_lay_ne, F_lay_f, F_lay_18, F_mk_ne, F_mk_f, F_mk_15, q_up_eq, q_up_ne, q_up_ne2, q_upf_ne, q_upf_eq, not_false_eq_true, Nat.reduceEqDiff, Int.reduceEq]
    omega
theorem NV_mk {how fr too : Int} (h : NV S) (hv : 0 ≤ S 136 15) : NV (F_mk S x how s fr too) := by
  intro i h1 h2
  rw [F_mk_171, F_mk_15]
  have := h i h1 h2
  split <;> omega
theorem NV_lay (h : NV S) : NV (F_lay S x y s) := by
  intro i h1 h2
  simp only [F_lay_ne, F_lay_f, F_lay_18, F_mk_ne, F_mk_f, F_mk_15, q_up_eq, q_up_ne, q_up_ne2, q_upf_ne, q_upf_eq, not_false_eq_true, Nat.reduceEqDiff, Int.reduceEq]
  exact h i h1 h2
theorem NV_up {a : Nat} {i : Int} (h : NV S) (h1 : ¬ a = 136) (h2 : ¬ a = 171) : NV (q_up S a i x) := by
  intro j g1 g2
  rw [q_up_ne _ _ _ _ (show ¬ 171 = a from fun q => h2 q.symm), q_up_ne _ _ _ _ (show ¬ 136 = a from fun q => h1 q.symm)]
  exact h j g1 g2
theorem NV_upf {i : Int} (h : NV S) (h1 : ¬ i = 15) : NV (q_up S 136 i x) := by
  intro j g1 g2
  rw [q_up_ne _ _ _ _ (by decide), q_up_ne2 _ _ _ (show ¬ 15 = i from fun q => h1 q.symm)]
  exact h j g1 g2
theorem IV_keep (h : IV S0 S) (h0 : 0 ≤ S 136 51) : IV S0 (F_keep S) := by
  have hc := h.2
  refine ⟨?_, ?_⟩
  · unfold F_keep
    unfold CU at hc
    refine FB_up ?_ (by unfold bel; omega)
    intro a i hb
    rw [q_upf_app]
    split
    · rename_i e
      subst e
      rw [if_neg (by unfold bel at hb; omega)]
      exact h.1 _ i hb
    · exact h.1 a i hb
  · unfold CU at hc ⊢
    simp only [F_keep, F_lay_ne, F_lay_f, F_lay_18, F_mk_ne, F_mk_f, F_mk_15, q_up_eq, q_up_ne, q_up_ne2, q_upf_ne, q_upf_eq, not_false_eq_true, Nat.reduceEqDiff, Int.reduceEq]
    omega
theorem keep_f {i : Int} (h : ¬ i = 51) : F_keep S 136 i = S 136 i := by simp only [F_keep, q_up_ne2 _ _ _ h, q_upf_ne, not_false_eq_true, Nat.reduceEqDiff]
theorem keep_51 : F_keep S 136 51 = S 136 51 + 8 := by simp only [F_keep, q_up_eq]
theorem keep_172 {i : Int} : F_keep S 172 i = if S 136 51 ≤ i ∧ i < S 136 51 + 8 then S 171 (i - S 136 51) else S 172 i := by simp only [F_keep, F_lay_ne, F_lay_f, F_lay_18, F_mk_ne, F_mk_f, F_mk_15, q_up_eq, q_up_ne, q_up_ne2, q_upf_ne, q_upf_eq, not_false_eq_true, Nat.reduceEqDiff, Int.reduceEq]
theorem keep_ne {c : Nat} {i : Int} (h1 : ¬ c = 136) (h2 : ¬ c = 172) : F_keep S c i = S c i := by
  simp only [F_keep, q_up_ne _ _ _ _ h1, q_upf_ne _ _ _ h2]
theorem NV_keep (h : NV S) : NV (F_keep S) := by
  intro i h1 h2
  rw [keep_ne (by decide) (by decide), keep_f (by decide)]
  exact h i h1 h2
theorem take_ne {c : Nat} {i t : Int} (h : ¬ c = 171) : F_take S t c i = S c i := by simp only [F_take, q_upf_ne _ _ _ h]
theorem take_171 {i t : Int} (h1 : 0 ≤ i) (h2 : i ≤ 7) : F_take S t 171 i = S 172 (t + i) := by
  simp only [F_take, q_upf_eq]
  rw [if_pos (by omega)]
theorem IV_take {t : Int} (h : IV S0 S) : IV S0 (F_take S t) := by
  refine ⟨?_, ?_⟩
  · intro a i hb
    rw [take_ne (by unfold bel at hb; omega)]
    exact h.1 a i hb
  · have := h.2
    unfold CU at this ⊢
    simp only [take_ne (show ¬ 136 = 171 by decide)]
    exact this
theorem IV_upf {i : Int} (h : IV S0 S) (hi : (i = 14 → S0 136 14 ≤ x) ∧ (i = 15 → S0 136 15 ≤ x) ∧ (i = 16 → S0 136 16 ≤ x) ∧ (i = 17 → S0 136 17 ≤ x) ∧ (i = 18 → S0 136 18 ≤ x) ∧ (i = 51 → S0 136 51 ≤ x)) (hb : (14 ≤ i ∧ i ≤ 18) ∨ i = 49 ∨ i = 51) : IV S0 (q_up S 136 i x) := by
  refine ⟨FB_up h.1 (by unfold bel; omega), ?_⟩
  have := h.2
  unfold CU at this ⊢
  simp only [q_up_app, true_and]
  grind
theorem IV_side1 {how w : Int} (h : IV S0 S) : IV S0 (F_side1 S s how w) := by
  unfold F_side1
  split
  · exact IV_lay (IV_mk h)
  · exact h
theorem IV_sides {how : Int} (h : IV S0 S) : IV S0 (F_sides S s how) := IV_side1 (IV_side1 h)
theorem side1_f {how w : Int} {i : Int} (h1 : ¬ i = 15) (h2 : ¬ i = 18) : F_side1 S s how w 136 i = S 136 i := by
  unfold F_side1
  split
  · rw [F_lay_f h2, F_mk_f h1]
  · rfl
theorem sides_f {how : Int} {i : Int} (h1 : ¬ i = 15) (h2 : ¬ i = 18) : F_sides S s how 136 i = S 136 i := by
  unfold F_sides
  rw [side1_f h1 h2, side1_f h1 h2]
theorem side1_15 {how w : Int} : S 136 15 ≤ F_side1 S s how w 136 15 ∧ F_side1 S s how w 136 15 ≤ S 136 15 + 1 ∧ S 136 18 ≤ F_side1 S s how w 136 18 ∧ F_side1 S s how w 136 18 ≤ S 136 18 + 1 := by
  unfold F_side1
  split
  · simp only [F_lay_ne, F_lay_f, F_lay_18, F_mk_ne, F_mk_f, F_mk_15, q_up_eq, q_up_ne, q_up_ne2, q_upf_ne, q_upf_eq, not_false_eq_true, Nat.reduceEqDiff, Int.reduceEq]; omega
  · omega
theorem sides_15 {how : Int} : S 136 15 ≤ F_sides S s how 136 15 ∧ F_sides S s how 136 15 ≤ S 136 15 + 2 ∧ S 136 18 ≤ F_sides S s how 136 18 ∧ F_sides S s how 136 18 ≤ S 136 18 + 2 := by
  unfold F_sides
  have h1 := side1_15 (S := S) (s := s) (how := how) (w := 0)
  have h2 := side1_15 (S := F_side1 S s how 0) (s := s) (how := how) (w := 1)
  omega
theorem NV_side1 {how w : Int} (h : NV S) (hv : 0 ≤ S 136 15) : NV (F_side1 S s how w) := by
  unfold F_side1
  split
  · exact NV_lay (NV_mk h hv)
  · exact h
theorem NV_sides {how : Int} (h : NV S) (hv : 0 ≤ S 136 15) : NV (F_sides S s how) := by
  have := (side1_15 (S := S) (s := s) (how := how) (w := 0)).1
  exact NV_side1 (NV_side1 h hv) (by omega)
theorem side1_ne {how w : Int} {c : Nat} {i : Int} (h : c = 172 ∨ (155 ≤ c ∧ c ≤ 167) ∨ (142 ≤ c ∧ c ≤ 146)) : F_side1 S s how w c i = S c i := by
  unfold F_side1
  split
  · rw [F_lay_ne (by omega) (by omega) (by omega) (by omega), F_mk_ne (by omega) (by omega) (by omega) (by omega) (by omega) (by omega) (by omega) (by omega) (by omega) (by omega)]
  · rfl
theorem sides_ne {how : Int} {c : Nat} {i : Int} (h : c = 172 ∨ (155 ≤ c ∧ c ≤ 167) ∨ (142 ≤ c ∧ c ≤ 146)) : F_sides S s how c i = S c i := by
  unfold F_sides
  rw [side1_ne h, side1_ne h]
theorem IV_beg {sort : Int} (h : IV S0 S) : IV S0 (F_beg S sort) := by
  have hc := h.2
  unfold CU at hc
  unfold F_beg
  refine IV_up (IV_up (IV_up (IV_up (IV_up (IV_upf h ?_ ?_) ?_ ?_) ?_ ?_) ?_ ?_) ?_ ?_) ?_ ?_ <;> first | decide | (unfold bel; omega) | omega
theorem beg_f {sort i : Int} (h : ¬ i = 14) : F_beg S sort 136 i = S 136 i := by
  simp only [F_beg, q_up_ne, q_up_ne2 _ _ _ h, not_false_eq_true, Nat.reduceEqDiff]
theorem beg_14 {sort : Int} : F_beg S sort 136 14 = S 136 14 + 1 := by
  simp only [F_beg, F_lay_ne, F_lay_f, F_lay_18, F_mk_ne, F_mk_f, F_mk_15, q_up_eq, q_up_ne, q_up_ne2, q_upf_ne, q_upf_eq, not_false_eq_true, Nat.reduceEqDiff, Int.reduceEq]
theorem NV_beg {sort : Int} (h : NV S) : NV (F_beg S sort) := by
  unfold F_beg
  refine NV_up (NV_up (NV_up (NV_up (NV_up (NV_upf h ?_) ?_ ?_) ?_ ?_) ?_ ?_) ?_ ?_) ?_ ?_ <;> decide
theorem IV_chk {r' v : Int} (h : IV S0 S) (hs : S0 136 14 ≤ s) (h0 : 0 ≤ S 136 16) : IV S0 (F_chk S s r' v) := by
  have hc := h.2
  unfold CU at hc
  unfold F_chk
  have h1 : IV S0 (q_up (q_up (q_up (q_up S 155 (S 136 16) s) 156 (S 136 16) r') 157 (S 136 16) (S 171 v)) 159 (S 136 16) (S 136 49)) := by
    refine IV_up (IV_up (IV_up (IV_up h ?_ ?_) ?_ ?_) ?_ ?_) ?_ ?_ <;> first | decide | (unfold bel; omega)
  refine IV_lay (IV_lay (IV_upf (IV_up (IV_up (IV_mk h1) (by decide) ?_) (by decide) ?_) ?_ ?_))
  · unfold bel; omega
  · unfold bel; omega
  · omega
  · omega
theorem NV_chk {r' v : Int} (h : NV S) (hv : 0 ≤ S 136 15) : NV (F_chk S s r' v) := by
  unfold F_chk
  refine NV_lay (NV_lay (NV_upf (NV_up (NV_up (NV_mk (NV_up (NV_up (NV_up (NV_up h ?_ ?_) ?_ ?_) ?_ ?_) ?_ ?_) ?_) ?_ ?_) ?_ ?_) ?_)) <;> first | decide | (simp only [F_lay_ne, F_lay_f, F_lay_18, F_mk_ne, F_mk_f, F_mk_15, q_up_eq, q_up_ne, q_up_ne2, q_upf_ne, q_upf_eq, not_false_eq_true, Nat.reduceEqDiff, Int.reduceEq]; exact hv)
end FRM
