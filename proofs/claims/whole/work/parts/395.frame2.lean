section FRN
variable {S0 S S' : St} {x y s i : Int} {a : Nat}
theorem nb14 (h : S0 136 14 ≤ i) (ha : (142 ≤ a ∧ a ≤ 146) ∨ a = 164) : ¬ bel S0 a i := by unfold bel; omega
theorem nb165 (h : 2 * S0 136 14 ≤ i) (ha : 165 ≤ a ∧ a ≤ 167) : ¬ bel S0 a i := by unfold bel; omega
theorem nb15 (h : S0 136 15 ≤ i) (ha : 147 ≤ a ∧ a ≤ 154) : ¬ bel S0 a i := by unfold bel; omega
theorem nb17 (h : S0 136 17 ≤ i) (ha : 160 ≤ a ∧ a ≤ 163) : ¬ bel S0 a i := by unfold bel; omega
theorem nb18 (h : S0 136 18 ≤ i) (ha : 168 ≤ a ∧ a ≤ 170) : ¬ bel S0 a i := by unfold bel; omega
/-- counts that are numbers -/
def P0 (S : St) : Prop := 0 ≤ S 136 14 ∧ 0 ≤ S 136 15 ∧ 0 ≤ S 136 16 ∧ 0 ≤ S 136 17 ∧ 0 ≤ S 136 18 ∧ 0 ≤ S 136 51
theorem P0_up (h : P0 S) (hI : CU S S') : P0 S' := by
  unfold P0 CU at *
  omega
/-- a good step: it leaves what is below the counts, the heap of rows set aside, the loop -/
def GF (F : St → St) : Prop := ∀ S, P0 S → IV S (F S) ∧ F S 136 51 = S 136 51 ∧ F S 136 49 = S 136 49 ∧ (NV S → NV (F S))
theorem GF_id : GF (fun S => S) := fun S _ => ⟨IV_refl, rfl, rfl, fun h => h⟩
theorem GF_comp {F G : St → St} (hF : GF F) (hG : GF G) : GF (fun S => G (F S)) := by
  intro S h
  obtain ⟨a1, a2, a3, a4⟩ := hF S h
  obtain ⟨b1, b2, b3, b4⟩ := hG (F S) (P0_up h a1.2)
  exact ⟨IV_trans a1 b1, b2.trans a2, b3.trans a3, fun h => b4 (a4 h)⟩
theorem GF_foldl {α : Type} {F : α → St → St} (hF : ∀ x, GF (F x)) : ∀ L : List α, GF (fun S => L.foldl (fun S x => F x S) S) := by
  intro L
  induction L with
  | nil => exact GF_id
  | cons x L ih => exact GF_comp (hF x) ih
theorem GF_b (x : SB) : GF (F_b x) := by
  intro S h
  unfold P0 at h
  unfold F_b
  dsimp only
  by_cases h0 : x.1.1 = 0
  · rw [if_pos h0]
    have i1 : IV S (F_lay (q_up (F_beg S 0) 143 (S 136 14) x.1.2.1) 0 (S 136 14) 0) := IV_lay (IV_up (IV_beg IV_refl) (by decide) (nb14 (Int.le_refl _) (by decide)))
    have n1 : NV S → NV (F_lay (q_up (F_beg S 0) 143 (S 136 14) x.1.2.1) 0 (S 136 14) 0) := fun hn => NV_lay (NV_up (NV_beg hn) (by decide) (by decide))
    have f1 : ∀ i, ¬ i = 14 → ¬ i = 18 → F_lay (q_up (F_beg S 0) 143 (S 136 14) x.1.2.1) 0 (S 136 14) 0 136 i = S 136 i := by
      intro i e1 e2
      rw [F_lay_f e2, q_up_ne _ _ _ _ (by decide), beg_f e1]
    generalize F_lay (q_up (F_beg S 0) 143 (S 136 14) x.1.2.1) 0 (S 136 14) 0 = S1 at *
    have i2 : IV S (if x.1.2.2.1 = 4 then F_chk S1 (S 136 14) x.2.2.1 x.2.2.2 else S1) ∧ (NV S → NV (if x.1.2.2.1 = 4 then F_chk S1 (S 136 14) x.2.2.1 x.2.2.2 else S1)) ∧ (if x.1.2.2.1 = 4 then F_chk S1 (S 136 14) x.2.2.1 x.2.2.2 else S1) 136 51 = S 136 51 ∧ (if x.1.2.2.1 = 4 then F_chk S1 (S 136 14) x.2.2.1 x.2.2.2 else S1) 136 49 = S 136 49 := by
      split
      · have hF := F_chk_15 (k := 0) (S := S1) (s := S 136 14) (r' := x.2.2.1) (v := x.2.2.2)
        exact ⟨IV_chk i1 (Int.le_refl _) (by rw [f1 16 (by decide) (by decide)]; omega), fun hn => NV_chk (n1 hn) (by rw [f1 15 (by decide) (by decide)]; omega), by rw [hF.2.2.2.2.2.1, f1 51 (by decide) (by decide)], by rw [hF.2.2.2.2.2.2.1, f1 49 (by decide) (by decide)]⟩
      · exact ⟨i1, n1, f1 51 (by decide) (by decide), f1 49 (by decide) (by decide)⟩
    generalize (if x.1.2.2.1 = 4 then F_chk S1 (S 136 14) x.2.2.1 x.2.2.2 else S1) = S2 at *
    obtain ⟨i2, n2, e51, e49⟩ := i2
    have hc := i2.2
    unfold CU at hc
    refine ⟨IV_lay (IV_up (IV_up (IV_up (IV_mk i2) (by decide) (nb15 hc.2.1 (by decide))) (by decide) (nb15 hc.2.1 (by decide))) (by decide) (nb15 hc.2.1 (by decide))), ?_, ?_, fun hn => NV_lay (NV_up (NV_up (NV_up (NV_mk (n2 hn) (by omega)) (by decide) (by decide)) (by decide) (by decide)) (by decide) (by decide))⟩
    · simp only [F_lay_ne, F_lay_f, F_lay_18, F_mk_ne, F_mk_f, F_mk_15, q_up_eq, q_up_ne, q_up_ne2, q_upf_ne, q_upf_eq, not_false_eq_true, Nat.reduceEqDiff, Int.reduceEq]; exact e51
    · simp only [F_lay_ne, F_lay_f, F_lay_18, F_mk_ne, F_mk_f, F_mk_15, q_up_eq, q_up_ne, q_up_ne2, q_upf_ne, q_upf_eq, not_false_eq_true, Nat.reduceEqDiff, Int.reduceEq]; exact e49
  · rw [if_neg h0]
    by_cases h1 : x.1.1 = 1
    · rw [if_pos h1]
      have i1 : IV S (F_lay (F_beg S 1) 0 (S 136 14) 0) := IV_lay (IV_beg IV_refl)
      have n1 : NV S → NV (F_lay (F_beg S 1) 0 (S 136 14) 0) := fun hn => NV_lay (NV_beg hn)
      have f1 : ∀ i, ¬ i = 14 → ¬ i = 18 → F_lay (F_beg S 1) 0 (S 136 14) 0 136 i = S 136 i := by
        intro i e1 e2
        rw [F_lay_f e2, beg_f e1]
      generalize F_lay (F_beg S 1) 0 (S 136 14) 0 = S1 at *
      have hF := F_chk_15 (k := 0) (S := S1) (s := S 136 14) (r' := x.2.2.1) (v := x.2.2.2)
      refine ⟨IV_lay (IV_up (IV_chk i1 (Int.le_refl _) (by rw [f1 16 (by decide) (by decide)]; omega)) (by decide) (nb14 (Int.le_refl _) (by decide))), ?_, ?_, fun hn => NV_lay (NV_up (NV_chk (n1 hn) (by rw [f1 15 (by decide) (by decide)]; omega)) (by decide) (by decide))⟩
      · simp only [F_lay_ne, F_lay_f, F_lay_18, F_mk_ne, F_mk_f, F_mk_15, q_up_eq, q_up_ne, q_up_ne2, q_upf_ne, q_upf_eq, not_false_eq_true, Nat.reduceEqDiff, Int.reduceEq]; rw [hF.2.2.2.2.2.1, f1 51 (by decide) (by decide)]
      · simp only [F_lay_ne, F_lay_f, F_lay_18, F_mk_ne, F_mk_f, F_mk_15, q_up_eq, q_up_ne, q_up_ne2, q_upf_ne, q_upf_eq, not_false_eq_true, Nat.reduceEqDiff, Int.reduceEq]; rw [hF.2.2.2.2.2.2.1, f1 49 (by decide) (by decide)]
    · rw [if_neg h1]
      refine ⟨IV_lay (IV_lay (IV_up (IV_beg IV_refl) (by decide) (nb14 (Int.le_refl _) (by decide)))), ?_, ?_, fun hn => NV_lay (NV_lay (NV_up (NV_beg hn) (by decide) (by decide)))⟩
      · simp only [F_lay_ne, F_lay_f, F_lay_18, F_mk_ne, F_mk_f, F_mk_15, q_up_eq, q_up_ne, q_up_ne2, q_upf_ne, q_upf_eq, not_false_eq_true, Nat.reduceEqDiff, Int.reduceEq]; rw [beg_f (by decide)]
      · simp only [F_lay_ne, F_lay_f, F_lay_18, F_mk_ne, F_mk_f, F_mk_15, q_up_eq, q_up_ne, q_up_ne2, q_upf_ne, q_upf_eq, not_false_eq_true, Nat.reduceEqDiff, Int.reduceEq]; rw [beg_f (by decide)]
theorem IV_test {t : TT} (h : IV S0 S) (hs : S0 136 14 ≤ s) : IV S0 (F_test S s t) := by
  unfold F_test
  exact IV_up (IV_up (IV_up (IV_up (IV_up h (by decide) (nb165 (by omega) (by decide))) (by decide) (nb165 (by omega) (by decide))) (by decide) (nb14 hs (by decide))) (by decide) (nb165 (by omega) (by decide))) (by decide) (nb165 (by omega) (by decide))
theorem test_ne {t : TT} {c : Nat} (h : ¬ (164 ≤ c ∧ c ≤ 166)) : F_test S s t c i = S c i := by
  simp only [F_test, q_up_ne _ _ _ _ (show ¬ c = 164 by omega), q_up_ne _ _ _ _ (show ¬ c = 165 by omega), q_up_ne _ _ _ _ (show ¬ c = 166 by omega)]
theorem look_ne {c : Nat} (h : ¬ c = 167) : F_look S s c i = S c i := by
  simp only [F_look, F_look1, q_up_ne _ _ _ _ h]
theorem IV_look (h : IV S0 S) (hs : S0 136 14 ≤ s) : IV S0 (F_look S s) := by
  unfold F_look F_look1
  exact IV_up (IV_up h (by decide) (nb165 (by omega) (by decide))) (by decide) (nb165 (by omega) (by decide))
theorem NV_test {t : TT} (h : NV S) : NV (F_test S s t) := by
  intro i h1 h2
  rw [test_ne (by decide), test_ne (by decide)]
  exact h i h1 h2
theorem NV_look (h : NV S) : NV (F_look S s) := by
  intro i h1 h2
  rw [look_ne (by decide), look_ne (by decide)]
  exact h i h1 h2
/-- a step of versions that may be made or not -/
theorem IV_mkl {how fr too op : Int} (h : IV S0 S) : IV S0 (F_lay (F_mk S x how s fr too) op (S 136 15) 0) := IV_lay (IV_mk h)
theorem join_ok {set one other : Int} : ∀ (k : Nat) (x : Int) (S : St), IV S0 S → 0 ≤ S 136 15 → IV S0 (F_join set one other s k x S) ∧ (NV S → NV (F_join set one other s k x S)) ∧ (∀ i, ¬ i = 15 → ¬ i = 18 → F_join set one other s k x S 136 i = S 136 i) ∧ S 136 15 ≤ F_join set one other s k x S 136 15 ∧ F_join set one other s k x S 136 15 ≤ S 136 15 + k ∧ S 136 18 ≤ F_join set one other s k x S 136 18 ∧ F_join set one other s k x S 136 18 ≤ S 136 18 + k ∧ (∀ c i, c = 172 ∨ (155 ≤ c ∧ c ≤ 167) ∨ (142 ≤ c ∧ c ≤ 146) → F_join set one other s k x S c i = S c i) := by
  intro k
  induction k with
  | zero => intro x S h h0; exact ⟨h, fun h => h, fun _ _ _ => rfl, by simp [F_join], by simp [F_join], by simp [F_join], by simp [F_join], fun _ _ _ => rfl⟩
  | succ k ih =>
    intro x S h h0
    rw [F_join]
    by_cases e : q_bit set x = 0
    · rw [if_pos e]
      obtain ⟨a1, a2, a3, a4, a5, a6, a7, a8⟩ := ih (x + 1) S h h0
      exact ⟨a1, a2, a3, a4, by omega, a6, by omega, a8⟩
    · rw [if_neg e]
      obtain ⟨a1, a2, a3, a4, a5, a6, a7, a8⟩ := ih (x + 1) (F_lay (F_mk S x 5 s (S 172 (one + x)) (S 172 (other + x))) 6 (S 136 15) 0) (IV_mkl h) (by simp only [F_lay_ne, F_lay_f, F_lay_18, F_mk_ne, F_mk_f, F_mk_15, q_up_eq, q_up_ne, q_up_ne2, q_upf_ne, q_upf_eq, not_false_eq_true, Nat.reduceEqDiff, Int.reduceEq]; omega)
      simp only [F_lay_ne, F_lay_f, F_lay_18, F_mk_ne, F_mk_f, F_mk_15, q_up_eq, q_up_ne, q_up_ne2, q_upf_ne, q_upf_eq, not_false_eq_true, Nat.reduceEqDiff, Int.reduceEq] at a4 a5 a6 a7
      refine ⟨a1, fun hn => a2 (NV_lay (NV_mk hn h0)), fun i h1 h2 => ?_, by omega, by omega, by omega, by omega, fun c i hc => ?_⟩
      · rw [a3 i h1 h2, F_lay_f h2, F_mk_f h1]
      · rw [a8 c i hc, F_lay_ne (by omega) (by omega) (by omega) (by omega), F_mk_ne (by omega) (by omega) (by omega) (by omega) (by omega) (by omega) (by omega) (by omega) (by omega) (by omega)]
theorem round_ok {set : Int} : ∀ (k : Nat) (x : Int) (S : St), IV S0 S → 0 ≤ S 136 15 → IV S0 (F_round set s k x S) ∧ (NV S → NV (F_round set s k x S)) ∧ (∀ i, ¬ i = 15 → ¬ i = 18 → F_round set s k x S 136 i = S 136 i) ∧ S 136 15 ≤ F_round set s k x S 136 15 ∧ F_round set s k x S 136 15 ≤ S 136 15 + k ∧ S 136 18 ≤ F_round set s k x S 136 18 ∧ F_round set s k x S 136 18 ≤ S 136 18 + k ∧ (∀ c i, c = 172 ∨ (155 ≤ c ∧ c ≤ 167) ∨ (142 ≤ c ∧ c ≤ 146) → F_round set s k x S c i = S c i) := by
  intro k
  induction k with
  | zero => intro x S h h0; exact ⟨h, fun h => h, fun _ _ _ => rfl, by simp [F_round], by simp [F_round], by simp [F_round], by simp [F_round], fun _ _ _ => rfl⟩
  | succ k ih =>
    intro x S h h0
    rw [F_round]
    by_cases e : q_bit set x = 0
    · rw [if_pos e]
      obtain ⟨a1, a2, a3, a4, a5, a6, a7, a8⟩ := ih (x + 1) S h h0
      exact ⟨a1, a2, a3, a4, by omega, a6, by omega, a8⟩
    · rw [if_neg e]
      obtain ⟨a1, a2, a3, a4, a5, a6, a7, a8⟩ := ih (x + 1) (F_lay (F_mk S x 6 s (S 171 x) (-1)) 6 (S 136 15) 0) (IV_mkl h) (by simp only [F_lay_ne, F_lay_f, F_lay_18, F_mk_ne, F_mk_f, F_mk_15, q_up_eq, q_up_ne, q_up_ne2, q_upf_ne, q_upf_eq, not_false_eq_true, Nat.reduceEqDiff, Int.reduceEq]; omega)
      simp only [F_lay_ne, F_lay_f, F_lay_18, F_mk_ne, F_mk_f, F_mk_15, q_up_eq, q_up_ne, q_up_ne2, q_upf_ne, q_upf_eq, not_false_eq_true, Nat.reduceEqDiff, Int.reduceEq] at a4 a5 a6 a7
      refine ⟨a1, fun hn => a2 (NV_lay (NV_mk hn h0)), fun i h1 h2 => ?_, by omega, by omega, by omega, by omega, fun c i hc => ?_⟩
      · rw [a3 i h1 h2, F_lay_f h2, F_mk_f h1]
      · rw [a8 c i hc, F_lay_ne (by omega) (by omega) (by omega) (by omega), F_mk_ne (by omega) (by omega) (by omega) (by omega) (by omega) (by omega) (by omega) (by omega) (by omega) (by omega)]
theorem too_ok : ∀ (k : Nat) (v : Int) (S : St), IV S0 S → S0 136 15 ≤ v → IV S0 (F_too k v S) ∧ (∀ c i, ¬ c = 151 → F_too k v S c i = S c i) := by
  intro k
  induction k with
  | zero => intro v S h _; exact ⟨h, fun _ _ _ => rfl⟩
  | succ k ih =>
    intro v S h hv
    rw [F_too]
    obtain ⟨a1, a2⟩ := ih (v + 1) (q_up S 151 v (S 171 (S 147 v))) (IV_up h (by decide) (nb15 hv (by decide))) (by omega)
    exact ⟨a1, fun c i hc => by rw [a2 c i hc, q_up_ne _ _ _ _ hc]⟩
end FRN
