section NUT
variable {r r' : St} {set s : Int} {now fin : Int → Int}
theorem ro_fol {x f t : Int} : ¬ v_fol (v_mk x 6 s f t) := by
  unfold v_fol v_mk
  dsimp only
  omega
/-- the rounds, with their ends told -/
theorem round_finC : ∀ (n : Nat) (x v : Int), TAB (VRokC r) v (v_round set now (fun _ => -1) s n x) → (∀ i, v ≤ i → i < v + (v_many set n x : Nat) → (∀ a, 10 ≤ a ∧ a ≤ 26 → ¬ a = 14 → r' a i = r a i) ∧ r' 14 i = fin (r 10 i)) → TAB (VRokC r') v (v_round set now fin s n x) := by
  intro n
  induction n with
  | zero => intro x v _ _; trivial
  | succ n ih =>
    intro x v ht hf
    rw [v_round] at ht ⊢
    rw [v_many] at hf
    by_cases g : q_bit set x = 0
    · rw [if_pos g] at ht hf ⊢
      exact ih (x + 1) v ht hf
    · rw [if_neg g] at ht hf ⊢
      obtain ⟨h1, h2⟩ := ht
      refine ⟨?_, ih (x + 1) (v + 1) h2 (fun i i0 i1 => hf i (by omega) (by omega))⟩
      obtain ⟨f1, f2⟩ := hf v (Int.le_refl _) (by omega)
      unfold VRokC at h1 ⊢
      rw [if_neg ro_fol, if_neg ro_fol] at h1 ⊢
      refine ⟨?_, fun h => absurd h ro_fol⟩
      have q := h1.1
      unfold v_mk RAW at q ⊢
      dsimp only at q ⊢
      obtain ⟨⟨q1, q2, q3, q4, q5, q6⟩, q7, q8, q9, q10⟩ := q
      rw [q1] at f2
      rw [f1 10 (by decide) (by decide), f1 11 (by decide) (by decide), f1 12 (by decide) (by decide), f1 13 (by decide) (by decide), f2, f1 15 (by decide) (by decide), f1 16 (by decide) (by decide), f1 17 (by decide) (by decide), f1 19 (by decide) (by decide), f1 20 (by decide) (by decide), f1 22 (by decide) (by decide), f1 23 (by decide) (by decide), f1 25 (by decide) (by decide), f1 26 (by decide) (by decide)]
      exact ⟨⟨q1, q2, q3, q4, rfl, q6⟩, q7, q8, q9, q10⟩
theorem round_var {f : Int → Int} : ∀ (n : Nat) (x v : Int), 0 ≤ x → x + n ≤ 8 → TAB (VRokC r) v (v_round set now f s n x) → ∀ i, v ≤ i → i < v + (v_many set n x : Nat) → 0 ≤ r 10 i ∧ r 10 i < 8 := by
  intro n
  induction n with
  | zero => intro x v _ _ _ i i0 i1; unfold v_many at i1; omega
  | succ n ih =>
    intro x v x0 x1 ht i i0 i1
    rw [v_round] at ht
    rw [v_many] at i1
    by_cases g : q_bit set x = 0
    · rw [if_pos g] at ht i1
      exact ih (x + 1) v (by omega) (by omega) ht i i0 i1
    · rw [if_neg g] at ht i1
      obtain ⟨h1, h2⟩ := ht
      by_cases hi : i = v
      · have q : r 10 v = x := h1.1.1.1
        rw [hi, q]
        omega
      · exact ih (x + 1) (v + 1) (by omega) (by omega) h2 i (by omega) (by omega)
theorem VRokC_of' {y : VR} {i : Int} (h : VRokC r i y) (he : ∀ a, 10 ≤ a ∧ a ≤ 26 → r' a i = r a i) (h2 : ∀ a j, 16 ≤ a ∧ a ≤ 17 → j < i → r' a j = r a j) : VRokC r' i y := by
  unfold VRokC at *
  obtain ⟨h1, h3⟩ := h
  refine ⟨?_, h3⟩
  by_cases hf : v_fol y
  · obtain ⟨f1, f2⟩ := h3 hf
    rw [if_pos hf, if_pos hf] at h1 ⊢
    rw [h2 16 _ (by decide) f2, h2 17 _ (by decide) f2]
    exact RAW_of h1 he
  · rw [if_neg hf, if_neg hf] at h1 ⊢
    exact RAW_of h1 he
theorem TABv_up' {L : List VR} {v : Int} (h : TAB (VRokC r) v L) (he : ∀ a j, 10 ≤ a ∧ a ≤ 26 → ¬ (a = 14 ∧ j < v) → j < v + L.length → r' a j = r a j) : TAB (VRokC r') v L := TAB_mono _ _ (fun j y j1 j2 hy => VRokC_of' hy (fun a ha => he a j ha (by omega) (by omega)) (fun a i ha hi => he a i (by omega) (by omega) (by omega))) h
end NUT
