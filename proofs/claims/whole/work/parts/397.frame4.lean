section FRP
theorem F_S_0 (x : SB) (S : St) : F_S 0 x S = F_b x S := by
  unfold F_S
  rfl
theorem F_S_b (d : Nat) (x : SB) (S : St) : F_S (d + 1) (Sum.inl x) S = F_b x S := by
  unfold F_S
  rfl
theorem F_S_if (d : Nat) (t : TT) (A B : List (ST d)) (S : St) : F_S (d + 1) (Sum.inr ((false, t), A, B)) S = F_if t (F_L d A) (F_L d B) S := by
  rw [F_S]
  simp only [Bool.false_eq_true, if_false]
  rfl
theorem F_S_wh (d : Nat) (t : TT) (A B : List (ST d)) (S : St) : F_S (d + 1) (Sum.inr ((true, t), A, B)) S = F_wh t (F_L d A) S := by
  rw [F_S]
  simp only [if_true]
  rfl
theorem GF_ext {F G : St → St} (h : ∀ S, F S = G S) (hG : GF G) : GF F := by
  have : F = G := funext h
  rw [this]
  exact hG
theorem GF_S : ∀ (d : Nat) (x : ST d), GF (F_S d x) := by
  intro d
  induction d with
  | zero => intro x; exact GF_ext (F_S_0 x) (GF_b x)
  | succ d ih =>
    intro x
    rcases x with x | ⟨⟨w, t⟩, A, B⟩
    · exact GF_ext (F_S_b d x) (GF_b x)
    · have hL : ∀ L, GF (F_L d L) := fun L => GF_foldl (F := F_S d) ih L
      cases w with
      | true => exact GF_ext (F_S_wh d t A B) (GF_wh (hL A))
      | false => exact GF_ext (F_S_if d t A B) (GF_if (hL A) (hL B))
theorem GF_L (d : Nat) (L : List (ST d)) : GF (F_L d L) := GF_foldl (F := F_S d) (GF_S d) L
end FRP
