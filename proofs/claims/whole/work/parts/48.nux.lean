section NUV
variable {pl : Int → Int}
theorem ZV_b {y : SB} (h : VALb pl y) (ar s k l : Int) : ∀ x ∈ (s_b y ar s k l).1, x.1.1 = 0 → ¬ x.1.2.1 = -1 := by
  intro x hx _
  unfold s_b at hx
  rw [List.mem_singleton] at hx
  subst hx
  have := h.1
  dsimp only
  omega
theorem ZV_L_of (d : Nat) (h : ∀ x, VALS pl d x → ∀ ar s k l, ∀ y ∈ (s_S d x ar s k l).1, y.1.1 = 0 → ¬ y.1.2.1 = -1) : ∀ L : List (ST d), VALl (VALS pl d) L → ∀ ar s k l, ∀ y ∈ (s_L d L ar s k l).1, y.1.1 = 0 → ¬ y.1.2.1 = -1 := by
  intro L
  induction L with
  | nil => intro _ ar s k l y hy; exact absurd hy (List.not_mem_nil)
  | cons x L ih =>
    intro hv ar s k l y hy
    obtain ⟨v1, v2⟩ := hv
    unfold s_L at hy
    rw [List.map_cons, s_seq] at hy
    dsimp only at hy
    rcases List.mem_append.mp hy with hy | hy
    · exact h x v1 _ _ _ _ y hy
    · exact ih v2 _ _ _ _ y hy
theorem ZV_S : ∀ (d : Nat) (x : ST d), VALS pl d x → ∀ ar s k l, ∀ y ∈ (s_S d x ar s k l).1, y.1.1 = 0 → ¬ y.1.2.1 = -1 := by
  intro d
  induction d with
  | zero => intro x hx ar s k l; exact ZV_b (pl := pl) (y := x) hx ar s k l
  | succ d ih =>
    intro x hx ar s k l
    rcases x with x | ⟨⟨w, t⟩, A, B⟩
    · rw [s_S_b]; exact ZV_b (pl := pl) hx ar s k l
    · obtain ⟨-, hA, hB⟩ := hx
      have fA := ZV_L_of d ih A hA
      have fB := ZV_L_of d ih B hB
      cases w with
      | true =>
        rw [s_S_wh]
        intro y hy h0
        unfold s_wh at hy
        rcases List.mem_cons.mp hy with rfl | hy
        · dsimp only at h0; omega
        · exact fA _ _ _ _ y hy h0
      | false =>
        rw [s_S_if]
        intro y hy h0
        unfold s_if at hy
        rcases List.mem_cons.mp hy with rfl | hy
        · dsimp only at h0; omega
        · rcases List.mem_append.mp hy with hy | hy
          · exact fA _ _ _ _ y hy h0
          · exact fB _ _ _ _ y hy h0
theorem ZV_L (d : Nat) (L : List (ST d)) (h : VALl (VALS pl d) L) : ∀ ar s k l, ∀ y ∈ (s_L d L ar s k l).1, y.1.1 = 0 → ¬ y.1.2.1 = -1 := ZV_L_of d (ZV_S d) L h
end NUV
