/-! lists of versions in the reference: all statements -/
section NKJ
variable {pl : Int → Int}
theorem FN_ext {F G : St → St} {p q : Int → Int → Int → Int → SO} {g h : NF} (hF : ∀ S, F S = G S) (hp : ∀ ar s k l, p ar s k l = q ar s k l) (hg : g = h) (H : FN G q h) : FN F p g := by
  have e1 : F = G := funext hF
  have e2 : p = q := by funext a b c d; exact hp a b c d
  subst e1 e2 hg
  exact H
theorem FN_nil : FN (fun S => S) (fun _ _ _ _ => so0) (fun _ _ _ _ _ _ now => (now, [], [], [], [], [])) := by
  intro S _ _
  exact NOK_none IV_refl (fun _ _ => rfl)
theorem FN_cons {F1 F2 : St → St} {p1 p2 : Int → Int → Int → Int → SO} {g1 g2 : NF} (h1 : FN F1 p1 g1) (gf : GF F1) (po : PO g1) (h2 : FN F2 p2 g2) :
    FN (fun S => F2 (F1 S)) (fun ar s k l => so_app (p1 ar s k l) (p2 ar (s + (p1 ar s k l).1.length) (k + (p1 ar s k l).2.1.length) (l + (p1 ar s k l).2.2.length)))
      (fun s k l v c ar now => o_app (g1 s k l v c ar now) (g2 (s + (g1 s k l v c ar now).2.2.1.length) (k + (g1 s k l v c ar now).2.2.2.1.length) (l + (g1 s k l v c ar now).2.2.2.2.1.length) (v + (g1 s k l v c ar now).2.1.length) (c + (g1 s k l v c ar now).2.2.2.2.2.length) ar (g1 s k l v c ar now).1)) := by
  intro S hP hW
  have n1 := h1 S hP hW
  obtain ⟨i1, -, i49, -⟩ := gf S hP
  have o1 := (po (S 136 14) (S 136 16) (S 136 17) (S 136 15) (S 136 18) (S 136 49) (nz (S 171)) nz_nz).1
  have w1 := NW_of n1 o1 hW (by unfold P0 at hP; omega)
  have n2 := h2 (F1 S) (P0_up hP i1.2) w1
  dsimp only
  generalize g1 (S 136 14) (S 136 16) (S 136 17) (S 136 15) (S 136 18) (S 136 49) (nz (S 171)) = o at *
  generalize p1 (S 136 49) (S 136 14) (S 136 16) (S 136 17) = p at *
  obtain ⟨c1, c2, c3, c4, c5, c6, c7, c8⟩ := n1.2.1
  rw [c1, c3, c5, c7, c8, i49, n1.2.2.1] at n2
  rw [c2, c4, c6]
  exact NOK_app n1 n2
theorem FN_L_of (d : Nat) (h : ∀ x, VALS pl d x → FN (F_S d x) (s_S d x) (n_S d x)) : ∀ L : List (ST d), VALl (VALS pl d) L → FN (F_L d L) (s_L d L) (n_LL d L) := by
  intro L
  induction L with
  | nil => intro _; exact FN_ext (fun _ => rfl) (fun _ _ _ _ => rfl) rfl FN_nil
  | cons x L ih =>
    intro hv
    obtain ⟨v1, v2⟩ := hv
    have := FN_cons (h x v1) (GF_S d x) (PO_S d x) (ih v2)
    exact FN_ext (G := fun S => F_L d L (F_S d x S)) (fun _ => rfl) (fun _ _ _ _ => rfl) rfl this
theorem FN_S : ∀ (d : Nat) (x : ST d), VALS pl d x → FN (F_S d x) (s_S d x) (n_S d x) := by
  intro d
  induction d with
  | zero => intro x hx; exact FN_ext (F_S_0 x) (s_S_0 x) (n_S_0 x) (FN_b (pl := pl) hx)
  | succ d ih =>
    intro x hx
    rcases x with x | ⟨⟨w, t⟩, A, B⟩
    · exact FN_ext (F_S_b d x) (s_S_b d x) (n_S_b d x) (FN_b (pl := pl) hx)
    · obtain ⟨ht, hA, hB⟩ := hx
      have fA := FN_L_of d ih A hA
      have fB := FN_L_of d ih B hB
      cases w with
      | true => exact FN_ext (F_S_wh d t A B) (s_S_wh d t A B) (n_S_wh d t A B) (FN_wh (pl := pl) fA (GF_L d A) ht (fun ar s k l => ks_sL A ar s k l))
      | false => exact FN_ext (F_S_if d t A B) (s_S_if d t A B) (n_S_if d t A B) (FN_if (pl := pl) fA fB (GF_L d A) (GF_L d B) ht (fun ar s k l => ks_sL A ar s k l) (fun ar s k l => ks_sL B ar s k l))
theorem FN_L (d : Nat) (L : List (ST d)) (h : VALl (VALS pl d) L) : FN (F_L d L) (s_L d L) (n_LL d L) := FN_L_of d (FN_S d) L h
/-- at the start: eight versions -/
def v_at : Nat → Int → List VR
  | 0, _ => []
  | k + 1, x => ((x, 0, -1, -1, -1), (0, -1, 0), (0, t0, t0)) :: v_at k (x + 1)
def id8 : Int → Int := nz (fun i => i)
/-- the versions of a whole program, and all that goes with them -/
def n_P (L : List (ST 5)) : NO := n_LL 5 L 0 0 0 8 0 (-1) id8
def s_P (L : List (ST 5)) : SO := s_L 5 L (-1) 0 0 0
theorem ref_lists {S : St} (L : List (ST 5)) (h : VALl (VALS pl 5) L) : NOK (F_ini S) (F_L 5 L (F_ini S)) (s_P L) (n_P L) ∧ NW (F_ini S) := by
  obtain ⟨a1, a2, a3, a4, a5, a6, a7, a8, a9⟩ := ini_ok (S := S)
  have hw : NW (F_ini S) := by
    intro i i0 i1
    rw [a8 i i0 (by omega), a2, (a9 i i0 (by omega)).1]
    exact ⟨i0, by omega, rfl⟩
  have hz : nz (F_ini S 171) = id8 := by
    funext j
    unfold id8 nz
    by_cases hj : 0 ≤ j ∧ j ≤ 7
    · rw [if_pos hj, if_pos hj, a8 j hj.1 (by omega)]
    · rw [if_neg hj, if_neg hj]
  have := FN_L 5 L h (F_ini S) (by unfold P0; omega) hw
  rw [a1, a2, a3, a4, a5, a6, hz] at this
  exact ⟨this, hw⟩
end NKJ
