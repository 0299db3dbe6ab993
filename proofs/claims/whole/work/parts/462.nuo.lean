/-! lengths; the walk's contract -/
def LN (p : Int → Int → Int → Int → SO) (g : NF) : Prop := ∀ ar s k l v c now, (g s k l v c ar now).2.2.1.length = (p ar s k l).1.length ∧ (g s k l v c ar now).2.2.2.1.length = (p ar s k l).2.1.length ∧ (g s k l v c ar now).2.2.2.2.1.length = (p ar s k l).2.2.length
def CWK (c : Nat) (C : St) (D : Nat) (p : Int → Int → Int → Int → SO) (g : NF) (dep : Nat) : Prop := ∀ (sc : Nat × (Nat → Int32)) (bb : Bool) (Q : QP) (r : St) (v s k l ar cc : Int), INN r v → 0 ≤ s → s + (p ar s k l).1.length ≤ 40 → 0 ≤ k → k + (p ar s k l).2.1.length ≤ 40 → v + (g s k l v cc ar (nz (r 40))).2.1.length ≤ 240 → TAB (SRok C) s (p ar s k l).1 → TAB (KRok C) k (p ar s k l).2.1 → (∀ r', VOC r r' v s k dep (g s k l v cc ar (nz (r 40))) → Q (.inl none) bb (NS c C r')) → qx sc D 28 0 [vr 39, vi s, vi (s + (p ar s k l).1.length), vi dep, vn] [] (0, 0) bb (NS c C r) Q
section NUM
variable {sc : Nat × (Nat → Int32)} {D : Nat} {bb : Bool} {Q : QP} {c : Nat} {C r r' : St} {v s k l x n ar cc : Int} {dep : Nat} {pl : Int → Int} {t : TT} {l3 l4 l5 : V2}
theorem LN_b {y : SB} (hx : VALb pl y) : LN (s_b y) (n_b y) := by
  intro ar s k l v c now
  obtain ⟨-, hx⟩ := hx
  have e0 : p_no.1 = 0 := rfl
  unfold s_b n_b
  dsimp only
  rcases hx with ⟨g, hx⟩ | ⟨g, hx⟩ | ⟨g, hx⟩
  · rw [if_pos g]
    by_cases g4 : y.1.2.2.1 = 4
    · have h1 : y.2.1 = 1 := by omega
      rw [if_pos g4]
      refine ⟨rfl, ?_, rfl⟩
      rw [if_pos h1]
      rfl
    · have h4 : y.2 = p_no := by
        rcases hx with h | h | h | h | h
        · exact h.2.2.2.2
        · exact h.2.2.2.2.2
        · exact h.2.2.2.2.2
        · exact absurd h.1 g4
        · exact h.2.2.2.2
      have h1 : ¬ y.2.1 = 1 := by rw [h4]; decide
      rw [if_neg g4]
      refine ⟨rfl, ?_, rfl⟩
      rw [if_neg h1]
  · rw [if_neg (by omega), if_pos g]
    refine ⟨rfl, ?_, rfl⟩
    rw [if_pos hx.2.2.2.2.2.1]
    rfl
  · have h1 : ¬ y.2.1 = 1 := by rw [hx.2.2.2]; decide
    rw [if_neg (by omega), if_neg (by omega)]
    refine ⟨rfl, ?_, rfl⟩
    rw [if_neg h1]
theorem LN_if {set : Int} {pA pB : Int → Int → Int → Int → SO} {gA gB : NF} (hA : LN pA gA) (hB : LN pB gB) : LN (fun ar => s_if t (pA ar) (pB ar) ar) (n_if t set gA gB) := by
  intro ar s k l v c now
  obtain ⟨a1, a2, a3⟩ := hA ar (s + 1) k l (v + ((v_sd t (v_sv now t.2.1) (v_sv now t.2.2) 3 s).length : Nat)) (c + 2 + ((v_sd t (v_sv now t.2.1) (v_sv now t.2.2) 3 s).length : Nat)) (v_sn t v now)
  have en := n_if_eq (t := t) (set := set) (s := s) (k := k) (l := l) (v := v) (c := c) (ar := ar) (now := now) (gA := gA) (gB := gB) rfl rfl rfl rfl
  have es := s_if_eq (t := t) (s := s) (k := k) (l := l) (ar := ar) (pA := pA ar) (pB := pB ar) rfl rfl
  dsimp only
  rw [en, es]
  dsimp only
  rw [List.length_cons, List.length_cons, List.length_append, List.length_append, List.length_append, List.length_append, List.length_append, List.length_append, a1, a2, a3]
  obtain ⟨b1, b2, b3⟩ := hB ar (s + 1 + ((pA ar (s + 1) k l).1.length : Nat)) (k + ((pA ar (s + 1) k l).2.1.length : Nat)) (l + ((pA ar (s + 1) k l).2.2.length : Nat)) (v + ((v_sd t (v_sv now t.2.1) (v_sv now t.2.2) 3 s).length : Nat) + ((gA (s + 1) k l (v + ((v_sd t (v_sv now t.2.1) (v_sv now t.2.2) 3 s).length : Nat)) (c + 2 + ((v_sd t (v_sv now t.2.1) (v_sv now t.2.2) 3 s).length : Nat)) ar (v_sn t v now)).2.1.length : Nat) + ((v_sd t (v_sv now t.2.1) (v_sv now t.2.2) 4 s).length : Nat)) (c + 2 + ((v_sd t (v_sv now t.2.1) (v_sv now t.2.2) 3 s).length : Nat) + ((gA (s + 1) k l (v + ((v_sd t (v_sv now t.2.1) (v_sv now t.2.2) 3 s).length : Nat)) (c + 2 + ((v_sd t (v_sv now t.2.1) (v_sv now t.2.2) 3 s).length : Nat)) ar (v_sn t v now)).2.2.2.2.2.length : Nat) + 1 + ((v_sd t (v_sv now t.2.1) (v_sv now t.2.2) 4 s).length : Nat)) (v_sn t (v + ((v_sd t (v_sv now t.2.1) (v_sv now t.2.2) 3 s).length : Nat) + ((gA (s + 1) k l (v + ((v_sd t (v_sv now t.2.1) (v_sv now t.2.2) 3 s).length : Nat)) (c + 2 + ((v_sd t (v_sv now t.2.1) (v_sv now t.2.2) 3 s).length : Nat)) ar (v_sn t v now)).2.1.length : Nat)) now)
  rw [b1, b2, b3]
  exact ⟨rfl, rfl, rfl⟩
theorem LN_wh {set : Int} {pA : Int → Int → Int → Int → SO} {gA : NF} (hA : LN pA gA) : LN (fun ar s k l => s_wh t (pA l) ar s k l) (n_wh t set gA) := by
  intro ar s k l v c now
  have en := n_wh_eq (t := t) (set := set) (s := s) (k := k) (l := l) (v := v) (c := c) (ar := ar) (now := now) (gA := gA) rfl rfl rfl rfl
  have es := s_wh_eq (t := t) (s := s) (k := k) (l := l) (ar := ar) (pA := pA l) rfl
  dsimp only
  rw [en, es]
  dsimp only
  rw [List.length_cons, List.length_cons, List.length_cons, List.length_cons, (hA _ _ _ _ _ _ _).1, (hA _ _ _ _ _ _ _).2.1, (hA _ _ _ _ _ _ _).2.2]
  exact ⟨rfl, rfl, rfl⟩
theorem LN_L_of (d : Nat) (h : ∀ x, VALS pl d x → LN (s_S d x) (n_S d x)) : ∀ L : List (ST d), VALl (VALS pl d) L → LN (s_L d L) (n_LL d L) := by
  intro L
  induction L with
  | nil => intro _ ar s k l v c now; exact ⟨rfl, rfl, rfl⟩
  | cons y L ih =>
    intro hv ar s k l v c now
    obtain ⟨v1, v2⟩ := hv
    obtain ⟨a1, a2, a3⟩ := h y v1 ar s k l v c now
    unfold s_L n_LL
    rw [List.map_cons, List.map_cons, s_seq, n_seq]
    dsimp only
    rw [List.length_append, List.length_append, List.length_append, List.length_append, List.length_append, List.length_append, a1, a2, a3]
    have := ih v2 ar (s + ((s_S d y ar s k l).1.length : Nat)) (k + ((s_S d y ar s k l).2.1.length : Nat)) (l + ((s_S d y ar s k l).2.2.length : Nat)) (v + ((n_S d y s k l v c ar now).2.1.length : Nat)) (c + ((n_S d y s k l v c ar now).2.2.2.2.2.length : Nat)) (n_S d y s k l v c ar now).1
    unfold s_L n_LL at this
    obtain ⟨b1, b2, b3⟩ := this
    rw [b1, b2, b3]
    exact ⟨rfl, rfl, rfl⟩
theorem LN_S : ∀ (d : Nat) (x : ST d), VALS pl d x → LN (s_S d x) (n_S d x) := by
  intro d
  induction d with
  | zero =>
    intro x hx
    rw [show s_S 0 x = s_b x from by funext a b c e; exact s_S_0 x a b c e, n_S_0 x]
    exact LN_b (pl := pl) hx
  | succ d ih =>
    intro x hx
    rcases x with x | ⟨⟨w, t⟩, A, B⟩
    · rw [show s_S (d + 1) (Sum.inl x) = s_b x from by funext a b c e; exact s_S_b d x a b c e, n_S_b d x]
      exact LN_b (pl := pl) hx
    · obtain ⟨ht, hA, hB⟩ := hx
      have fA := LN_L_of d ih A hA
      have fB := LN_L_of d ih B hB
      cases w with
      | true =>
        rw [show s_S (d + 1) (Sum.inr ((true, t), A, B)) = (fun ar s k l => s_wh t (s_L d A l) ar s k l) from by funext a b c e; exact s_S_wh d t A B a b c e, n_S_wh d t A B]
        exact LN_wh fA
      | false =>
        rw [show s_S (d + 1) (Sum.inr ((false, t), A, B)) = (fun ar => s_if t (s_L d A ar) (s_L d B ar) ar) from by funext a b c e; exact s_S_if d t A B a b c e, n_S_if d t A B]
        exact LN_if fA fB
theorem LN_L (d : Nat) (L : List (ST d)) (h : VALl (VALS pl d) L) : LN (s_L d L) (n_LL d L) := LN_L_of d (LN_S d) L h
end NUM
