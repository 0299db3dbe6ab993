section NUX
variable {D : Nat} {c : Nat} {C : St} {dep d : Nat} {pl : Int → Int}
theorem s_S_pos : ∀ (d : Nat) (x : ST d) (ar s k l : Int), 1 ≤ (s_S d x ar s k l).1.length := by
  intro d x ar s k l
  cases d with
  | zero => exact Nat.le_refl 1
  | succ d =>
    rcases x with x | ⟨⟨w, t⟩, A, B⟩
    · rw [s_S_b]; exact Nat.le_refl 1
    · cases w with
      | true => rw [s_S_wh]; unfold s_wh; dsimp only; rw [List.length_cons]; omega
      | false => rw [s_S_if]; unfold s_if; dsimp only; rw [List.length_cons]; omega
theorem STP_ext {p q : Int → Int → Int → Int → SO} {g h : NF} (hp : ∀ ar s k l, p ar s k l = q ar s k l) (hg : g = h) (H : STP c C D q h dep) : STP c C D p g dep := by
  have e2 : p = q := by funext a b c d; exact hp a b c d
  subst e2 hg
  exact H
theorem walk_l (h : ∀ x, VALS pl d x → STP c C D (s_S d x) (n_S d x) dep) : ∀ (L : List (ST d)), VALl (VALS pl d) L → ∀ (sc : Nat × (Nat → Int32)) (bb : Bool) (Q : QP) (r : St) (v s k l ar cc : Int) (lf : V2), INN r v → 0 ≤ s → s + (s_L d L ar s k l).1.length ≤ 40 → 0 ≤ k → k + (s_L d L ar s k l).2.1.length ≤ 40 → v + (n_LL d L s k l v cc ar (nz (r 40))).2.1.length ≤ 240 → TAB (SRok C) s (s_L d L ar s k l).1 → TAB (KRok C) k (s_L d L ar s k l).2.1 → (∀ r', VOC r r' v s k dep (n_LL d L s k l v cc ar (nz (r 40))) → Q (.inl none) bb (NS c C r')) → qx sc D 28 9 [vr 39, lf, vi (s + (s_L d L ar s k l).1.length), vi dep, vi s] [] (0, 0) bb (NS c C r) Q := by
  intro L
  induction L with
  | nil =>
    intro _ sc bb Q r v s k l ar cc lf hi s0 s40 k0 k40 hv hS hK kk
    have e : s + ((s_L d ([] : List (ST d)) ar s k l).1.length : Nat) = s := by
      show s + ((0 : Nat) : Int) = s
      omega
    rw [e, k28_9]
    simp only [k28_11, k28_12, k28_134]
    exact ⟨fun hh => by omega, fun _ => kk r (VOC_nil hi)⟩
  | cons x L ih =>
    intro hval sc bb Q r v s k l ar cc lf hi s0 s40 k0 k40 hv hS hK kk
    obtain ⟨v1, v2⟩ := hval
    obtain ⟨PA, hPA⟩ : ∃ PA, PA = s_S d x ar s k l := ⟨_, rfl⟩
    obtain ⟨oA, hoA⟩ : ∃ oA, oA = n_S d x s k l v cc ar (nz (r 40)) := ⟨_, rfl⟩
    obtain ⟨q1, q2, q3⟩ := LN_S d x v1 ar s k l v cc (nz (r 40))
    rw [← hoA, ← hPA] at q1 q2 q3
    have hpos := s_S_pos d x ar s k l
    rw [← hPA] at hpos
    have es : s_L d (x :: L) ar s k l = so_app PA (s_L d L ar (s + PA.1.length) (k + PA.2.1.length) (l + PA.2.2.length)) := by rw [hPA]; rfl
    have en : n_LL d (x :: L) s k l v cc ar (nz (r 40)) = o_app oA (n_LL d L (s + oA.2.2.1.length) (k + oA.2.2.2.1.length) (l + oA.2.2.2.2.1.length) (v + oA.2.1.length) (cc + oA.2.2.2.2.2.length) ar oA.1) := by rw [hoA]; rfl
    rw [es] at s40 k40 hS hK ⊢
    rw [en] at hv kk
    rw [q1, q2, q3] at hv kk
    unfold so_app at s40 k40 hS hK ⊢
    dsimp only at s40 k40 hS hK ⊢
    rw [List.length_append] at s40 k40
    rw [oap_2, List.length_append] at hv
    obtain ⟨hSA, hSB⟩ := (TAB_app _ _ _).mp hS
    obtain ⟨hKA, hKB⟩ := (TAB_app _ _ _).mp hK
    rw [k28_9]
    simp only [k28_11, k28_12]
    rw [List.length_append]
    refine ⟨fun _ => ?_, fun hh => by omega⟩
    have st := h x v1 sc bb Q r v s k l ar cc lf (vi (s + ((PA.1.length + (s_L d L ar (s + PA.1.length) (k + PA.2.1.length) (l + PA.2.2.length)).1.length : Nat) : Int))) hi s0
    rw [← hPA, ← hoA] at st
    refine st (by omega) k0 (by omega) (by omega) hSA hKA (fun r1 hV1 => ?_)
    have hz : nz (r1 40) = oA.1 := hV1.2.2.2.1
    have st2 := ih v2 sc bb Q r1 (v + oA.2.1.length) (s + PA.1.length) (k + PA.2.1.length) (l + PA.2.2.length) ar (cc + oA.2.2.2.2.2.length) lf hV1.2.2.2.2.2 (by omega)
    rw [hz] at st2
    rw [show s + ((PA.1.length + (s_L d L ar (s + PA.1.length) (k + PA.2.1.length) (l + PA.2.2.length)).1.length : Nat) : Int) = s + (PA.1.length : Nat) + ((s_L d L ar (s + PA.1.length) (k + PA.2.1.length) (l + PA.2.2.length)).1.length : Nat) from by omega]
    exact st2 (by omega) (by omega) (by omega) (by omega) hSB hKB (fun r2 hV2 => kk r2 (VOC_app' hV1 hV2 rfl (by rw [q1]) (by rw [q2])))
theorem CWK_of (hd : dep ≤ 5) (h : ∀ x, VALS pl d x → STP c C D (s_S d x) (n_S d x) dep) (L : List (ST d)) (hL : VALl (VALS pl d) L) : CWK c C D (s_L d L) (n_LL d L) dep := by
  intro sc bb Q r v s k l ar cc hi s0 s40 k0 k40 hv hS hK kk
  have hn : ¬ (5 : Int) < (dep : Int) := by omega
  simp only [k28_0, k28_1, k28_2, k28_5, k28_6, k28_7, hn, false_implies, not_false_eq_true, true_implies, true_and]
  exact walk_l h L hL sc bb Q r v s k l ar cc _ hi s0 s40 k0 k40 hv hS hK kk
theorem CW_S (hc : q_C c) : ∀ (d : Nat) (D dep : Nat), dep + d ≤ 5 → ∀ x : ST d, VALS pl d x → STP c C (D + 2 * d + 3) (s_S d x) (n_S d x) dep := by
  intro d
  induction d with
  | zero => intro D dep hd x hx; exact STP_ext (s_S_0 x) (n_S_0 x) (STP_b (pl := pl) hc hx)
  | succ d ih =>
    intro D dep hd x hx
    rcases x with x | ⟨⟨w, t⟩, A, B⟩
    · exact STP_ext (s_S_b d x) (n_S_b d x) (STP_b (D := D + 2 * (d + 1)) (pl := pl) hc hx)
    · obtain ⟨ht, hA, hB⟩ := hx
      have fA := CWK_of (by omega) (ih D (dep + 1) (by omega)) A hA
      have fB := CWK_of (by omega) (ih D (dep + 1) (by omega)) B hB
      cases w with
      | true => exact STP_ext (s_S_wh d t A B) (n_S_wh d t A B) (STP_wh (D := D + 2 * d) (pl := pl) hc (by omega) fA (LN_L d A hA) (fun ar s k l => ks_sL A ar s k l) (ZV_L d A hA) ht)
      | false => exact STP_ext (s_S_if d t A B) (n_S_if d t A B) (STP_if (D := D + 2 * d) (pl := pl) hc (by omega) fA fB (LN_L d A hA) (LN_L d B hB) (fun ar s k l => ks_sL A ar s k l) (fun ar s k l => ks_sL B ar s k l) (ZV_L d A hA) (ZV_L d B hB) ht)
end NUX
