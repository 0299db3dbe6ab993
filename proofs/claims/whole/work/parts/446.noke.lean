section NKE
variable {S S0 S1 S2 S' : St} {x how s fr too a b i v sv0 sv1 : Int} {t : TT} {pl : Int → Int}
theorem too_ne : ∀ (k : Nat) (v : Int) (T : St) (c : Nat) (i : Int), ¬ c = 151 → F_too k v T c i = T c i := by
  intro k
  induction k with
  | zero => intro v T c i _; rfl
  | succ k ih => intro v T c i hc; rw [F_too, ih _ _ _ _ hc, q_up_ne _ _ _ _ hc]
theorem too_out : ∀ (k : Nat) (v : Int) (T : St) (i : Int), ¬ (v ≤ i ∧ i < v + k) → F_too k v T 151 i = T 151 i := by
  intro k
  induction k with
  | zero => intro v T i _; rfl
  | succ k ih =>
    intro v T i hi
    rw [F_too, ih _ _ _ (by omega), q_up_ne2 _ _ _ (by omega)]
theorem too_in : ∀ (k : Nat) (v : Int) (T : St) (i : Int), v ≤ i → i < v + k → F_too k v T 151 i = T 171 (T 147 i) := by
  intro k
  induction k with
  | zero => intro v T i h1 h2; omega
  | succ k ih =>
    intro v T i h1 h2
    rw [F_too]
    by_cases e : i = v
    · rw [too_out k _ _ _ (by omega), e, q_up_eq]
    · rw [ih (v + 1) _ i (by omega) (by omega), q_up_ne _ _ _ _ (by decide), q_up_ne _ _ _ _ (by decide)]
/-- the ROUND ones, when they come from the block's end, too -/
theorem round_fin {set : Int} {now fin : Int → Int} : ∀ (k : Nat) (x v : Int), 0 ≤ x → x + k ≤ 8 → TAB (VRokR S) v (v_round set now (fun _ => -1) s k x) → (∀ i, v ≤ i → i < v + (v_many set k x : Nat) → (∀ a, 147 ≤ a ∧ a ≤ 154 → ¬ a = 151 → S' a i = S a i) ∧ S' 151 i = fin (S 147 i)) → TAB (VRokR S') v (v_round set now fin s k x) := by
  intro k
  induction k with
  | zero => intro x v h0 h1 h h'; trivial
  | succ k ih =>
    intro x v h0 h1 h h'
    rw [v_round] at h ⊢
    rw [v_many] at h'
    by_cases e : q_bit set x = 0
    · rw [if_pos e] at h h' ⊢
      exact ih (x + 1) v (by omega) (by omega) h h'
    · rw [if_neg e] at h h' ⊢
      obtain ⟨⟨r1, r2, r3, r4, r5, r6, r7, r8⟩, h2⟩ := h
      obtain ⟨g1, g2⟩ := h' v (Int.le_refl _) (by omega)
      refine ⟨⟨?_, ?_, ?_, ?_, ?_, ?_, ?_, ?_⟩, ih (x + 1) (v + 1) (by omega) (by omega) h2 (fun i i1 i2 => h' i (by omega) (by omega))⟩
      · rw [g1 147 (by decide) (by decide)]; exact r1
      · rw [g1 148 (by decide) (by decide)]; exact r2
      · rw [g1 149 (by decide) (by decide)]; exact r3
      · rw [g1 150 (by decide) (by decide)]; exact r4
      · rw [g2, r1]; rfl
      · rw [g1 152 (by decide) (by decide)]; exact r6
      · rw [g1 153 (by decide) (by decide)]; exact r7
      · rw [g1 154 (by decide) (by decide)]; exact r8
theorem v_now_z {set : Int} : ∀ (k : Nat) (x v : Int) (now : Int → Int), nz now = now → nz (v_now set k x v now) = v_now set k x v now := by
  intro k
  induction k with
  | zero => intro x v now h; exact h
  | succ k ih =>
    intro x v now h
    rw [v_now]
    split
    · exact ih _ _ _ h
    · exact ih _ _ _ nz_nz
theorem OKO_rd {set : Int} {fin now0 : Int → Int} {m : List MR × List NC × List NP × List CD} : ∀ (k : Nat) (x v : Int) (now : Int → Int), nz now = now → OKO v now (v_now set k x v now, v_round set now0 fin s k x, m) := by
  intro k
  induction k with
  | zero => intro x v now h; exact OKO_0
  | succ k ih =>
    intro x v now h
    rw [v_now, v_round]
    split
    · exact ih _ _ _ h
    · have h1 : OKO v now (un now x v, [v_mk x 6 s (now0 x) (fin x)], [], [], [], []) := OKO_1 rfl h
      have h2 := ih (x + 1) (v + 1) (un now x v) nz_nz
      have := OKO_app h1 h2
      intro i a1 a2
      exact this i a1 a2
theorem OKO_jn {set : Int} {one other : Int → Int} {m : List MR × List NC × List NP × List CD} : ∀ (k : Nat) (x v : Int) (now : Int → Int), nz now = now → OKO v now (v_now set k x v now, v_join set one other s k x, m) := by
  intro k
  induction k with
  | zero => intro x v now h; exact OKO_0
  | succ k ih =>
    intro x v now h
    rw [v_now, v_join]
    split
    · exact ih _ _ _ h
    · have h1 : OKO v now (un now x v, [v_mk x 5 s (one x) (other x)], [], [], [], []) := OKO_1 rfl h
      have h2 := ih (x + 1) (v + 1) (un now x v) nz_nz
      have := OKO_app h1 h2
      intro i a1 a2
      exact this i a1 a2
theorem v_sn_z {now : Int → Int} (h : nz now = now) : nz (v_sn t v now) = v_sn t v now := by
  unfold v_sn v_n1 v_n0
  split <;> split <;> first | exact nz_nz | exact h
/-- what a step's lists look at -/
def PO (g : NF) : Prop := ∀ s k l v c ar now, nz now = now → OKO v now (g s k l v c ar now) ∧ nz (g s k l v c ar now).1 = (g s k l v c ar now).1
theorem OKO_pre {v : Int} {now : Int → Int} {f : Int → Int} {A B : List VR} {m m' : List MR × List NC × List NP × List CD} (h : OKO (v + A.length) now (f, B, m)) : OKO v now (f, A ++ B, m') := by
  intro i h0 h1
  rcases h i h0 h1 with e | ⟨j, hj, e, e2⟩
  · exact Or.inl e
  · refine Or.inr ⟨A.length + j, by rw [List.length_append]; have : j < B.length := hj; omega, ?_, ?_⟩
    · show f i = _
      have e' : f i = _ := e
      rw [e']
      omega
    · have hj' : j < B.length := hj
      show ((A ++ B)[A.length + j]'(by rw [List.length_append]; omega)).1.1 = i
      rw [List.getElem_append_right (by omega)]
      simp only [Nat.add_sub_cancel_left]
      exact e2
theorem OKO_post {v : Int} {now : Int → Int} {f : Int → Int} {A B : List VR} {m m' : List MR × List NC × List NP × List CD} (h : OKO v now (f, A, m)) : OKO v now (f, A ++ B, m') := by
  intro i h0 h1
  rcases h i h0 h1 with e | ⟨j, hj, e, e2⟩
  · exact Or.inl e
  · refine Or.inr ⟨j, by rw [List.length_append]; have : j < A.length := hj; omega, e, ?_⟩
    have hj' : j < A.length := hj
    show ((A ++ B)[j]'(by rw [List.length_append]; omega)).1.1 = i
    rw [List.getElem_append_left hj]
    exact e2
theorem PO_b {x : SB} : PO (n_b x) := by
  intro s k l v c ar now hn
  unfold n_b
  split
  · split
    · refine ⟨?_, nz_nz⟩
      have h1 : OKO v now (un now x.2.2.2 v, [v_chk x.2.2.2 s (now x.2.2.2) x.2.2.1], [], [], [], []) := OKO_1 rfl hn
      have h2 : OKO (v + 1) (un now x.2.2.2 v) (un (un now x.2.2.2 v) x.1.2.1 (v + 1), [v_val x s (-1) k], [], [], [], []) := OKO_1 rfl nz_nz
      have := OKO_app h1 h2
      intro i a1 a2
      exact this i a1 a2
    · exact ⟨OKO_1 rfl hn, nz_nz⟩
  · split
    · exact ⟨OKO_1 rfl hn, nz_nz⟩
    · exact ⟨OKO_0, hn⟩
theorem PO_if {set : Int} {A B : NF} : PO (n_if t set A B) := by
  intro s k l v c ar now hn
  unfold n_if
  dsimp only
  refine ⟨?_, v_now_z _ _ _ _ hn⟩
  refine OKO_pre (m := ([], [], [], [])) (OKO_pre (m := ([], [], [], [])) (OKO_pre (m := ([], [], [], [])) (OKO_pre (m := ([], [], [], [])) ?_)))
  exact OKO_jn _ _ _ _ hn
theorem PO_wh {set : Int} {A : NF} : PO (n_wh t set A) := by
  intro s k l v c ar now hn
  unfold n_wh
  dsimp only
  have z1 := v_now_z (set := set) 8 0 v now hn
  refine ⟨?_, v_sn_z z1⟩
  have h1 : OKO v now (v_now set 8 0 v now, v_round set now (A (s + 1) k (l + 1) (v + (v_many set 8 0 : Nat) + (v_sd t (v_sv (v_now set 8 0 v now) t.2.1) (v_sv (v_now set 8 0 v now) t.2.2) 3 s).length) (c + 1 + (v_many set 8 0 : Nat) + 2 + (v_sd t (v_sv (v_now set 8 0 v now) t.2.1) (v_sv (v_now set 8 0 v now) t.2.2) 3 s).length) l (v_sn t (v + (v_many set 8 0 : Nat)) (v_now set 8 0 v now))).1 s 8 0, [], [], [], []) := OKO_rd 8 0 v now hn
  generalize A (s + 1) k (l + 1) (v + (v_many set 8 0 : Nat) + (v_sd t (v_sv (v_now set 8 0 v now) t.2.1) (v_sv (v_now set 8 0 v now) t.2.2) 3 s).length) (c + 1 + (v_many set 8 0 : Nat) + 2 + (v_sd t (v_sv (v_now set 8 0 v now) t.2.1) (v_sv (v_now set 8 0 v now) t.2.2) 3 s).length) l (v_sn t (v + (v_many set 8 0 : Nat)) (v_now set 8 0 v now)) = o at *
  have h2 : OKO (v + (v_round set now o.1 s 8 0).length) (v_now set 8 0 v now) (v_sn t (v + (v_many set 8 0 : Nat) + (v_sd t (v_sv (v_now set 8 0 v now) t.2.1) (v_sv (v_now set 8 0 v now) t.2.2) 3 s).length + o.2.1.length) (v_now set 8 0 v now), v_sd t (v_sv (v_now set 8 0 v now) t.2.1) (v_sv (v_now set 8 0 v now) t.2.2) 3 s ++ (o.2.1 ++ v_sd t (v_sv (v_now set 8 0 v now) t.2.1) (v_sv (v_now set 8 0 v now) t.2.2) 4 s), [], [], [], []) := by
    refine OKO_pre (m := ([], [], [], [])) (OKO_pre (m := ([], [], [], [])) ?_)
    rw [v_round_len]
    exact OKO_sd z1
  have := OKO_app h1 h2
  intro i a1 a2
  exact this i a1 a2
theorem PO_seq : ∀ (L : List NF), (∀ g ∈ L, PO g) → PO (n_seq L) := by
  intro L
  induction L with
  | nil => intro _ s k l v c ar now hn; exact ⟨OKO_0, hn⟩
  | cons g L ih =>
    intro h s k l v c ar now hn
    rw [n_seq]
    dsimp only
    obtain ⟨a1, a2⟩ := h g (by simp) s k l v c ar now hn
    obtain ⟨b1, b2⟩ := ih (fun g hg => h g (by simp [hg])) (s + (g s k l v c ar now).2.2.1.length) (k + (g s k l v c ar now).2.2.2.1.length) (l + (g s k l v c ar now).2.2.2.2.1.length) (v + (g s k l v c ar now).2.1.length) (c + (g s k l v c ar now).2.2.2.2.2.length) ar (g s k l v c ar now).1 a2
    exact ⟨OKO_app a1 b1, b2⟩
theorem n_S_0 (x : SB) : n_S 0 x = n_b x := by
  unfold n_S
  rfl
theorem n_S_b (d : Nat) (x : SB) : n_S (d + 1) (Sum.inl x) = n_b x := by
  unfold n_S
  rfl
theorem n_S_if (d : Nat) (t : TT) (A B : List (ST d)) : n_S (d + 1) (Sum.inr ((false, t), A, B)) = n_if t (tbits (ks_L d A ++ ks_L d B) 0) (n_LL d A) (n_LL d B) := by
  rw [n_S]
  simp only [Bool.false_eq_true, if_false]
  rfl
theorem n_S_wh (d : Nat) (t : TT) (A B : List (ST d)) : n_S (d + 1) (Sum.inr ((true, t), A, B)) = n_wh t (tbits (ks_L d A) 0) (n_LL d A) := by
  rw [n_S]
  simp only [if_true]
  rfl
theorem PO_S : ∀ (d : Nat) (x : ST d), PO (n_S d x) := by
  intro d
  induction d with
  | zero => intro x; unfold n_S; exact PO_b
  | succ d ih =>
    intro x
    rcases x with x | ⟨⟨w, t⟩, A, B⟩
    · rw [n_S_b]; exact PO_b
    · cases w with
      | true => rw [n_S_wh]; exact PO_wh
      | false => rw [n_S_if]; exact PO_if
/-- kinds and variables, from both lists -/
theorem ks_s {d : Nat} : ∀ (x : ST d) (ar s k l : Int), (s_S d x ar s k l).1.map (fun r => (r.1.1, r.1.2.1)) = ks_S d x := by
  induction d with
  | zero => intro x ar s k l; unfold s_S ks_S s_b; rfl
  | succ d ih =>
    have seq : ∀ (L : List (ST d)) (ar s k l : Int), (s_L d L ar s k l).1.map (fun r => (r.1.1, r.1.2.1)) = ks_L d L := by
      intro L
      induction L with
      | nil => intro ar s k l; rfl
      | cons y L ihL =>
        intro ar s k l
        unfold s_L ks_L
        rw [List.map_cons, List.map_cons, s_seq, ks_seq]
        dsimp only
        rw [List.map_append, ih y]
        congr 1
        exact ihL ar _ _ _
    intro x ar s k l
    rcases x with x | ⟨⟨w, t⟩, A, B⟩
    · rw [s_S_b]; unfold ks_S s_b; rfl
    · cases w with
      | true =>
        rw [s_S_wh, ks_S]
        unfold s_wh
        dsimp only
        rw [List.map_cons, seq, if_pos rfl]
        rfl
      | false =>
        rw [s_S_if, ks_S]
        unfold s_if
        dsimp only
        rw [List.map_cons, List.map_append, seq, seq, if_neg (by decide)]
        rfl
theorem ks_sL {d : Nat} : ∀ (L : List (ST d)) (ar s k l : Int), (s_L d L ar s k l).1.map (fun r => (r.1.1, r.1.2.1)) = ks_L d L := by
  intro L
  induction L with
  | nil => intro ar s k l; rfl
  | cons y L ihL =>
    intro ar s k l
    unfold s_L ks_L
    rw [List.map_cons, List.map_cons, s_seq, ks_seq]
    dsimp only
    rw [List.map_append, ks_s y]
    congr 1
    exact ihL ar _ _ _
end NKE
