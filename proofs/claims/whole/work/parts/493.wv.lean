/-! versions are as they may be -/
theorem PO_L (d : Nat) (L : List (ST d)) : PO (n_LL d L) := PO_seq _ (fun g hg => by
  obtain ⟨x, -, rfl⟩ := List.mem_map.mp hg
  exact PO_S d x)
def W0 (x : VR) : Prop := x.1.2.1 = 0 ∧ (x.1.2.2.1 = -1 ∧ x.1.2.2.2.1 = -1 ∧ x.1.2.2.2.2 = -1) ∧ x.2 = ((0, -1, 0), (0, (1, 0, 0), (1, 0, 0)))
def W1 (pl : Int → Int) (i : Int) (x : VR) : Prop := x.1.2.1 = 1 ∧ x.1.2.2.2.2 = -1 ∧
  ((x.2.1.1 = 0 ∧ x.1.2.2.2.1 = -1 ∧ (-99 ≤ x.2.1.2.2 ∧ x.2.1.2.2 ≤ 99) ∧ x.2.2 = (0, (1, x.2.1.2.2, 0), (1, x.2.1.2.2, 0)))
  ∨ (x.2.1.1 = 2 ∧ x.1.2.2.2.1 = -1 ∧ (0 ≤ x.2.1.2.1 ∧ x.2.1.2.1 ≤ 2 ∧ ¬ pl x.2.1.2.1 = -1) ∧ x.2.2 = (0, (2, x.2.1.2.1, 0), (2, x.2.1.2.1, 0)))
  ∨ (x.2.1.1 = 1 ∧ (0 ≤ x.1.2.2.2.1 ∧ x.1.2.2.2.1 < i) ∧ (-99 ≤ x.2.1.2.2 ∧ x.2.1.2.2 ≤ 99) ∧ x.2.2 = (x.2.1.2.2, t0, t0))
  ∨ ((x.2.1.1 = 3 ∨ x.2.1.1 = 4) ∧ x.1.2.2.2.1 = -1 ∧ x.2.2 = (0, t0, t0)))
def W2 (pl : Int → Int) (i : Int) (x : VR) : Prop := x.1.2.1 = 2 ∧ (0 ≤ x.1.2.2.2.1 ∧ x.1.2.2.2.1 < i) ∧ x.1.2.2.2.2 = -1 ∧ x.2.1 = (0, -1, 0) ∧ ∃ row, (0 ≤ row ∧ row ≤ 2 ∧ ¬ pl row = -1) ∧ x.2.2 = (0, (2, row, -1), (1, 0, 0))
def W3 (pl : Int → Int) (T : TT) (sv : Int × Int) (i : Int) (x : VR) : Prop := (x.1.2.1 = 3 ∨ x.1.2.1 = 4) ∧ x.1.2.2.2.2 = -1 ∧ x.2.1 = (0, -1, 0) ∧ VALt pl T ∧ ((T.2.1.1 = 3 → 0 ≤ sv.1 ∧ sv.1 < i) ∧ (T.2.2.1 = 3 → 0 ≤ sv.2 ∧ sv.2 < i)) ∧
  ((v_own0 T ∧ x.1.1 = T.2.1.2 ∧ x.1.2.2.2.1 = sv.1 ∧ x.2.2 = (0, v_term T sv.1 sv.2 x.1.2.1 0)) ∨ (v_own1 T ∧ x.1.1 = T.2.2.2 ∧ x.1.2.2.2.1 = sv.2 ∧ x.2.2 = (0, v_term T sv.1 sv.2 x.1.2.1 1)))
def W5 (i : Int) (x : VR) : Prop := x.1.2.1 = 5 ∧ (0 ≤ x.1.2.2.2.1 ∧ x.1.2.2.2.1 < i) ∧ (0 ≤ x.1.2.2.2.2 ∧ x.1.2.2.2.2 < i) ∧ x.2 = ((0, -1, 0), (0, t0, t0))
def W6 (N : Int) (mg : Int × Int) (i : Int) (x : VR) : Prop := x.1.2.1 = 6 ∧ (0 ≤ x.1.2.2.2.1 ∧ x.1.2.2.2.1 < mg.1) ∧ (0 ≤ x.1.2.2.2.2 ∧ x.1.2.2.2.2 < N) ∧ (mg.1 ≤ i ∧ i < mg.1 + mg.2) ∧ x.2 = ((0, -1, 0), (0, t0, t0))
def WV (G : GT) (pl : Int → Int) (N i : Int) : Prop := (0 ≤ (gV G i).1.1 ∧ (gV G i).1.1 ≤ 7) ∧
  (W0 (gV G i) ∨ W1 pl i (gV G i) ∨ W2 pl i (gV G i) ∨ W3 pl (gR G (gV G i).1.2.2.1).2.2 (gM G (gV G i).1.2.2.1).2.2.2 i (gV G i) ∨ W5 i (gV G i) ∨ W6 N (gM G (gV G i).1.2.2.1).2.1 i (gV G i))
/-- what is looked at has been made -/
def NWI (now : Int → Int) (v : Int) : Prop := ∀ i, 0 ≤ i → i ≤ 7 → 0 ≤ now i ∧ now i < v
section WVA
variable {G : GT} {t : TT} {set s k l v w c ar N x y sv0 sv1 how : Int} {now one other : Int → Int} {pl : Int → Int}
theorem NWI_up (h : NWI now v) (hv : v ≤ w) : NWI now w := fun i i0 i1 => by
  have := h i i0 i1
  omega
theorem NWI_un (h : NWI now v) (hv : v ≤ w) (h0 : 0 ≤ w) : NWI (un now x w) (w + 1) := by
  intro i i0 i1
  have := h i i0 i1
  unfold un nz p_up
  rw [if_pos ⟨i0, i1⟩]
  split <;> omega
theorem NWI_OKO {o : NO} (h : NWI now v) (h0 : 0 ≤ v) (ho : OKO v now o) : NWI o.1 (v + o.2.1.length) := by
  intro i i0 i1
  have := h i i0 i1
  rcases ho i i0 i1 with e | ⟨j, hj, e, -⟩
  · rw [e]; omega
  · rw [e]; omega
theorem v_sd_n : ((v_sd t sv0 sv1 how s).length : Int) = (if v_own0 t then 1 else 0) + (if v_own1 t then 1 else 0) := v_sd_len
theorem NWI_sn (h : NWI now v) (hv : v ≤ w) (h0 : 0 ≤ v) : NWI (v_sn t w now) (w + (v_sd t sv0 sv1 how s).length) := by
  rw [v_sd_n]
  unfold v_sn v_n0 v_n1
  by_cases a : v_own0 t
  · rw [if_pos a, if_pos a]
    by_cases b : v_own1 t
    · rw [if_pos b, if_pos b]
      have := NWI_un (x := t.2.2.2) (NWI_un (x := t.2.1.2) h hv (by omega)) (Int.le_refl _) (by omega)
      rw [← Int.add_assoc]
      exact this
    · rw [if_neg b, if_neg b]
      have := NWI_un (x := t.2.1.2) h hv (by omega)
      rw [Int.add_zero]
      exact this
  · rw [if_neg a, if_neg a]
    by_cases b : v_own1 t
    · rw [if_pos b, if_pos b]
      have := NWI_un (x := t.2.2.2) h (w := w + 0) (by omega) (by omega)
      rw [show w + (0 + 1) = w + 0 + 1 by omega]
      exact this
    · rw [if_neg b, if_neg b]
      exact NWI_up h (by omega)
theorem NWI_now (set : Int) : ∀ (n : Nat) (x w : Int) (now : Int → Int), 0 ≤ w → NWI now w → NWI (v_now set n x w now) (w + (v_many set n x : Nat)) := by
  intro n
  induction n with
  | zero => intro x w now h0 h; exact NWI_up h (by omega)
  | succ n ih =>
    intro x w now h0 h
    rw [v_now, v_many]
    split
    · exact ih (x + 1) w now h0 h
    · have := ih (x + 1) (w + 1) (un now x w) (by omega) (NWI_un h (Int.le_refl _) h0)
      rw [show w + ((v_many set n (x + 1) + 1 : Nat) : Int) = w + 1 + (v_many set n (x + 1) : Nat) by omega]
      exact this
theorem sv_lt (h : NWI now v) (q : Int × Int) (hq : VALs pl q) : q.1 = 3 → 0 ≤ v_sv now q ∧ v_sv now q < v := by
  intro h3
  unfold v_sv
  rw [if_pos h3]
  unfold VALs at hq
  exact h q.2 (by omega) (by omega)
/-- the versions of sides -/
theorem WV_sd (hI : IS (gV G) w (v_sd t sv0 sv1 how s)) (ht : VALt pl t) (hh : how = 3 ∨ how = 4) (hR : (gR G s).2.2 = t) (hM : (gM G s).2.2.2 = (sv0, sv1)) (h0 : t.2.1.1 = 3 → 0 ≤ sv0 ∧ sv0 < w) (h1 : t.2.2.1 = 3 → 0 ≤ sv1 ∧ sv1 < w) : ∀ i, w ≤ i → i < w + (v_sd t sv0 sv1 how s).length → WV G pl N i := by
  intro i i0 i1
  have t1 := ht.2.1
  have t2 := ht.2.2
  have base : ∀ y : VR, gV G i = y → y.1.2.2.1 = s → (0 ≤ y.1.1 ∧ y.1.1 ≤ 7) → y.1.2.1 = how → y.1.2.2.2.2 = -1 → y.2.1 = (0, -1, 0) → ((v_own0 t ∧ y.1.1 = t.2.1.2 ∧ y.1.2.2.2.1 = sv0 ∧ y.2.2 = (0, v_term t sv0 sv1 how 0)) ∨ (v_own1 t ∧ y.1.1 = t.2.2.2 ∧ y.1.2.2.2.1 = sv1 ∧ y.2.2 = (0, v_term t sv0 sv1 how 1))) → WV G pl N i := by
    intro y e es ev eh e1 e2 e3
    unfold WV
    rw [e, es, hR, hM]
    refine ⟨ev, Or.inr (Or.inr (Or.inr (Or.inl ⟨by rw [eh]; exact hh, e1, e2, ht, ⟨fun q => ?_, fun q => ?_⟩, by rw [eh]; exact e3⟩)))⟩
    · have := h0 q; dsimp only; omega
    · have := h1 q; dsimp only; omega
  unfold v_sd at hI
  rw [IS_app] at hI
  obtain ⟨hI0, hI1⟩ := hI
  rw [v_sd_n] at i1
  unfold VALs at t1 t2
  by_cases a : v_own0 t
  · have e0 : v_s0 t sv0 sv1 how s = [((t.2.1.2, how, s, sv0, -1), (0, -1, 0), (0, v_term t sv0 sv1 how 0))] := by unfold v_s0; rw [if_pos a]
    rw [e0] at hI0 hI1
    by_cases e : i = w
    · subst e
      have a' := a.1
      exact base _ hI0.1 rfl (by dsimp only; omega) rfl rfl rfl (Or.inl ⟨a, rfl, rfl, rfl⟩)
    · by_cases b : v_own1 t
      · have e1 : v_s1 t sv0 sv1 how s = [((t.2.2.2, how, s, sv1, -1), (0, -1, 0), (0, v_term t sv0 sv1 how 1))] := by unfold v_s1; rw [if_pos b]
        rw [e1] at hI1
        rw [if_pos a, if_pos b] at i1
        have ei : i = w + ([((t.2.1.2, how, s, sv0, -1), (0, -1, 0), (0, v_term t sv0 sv1 how 0))] : List VR).length := by
          show i = w + 1
          omega
        rw [← ei] at hI1
        have b' := b.1
        exact base _ hI1.1 rfl (by dsimp only; omega) rfl rfl rfl (Or.inr ⟨b, rfl, rfl, rfl⟩)
      · rw [if_pos a, if_neg b] at i1
        omega
  · have e0 : v_s0 t sv0 sv1 how s = [] := by unfold v_s0; rw [if_neg a]
    rw [e0] at hI1
    by_cases b : v_own1 t
    · have e1 : v_s1 t sv0 sv1 how s = [((t.2.2.2, how, s, sv1, -1), (0, -1, 0), (0, v_term t sv0 sv1 how 1))] := by unfold v_s1; rw [if_pos b]
      rw [e1] at hI1
      rw [if_neg a, if_pos b] at i1
      have ei : i = w + ([] : List VR).length := by
        show i = w + 0
        omega
      rw [← ei] at hI1
      have b' := b.1
      exact base _ hI1.1 rfl (by dsimp only; omega) rfl rfl rfl (Or.inr ⟨b, rfl, rfl, rfl⟩)
    · rw [if_neg a, if_neg b] at i1
      omega
theorem v_join_at : ∀ (n : Nat) (x w : Int), 0 ≤ x → x + n ≤ 8 → IS (gV G) w (v_join set one other s n x) → ∀ i, w ≤ i → i < w + (v_many set n x : Nat) → ∃ z, 0 ≤ z ∧ z ≤ 7 ∧ gV G i = v_mk z 5 s (one z) (other z) ∧ ¬ q_bit set z = 0 := by
  intro n
  induction n with
  | zero => intro x w _ _ _ i i0 i1; rw [v_many] at i1; omega
  | succ n ih =>
    intro x w x0 x1 hI i i0 i1
    rw [v_join] at hI
    rw [v_many] at i1
    by_cases b : q_bit set x = 0
    · rw [if_pos b] at hI i1
      exact ih (x + 1) w (by omega) (by omega) hI i i0 i1
    · rw [if_neg b] at hI i1
      by_cases e : i = w
      · subst e
        exact ⟨x, x0, by omega, hI.1, b⟩
      · exact ih (x + 1) (w + 1) (by omega) (by omega) hI.2 i (by omega) (by omega)
theorem v_round_at : ∀ (n : Nat) (x w : Int), 0 ≤ x → x + n ≤ 8 → IS (gV G) w (v_round set one other s n x) → ∀ i, w ≤ i → i < w + (v_many set n x : Nat) → ∃ z, 0 ≤ z ∧ z ≤ 7 ∧ gV G i = v_mk z 6 s (one z) (other z) ∧ ¬ q_bit set z = 0 := by
  intro n
  induction n with
  | zero => intro x w _ _ _ i i0 i1; rw [v_many] at i1; omega
  | succ n ih =>
    intro x w x0 x1 hI i i0 i1
    rw [v_round] at hI
    rw [v_many] at i1
    by_cases b : q_bit set x = 0
    · rw [if_pos b] at hI i1
      exact ih (x + 1) w (by omega) (by omega) hI i i0 i1
    · rw [if_neg b] at hI i1
      by_cases e : i = w
      · subst e
        exact ⟨x, x0, by omega, hI.1, b⟩
      · exact ih (x + 1) (w + 1) (by omega) (by omega) hI.2 i (by omega) (by omega)
/-- a statement without a block -/
theorem WV_b {z : SB} (hz : VALb pl z) (hn : NWI now v) (h0 : 0 ≤ v) (h : SEG G (s_b z ar s k l) (n_b z s k l v c ar now) s k l v c) : ∀ i, v ≤ i → i < v + (n_b z s k l v c ar now).2.1.length → WV G pl N i := by
  intro i i0 i1
  obtain ⟨-, hV, -⟩ := h
  obtain ⟨z0, hz⟩ := hz
  have chk : ∀ (i w : Int), gV G i = v_chk z.2.2.2 s (now z.2.2.2) z.2.2.1 → v ≤ i → 0 ≤ z.2.2.1 → z.2.2.1 ≤ 2 → ¬ pl z.2.2.1 = -1 → 0 ≤ z.2.2.2 → z.2.2.2 ≤ 7 → WV G pl N i := by
    intro i w e hi a1 a2 a3 a4 a5
    have := hn z.2.2.2 a4 a5
    unfold WV
    rw [e]
    exact ⟨⟨a4, a5⟩, Or.inr (Or.inr (Or.inl ⟨rfl, ⟨this.1, by unfold v_chk; dsimp only; omega⟩, rfl, rfl, z.2.2.1, ⟨a1, a2, a3⟩, rfl⟩))⟩
  have val : ∀ (i fr ck : Int), gV G i = v_val z s fr ck → (z.1.2.2.1 = 3 → fr = now z.1.2.2.2.1) → (¬ z.1.2.2.1 = 3 → fr = -1) → v ≤ i → z.1.1 = 0 → WV G pl N i := by
    intro i fr ck e f1 f2 hi hk
    unfold WV
    rw [e]
    refine ⟨z0, Or.inr (Or.inl ⟨rfl, rfl, ?_⟩)⟩
    rcases hz with ⟨-, hz⟩ | ⟨q, -⟩ | ⟨q, -⟩
    · unfold v_val
      dsimp only
      rcases hz with ⟨g, g1, g2, g3, -⟩ | ⟨g, g1, g2, g3, -⟩ | ⟨g, g1, g2, g3, g4, -⟩ | ⟨g, -⟩ | ⟨g, -⟩
      · rw [f2 (by omega)]
        simp only [g, Int.reduceEq, if_true, if_false, or_false, false_or]
        exact Or.inl ⟨trivial, trivial, ⟨g2, g3⟩, trivial⟩
      · rw [f2 (by omega)]
        simp only [g, Int.reduceEq, if_true, if_false, or_false, false_or, true_or]
        exact Or.inr (Or.inl ⟨trivial, trivial, ⟨g1, g2, g3⟩, trivial⟩)
      · rw [f1 g]
        have := hn z.1.2.2.2.1 g1 g2
        simp only [g, Int.reduceEq, if_true, if_false, or_false, false_or, or_true]
        exact Or.inr (Or.inr (Or.inl ⟨trivial, ⟨this.1, by omega⟩, ⟨g3, g4⟩, trivial⟩))
      · rw [f2 (by omega)]
        simp only [g, Int.reduceEq, if_true, if_false, or_false, false_or, or_true, true_or]
        exact Or.inr (Or.inr (Or.inr ⟨trivial, trivial, trivial⟩))
      · rw [f2 (by omega)]
        simp only [g, Int.reduceEq, if_true, if_false, or_false, false_or, or_true, true_or]
        exact Or.inr (Or.inr (Or.inr ⟨trivial, trivial, trivial⟩))
    · omega
    · omega
  unfold n_b at hV i1
  by_cases g0 : z.1.1 = 0
  · rw [if_pos g0] at hV i1
    by_cases g4 : z.1.2.2.1 = 4
    · rw [if_pos g4] at hV i1
      obtain ⟨e1, e2, -⟩ := hV
      dsimp only at i1
      rw [List.length_cons, List.length_cons, List.length_nil] at i1
      by_cases e : i = v
      · subst e
        rcases hz with ⟨-, hz⟩ | ⟨q, -⟩ | ⟨q, -⟩
        · rcases hz with ⟨g, -⟩ | ⟨g, -⟩ | ⟨g, -⟩ | ⟨g, -, -, -, a1, a2, a3, a4, a5⟩ | ⟨g, -⟩
          · omega
          · omega
          · omega
          · exact chk i i e1 (Int.le_refl _) a1 a2 a3 a4 a5
          · omega
        · omega
        · omega
      · have e' : i = v + 1 := by omega
        subst e'
        exact val _ _ _ e2 (fun q => by omega) (fun _ => rfl) (by omega) g0
    · rw [if_neg g4] at hV i1
      dsimp only at hV i1
      obtain ⟨e1, -⟩ := hV
      rw [List.length_cons, List.length_nil] at i1
      have e : i = v := by omega
      subst e
      exact val _ _ _ e1 (fun q => by rw [if_pos q]) (fun q => by rw [if_neg q]) (Int.le_refl _) g0
  · rw [if_neg g0] at hV i1
    by_cases g1 : z.1.1 = 1
    · rw [if_pos g1] at hV i1
      obtain ⟨e1, -⟩ := hV
      dsimp only at i1
      rw [List.length_cons, List.length_nil] at i1
      have e : i = v := by omega
      subst e
      rcases hz with ⟨q, -⟩ | ⟨-, a0, -, -, -, -, -, a1, a2, a3⟩ | ⟨q, -⟩
      · omega
      · exact chk i i e1 (Int.le_refl _) a1 a2 a3 (by omega) (by omega)
      · omega
    · rw [if_neg g1] at i1
      dsimp only at i1
      rw [List.length_nil] at i1
      omega
end WVA
/-- of a piece of the program -/
def WFN (pl : Int → Int) (p : Int → Int → Int → Int → SO) (g : NF) : Prop := ∀ (G : GT) (N ar s k l v c : Int) (now : Int → Int), 0 ≤ v → NWI now v → nz now = now → v + (g s k l v c ar now).2.1.length ≤ N → SEG G (p ar s k l) (g s k l v c ar now) s k l v c → ∀ i, v ≤ i → i < v + (g s k l v c ar now).2.1.length → WV G pl N i
theorem nz_un {now : Int → Int} {x w : Int} : nz (un now x w) = un now x w := nz_nz
theorem nz_sn {t : TT} {w : Int} {now : Int → Int} (h : nz now = now) : nz (v_sn t w now) = v_sn t w now := by
  unfold v_sn v_n0 v_n1
  split
  · exact nz_un
  · split
    · exact nz_un
    · exact h
theorem nz_now {set : Int} : ∀ (n : Nat) (x w : Int) (now : Int → Int), nz now = now → nz (v_now set n x w now) = v_now set n x w now := by
  intro n
  induction n with
  | zero => intro x w now h; exact h
  | succ n ih =>
    intro x w now h
    rw [v_now]
    split
    · exact ih _ _ _ h
    · exact ih _ _ _ nz_un
theorem WFN_S {pl : Int → Int} : ∀ d : Nat, (∀ x : ST d, VALS pl d x → WFN pl (s_S d x) (n_S d x)) ∧ (∀ L : List (ST d), VALl (VALS pl d) L → WFN pl (s_L d L) (n_LL d L)) := by
  refine ST_ind (P := fun d x => WFN pl (s_S d x) (n_S d x)) (PL := fun d L => WFN pl (s_L d L) (n_LL d L)) ?_ ?_ ?_ ?_ ?_ ?_
  · intro x hx G N ar s k l v c now h0 hn hz hN h
    rw [s_S_0, n_S_0] at h
    rw [n_S_0] at hN ⊢
    exact WV_b hx hn h0 h
  · intro d x hx G N ar s k l v c now h0 hn hz hN h
    rw [s_S_b, n_S_b] at h
    rw [n_S_b] at hN ⊢
    exact WV_b hx hn h0 h
  · intro d t A B ht vA vB hA hB G N ar s k l v c now h0 hn hz hN h i i0 i1
    rw [s_S_if, n_S_if] at h
    rw [n_S_if] at hN i1
    obtain ⟨oA, oB, PA, PB, vA', vF, vB', vJ, cA, cF, cB, cJ, sB, kB, lB, ⟨eA, ePA, eB, ePB⟩, ⟨x1, x2, x3, x4⟩, -, -, ⟨hR, hM⟩, ⟨y1, y2, y3, y4, y5⟩, -, z1, z2, z3, z4⟩ := SEG_if (LN_L d A vA) h
    rw [z2] at hN i1
    have hlt0 := sv_lt (pl := pl) hn t.2.1 ht.2.1
    have hlt1 := sv_lt (pl := pl) hn t.2.2 ht.2.2
    have nA : NWI (v_sn t v now) vA' := by rw [x1]; exact NWI_sn hn (Int.le_refl _) h0
    have oka := ((PO_L d A) (s + 1) k l vA' cA ar (v_sn t v now) (nz_sn hz)).1
    rw [← eA] at oka
    have nA' := NWI_OKO nA (by omega) oka
    have nF : NWI (v_sn t vF now) vB' := by rw [x3, ← z4]; exact NWI_sn hn (by omega) h0
    have okb := ((PO_L d B) sB kB lB vB' cB ar (v_sn t vF now) (nz_sn hz)).1
    rw [← eB] at okb
    have nB' := NWI_OKO nF (by omega) okb
    have wA := hA G N ar (s + 1) k l vA' cA (v_sn t v now) (by omega) nA (nz_sn hz)
    rw [← eA, ← ePA] at wA
    have wB := hB G N ar sB kB lB vB' cB (v_sn t vF now) (by omega) nF (nz_sn hz)
    rw [← eB, ← ePB] at wB
    have hR' : (gR G s).2.2 = t := by rw [hR]
    have hM' : (gM G s).2.2.2 = (v_sv now t.2.1, v_sv now t.2.2) := by rw [hM]
    by_cases c1 : i < vA'
    · exact WV_sd y1 ht (Or.inl rfl) hR' hM' hlt0 hlt1 i i0 (by omega)
    · by_cases c2 : i < vF
      · exact wA (by omega) y2 i (by omega) (by omega)
      · by_cases c3 : i < vB'
        · exact WV_sd y3 ht (Or.inr rfl) hR' hM' (fun q => by have := hlt0 q; omega) (fun q => by have := hlt1 q; omega) i (by omega) (by omega)
        · by_cases c4 : i < vJ
          · exact wB (by omega) y4 i (by omega) (by omega)
          · obtain ⟨z, z0, z7, e, -⟩ := v_join_at 8 0 vJ (by decide) (by decide) y5 i (by omega) (by omega)
            have n1 := nA' z z0 z7
            have n2 := nB' z z0 z7
            unfold WV
            rw [e]
            refine ⟨⟨z0, z7⟩, Or.inr (Or.inr (Or.inr (Or.inr (Or.inl ⟨rfl, ⟨n1.1, ?_⟩, ⟨n2.1, ?_⟩, rfl⟩))))⟩
            · unfold v_mk; dsimp only; omega
            · unfold v_mk; dsimp only; omega
  · intro d t A B ht vA hA G N ar s k l v c now h0 hn hz hN h i i0 i1
    rw [s_S_wh, n_S_wh] at h
    rw [n_S_wh] at hN i1
    obtain ⟨now1, oA, PA, n, vH, vA', vF, cH, cA, cF, ⟨eA, ePA, e1, en⟩, ⟨x1, x2, x3⟩, -, ⟨hR, hM, -, -⟩, ⟨y1, y2, y3, y4⟩, -, z1, z2, z3, z4⟩ := SEG_wh h
    rw [z2] at hN i1
    have hn1 : NWI now1 vH := by rw [e1, x1]; exact NWI_now _ 8 0 v now h0 hn
    have hz1 : nz now1 = now1 := by rw [e1]; exact nz_now 8 0 v now hz
    have hlt0 := sv_lt (pl := pl) hn1 t.2.1 ht.2.1
    have hlt1 := sv_lt (pl := pl) hn1 t.2.2 ht.2.2
    have nA : NWI (v_sn t vH now1) vA' := by rw [x2, en]; exact NWI_sn hn1 (Int.le_refl _) (by omega)
    have oka := ((PO_L d A) (s + 1) k (l + 1) vA' cA l (v_sn t vH now1) (nz_sn hz1)).1
    rw [← eA] at oka
    have nA' := NWI_OKO nA (by omega) oka
    have wA := hA G N l (s + 1) k (l + 1) vA' cA (v_sn t vH now1) (by omega) nA (nz_sn hz1)
    rw [← eA, ← ePA] at wA
    have hR' : (gR G s).2.2 = t := by rw [hR]
    have hM' : (gM G s).2.2.2 = (v_sv now1 t.2.1, v_sv now1 t.2.2) := by rw [hM]
    by_cases c0 : i < vH
    · obtain ⟨z, z0, z7, e, -⟩ := v_round_at 8 0 v (by decide) (by decide) y1 i (by omega) (by omega)
      have n1 := hn z z0 z7
      have n2 := nA' z z0 z7
      unfold WV
      rw [e]
      refine ⟨⟨z0, z7⟩, Or.inr (Or.inr (Or.inr (Or.inr (Or.inr ⟨rfl, ⟨n1.1, ?_⟩, ⟨n2.1, ?_⟩, ?_, rfl⟩))))⟩
      · unfold v_mk; dsimp only; rw [hM]; exact n1.2
      · unfold v_mk; dsimp only; omega
      · unfold v_mk; dsimp only; rw [hM]; dsimp only; omega
    · by_cases c1 : i < vA'
      · exact WV_sd y2 ht (Or.inl rfl) hR' hM' hlt0 hlt1 i (by omega) (by omega)
      · by_cases c2 : i < vF
        · exact wA (by omega) y3 i (by omega) (by omega)
        · exact WV_sd y4 ht (Or.inr rfl) hR' hM' (fun q => by have := hlt0 q; omega) (fun q => by have := hlt1 q; omega) i (by omega) (by omega)
  · intro d G N ar s k l v c now h0 hn hz hN h i i0 i1
    have e : (n_LL d ([] : List (ST d)) s k l v c ar now).2.1.length = 0 := rfl
    rw [e] at i1
    omega
  · intro d x L vx vL h1 h2 G N ar s k l v c now h0 hn hz hN h i i0 i1
    have en : n_LL d (x :: L) s k l v c ar now = o_app (n_S d x s k l v c ar now) (n_LL d L (s + (n_S d x s k l v c ar now).2.2.1.length) (k + (n_S d x s k l v c ar now).2.2.2.1.length) (l + (n_S d x s k l v c ar now).2.2.2.2.1.length) (v + (n_S d x s k l v c ar now).2.1.length) (c + (n_S d x s k l v c ar now).2.2.2.2.2.length) ar (n_S d x s k l v c ar now).1) := rfl
    have es : s_L d (x :: L) ar s k l = so_app (s_S d x ar s k l) (s_L d L ar (s + (s_S d x ar s k l).1.length) (k + (s_S d x ar s k l).2.1.length) (l + (s_S d x ar s k l).2.2.length)) := rfl
    obtain ⟨q1, q2, q3⟩ := LN_S d x vx ar s k l v c now
    obtain ⟨ok, hz'⟩ := (PO_S d x) s k l v c ar now hz
    have a1 := h1 G N ar s k l v c now h0 hn hz
    have hn' := NWI_OKO hn h0 ok
    rw [q1, q2, q3] at en
    rw [en] at hN i1 h
    rw [es] at h
    generalize n_S d x s k l v c ar now = oA at *
    generalize s_S d x ar s k l = PA at *
    rw [SEG_app q1 q2 q3] at h
    obtain ⟨g1, g2⟩ := h
    rw [oap_2, List.length_append] at hN i1
    have a2 := h2 G N ar (s + PA.1.length) (k + PA.2.1.length) (l + PA.2.2.length) (v + oA.2.1.length) (c + oA.2.2.2.2.2.length) oA.1 (by omega) hn' hz' (by omega) g2
    by_cases c1 : i < v + oA.2.1.length
    · exact a1 (by omega) g1 i i0 c1
    · exact a2 i (by omega) (by omega)
