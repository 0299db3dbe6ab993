/-! checks and loops are as they may be -/
/-- going out of loops comes to an end -/
def PD (G : GT) : Nat → Int → Prop
  | 0, l => l = -1
  | n + 1, l => l = -1 ∨ (0 ≤ l ∧ PD G n (gL G l).2)
theorem PD_up {G : GT} : ∀ (n : Nat) (l : Int), PD G n l → PD G (n + 1) l := by
  intro n
  induction n with
  | zero => intro l h; exact Or.inl h
  | succ n ih =>
    intro l h
    rcases h with h | ⟨h0, h⟩
    · exact Or.inl h
    · exact Or.inr ⟨h0, ih _ h⟩
theorem PD_le {G : GT} {n m : Nat} {l : Int} (h : PD G n l) (hm : n ≤ m) : PD G m l := by
  induction hm with
  | refl => exact h
  | step _ ih => exact PD_up _ _ ih
/-- a version of each variable is one of it -/
def NWV (G : GT) (now : Int → Int) : Prop := ∀ x, 0 ≤ x → x ≤ 7 → (gV G (now x)).1.1 = x
/-- a check of the statements from s0 on to s1, with its version from v0 on to v1 -/
def WK (G : GT) (pl : Int → Int) (s0 s1 v0 v1 k : Int) : Prop := (s0 ≤ (gK G k).1 ∧ (gK G k).1 < s1) ∧ (0 ≤ (gK G k).2.1 ∧ (gK G k).2.1 ≤ 2 ∧ ¬ pl (gK G k).2.1 = -1) ∧ (0 ≤ (gK G k).2.2 ∧ (gK G k).2.2 ≤ 7) ∧ (0 ≤ (gC G k).1 ∧ (gC G k).1 < (gC G k).2.1) ∧ (v0 ≤ (gC G k).2.1 ∧ (gC G k).2.1 < v1) ∧
  gV G (gC G k).2.1 = v_chk (gK G k).2.2 (gK G k).1 (gC G k).1 (gK G k).2.1 ∧ ((gR G (gK G k).1).2.1.1 = k ∧ (gR G (gK G k).1).2.1.2.2.1 = (gC G k).2.2) ∧ (gV G (gC G k).1).1.1 = (gK G k).2.2
/-- a loop -/
def WL (G : GT) (pl : Int → Int) (s0 s1 v0 v1 l : Int) : Prop := (s0 ≤ (gL G l).1 ∧ (gL G l).1 < s1) ∧ ((gR G (gL G l).1).1.1 = 4 ∧ (gR G (gL G l).1).2.1.2.1 = l ∧ (gR G (gL G l).1).2.1.2.2.1 = (gL G l).2) ∧ (gM G (gL G l).1).2.1 = gP G l ∧ (-1 ≤ (gL G l).2 ∧ (gL G l).2 < l) ∧ (v0 ≤ (gP G l).1 ∧ 0 ≤ (gP G l).2 ∧ (gP G l).1 + (gP G l).2 ≤ v1 ∧ ¬ (gM G (gL G l).1).2.2.1.1 = -1) ∧
  VALt pl (gR G (gL G l).1).2.2 ∧ ((gR G (gL G l).1).2.2.2.1.1 = 3 → 0 ≤ (gM G (gL G l).1).2.2.2.1 ∧ (gM G (gL G l).1).2.2.2.1 < v1) ∧ ((gR G (gL G l).1).2.2.2.2.1 = 3 → 0 ≤ (gM G (gL G l).1).2.2.2.2 ∧ (gM G (gL G l).1).2.2.2.2 < v1) ∧ (¬ (gR G (gL G l).1).2.2.2.1.1 = 3 → (gM G (gL G l).1).2.2.2.1 = -1) ∧ (¬ (gR G (gL G l).1).2.2.2.2.1 = 3 → (gM G (gL G l).1).2.2.2.2 = -1) ∧
  (∀ i, (gP G l).1 ≤ i → i < (gP G l).1 + (gP G l).2 → (gV G i).1.2.1 = 6 ∧ (gV G i).1.2.2.1 = (gL G l).1)
theorem WK_up {G : GT} {pl : Int → Int} {s0 s1 v0 v1 s0' s1' v0' v1' k : Int} (h : WK G pl s0 s1 v0 v1 k) (h1 : s0' ≤ s0) (h2 : s1 ≤ s1') (h3 : v0' ≤ v0) (h4 : v1 ≤ v1') : WK G pl s0' s1' v0' v1' k := by
  obtain ⟨a, b, c, d, e, f⟩ := h
  exact ⟨by omega, b, c, d, by omega, f⟩
theorem WL_up {G : GT} {pl : Int → Int} {s0 s1 v0 v1 s0' s1' v0' v1' l : Int} (h : WL G pl s0 s1 v0 v1 l) (h1 : s0' ≤ s0) (h2 : s1 ≤ s1') (h3 : v0' ≤ v0) (h4 : v1 ≤ v1') : WL G pl s0' s1' v0' v1' l := by
  obtain ⟨a, b, c, d, e, f, g1, g2, g3, g4, g5⟩ := h
  exact ⟨by omega, b, c, d, by omega, f, fun q => by have := g1 q; omega, fun q => by have := g2 q; omega, g3, g4, g5⟩
/-- checks and loops of a piece; n: how far out, d: how far in -/
def WKL (G : GT) (pl : Int → Int) (n : Nat) (s s1 k k1 l l1 v v1 : Int) : Prop :=
  (∀ j, k ≤ j → j < k1 → WK G pl s s1 v v1 j ∧ PD G n (gC G j).2.2 ∧ -1 ≤ (gC G j).2.2 ∧ (gC G j).2.2 < l1) ∧ (∀ i j, k ≤ i → i < j → j < k1 → (gC G i).2.1 < (gC G j).2.1) ∧ (∀ j, l ≤ j → j < l1 → WL G pl s s1 v v1 j)
def WKN (pl : Int → Int) (d : Nat) (p : Int → Int → Int → Int → SO) (g : NF) : Prop := ∀ (G : GT) (n : Nat) (ar s k l v c : Int) (now : Int → Int), 0 ≤ v → 0 ≤ s → NWI now v → nz now = now → NWV G now → -1 ≤ ar → ar < l → PD G n ar → SEG G (p ar s k l) (g s k l v c ar now) s k l v c →
  WKL G pl (n + d) s (s + (p ar s k l).1.length) k (k + (p ar s k l).2.1.length) l (l + (p ar s k l).2.2.length) v (v + (g s k l v c ar now).2.1.length) ∧ NWV G (g s k l v c ar now).1
section WKA
variable {G : GT} {t : TT} {set s k l v w c ar N x y sv0 sv1 how : Int} {now one other : Int → Int} {pl : Int → Int} {n : Nat}
theorem NWV_un (h : NWV G now) (hx : 0 ≤ x ∧ x ≤ 7) (hv : (gV G w).1.1 = x) : NWV G (un now x w) := by
  intro i i0 i1
  unfold un nz p_up
  rw [if_pos ⟨i0, i1⟩]
  by_cases e : i = x
  · rw [if_pos e, hv, e]
  · rw [if_neg e]; exact h i i0 i1
theorem NWV_sn (h : NWV G now) (ht : VALt pl t) (hI : IS (gV G) w (v_sd t sv0 sv1 how s)) : NWV G (v_sn t w now) := by
  obtain ⟨-, t1, t2⟩ := ht
  unfold VALs at t1 t2
  unfold v_sd at hI
  rw [IS_app] at hI
  obtain ⟨hI0, hI1⟩ := hI
  unfold v_sn v_n0 v_n1
  by_cases a : v_own0 t
  · have a' := a.1
    rw [if_pos a, if_pos a]
    have e0 : v_s0 t sv0 sv1 how s = [((t.2.1.2, how, s, sv0, -1), (0, -1, 0), (0, v_term t sv0 sv1 how 0))] := by unfold v_s0; rw [if_pos a]
    rw [e0] at hI0 hI1
    have n1 := NWV_un (x := t.2.1.2) (w := w) h (by omega) (by rw [hI0.1])
    by_cases b : v_own1 t
    · have b' := b.1
      rw [if_pos b]
      have e1 : v_s1 t sv0 sv1 how s = [((t.2.2.2, how, s, sv1, -1), (0, -1, 0), (0, v_term t sv0 sv1 how 1))] := by unfold v_s1; rw [if_pos b]
      rw [e1] at hI1
      have e2 : gV G (w + 1) = _ := hI1.1
      exact NWV_un n1 (by omega) (by rw [e2])
    · rw [if_neg b]; exact n1
  · rw [if_neg a, if_neg a]
    have e0 : v_s0 t sv0 sv1 how s = [] := by unfold v_s0; rw [if_neg a]
    rw [e0] at hI1
    by_cases b : v_own1 t
    · have b' := b.1
      rw [if_pos b]
      have e1 : v_s1 t sv0 sv1 how s = [((t.2.2.2, how, s, sv1, -1), (0, -1, 0), (0, v_term t sv0 sv1 how 1))] := by unfold v_s1; rw [if_pos b]
      rw [e1] at hI1
      have e2 : gV G (w + 0) = _ := hI1.1
      exact NWV_un h (by omega) (by rw [e2])
    · rw [if_neg b]; exact h
theorem NWV_round : ∀ (n : Nat) (x w : Int) (now1 : Int → Int), 0 ≤ x → x + n ≤ 8 → NWV G now1 → IS (gV G) w (v_round set one other s n x) → NWV G (v_now set n x w now1) := by
  intro n
  induction n with
  | zero => intro x w now1 _ _ h _; exact h
  | succ n ih =>
    intro x w now1 x0 x1 h hI
    rw [v_round] at hI
    rw [v_now]
    by_cases b : q_bit set x = 0
    · rw [if_pos b] at hI ⊢
      exact ih (x + 1) w now1 (by omega) (by omega) h hI
    · rw [if_neg b] at hI ⊢
      exact ih (x + 1) (w + 1) _ (by omega) (by omega) (NWV_un h (by omega) (by rw [hI.1]; rfl)) hI.2
theorem NWV_join : ∀ (n : Nat) (x w : Int) (now1 : Int → Int), 0 ≤ x → x + n ≤ 8 → NWV G now1 → IS (gV G) w (v_join set one other s n x) → NWV G (v_now set n x w now1) := by
  intro n
  induction n with
  | zero => intro x w now1 _ _ h _; exact h
  | succ n ih =>
    intro x w now1 x0 x1 h hI
    rw [v_join] at hI
    rw [v_now]
    by_cases b : q_bit set x = 0
    · rw [if_pos b] at hI ⊢
      exact ih (x + 1) w now1 (by omega) (by omega) h hI
    · rw [if_neg b] at hI ⊢
      exact ih (x + 1) (w + 1) _ (by omega) (by omega) (NWV_un h (by omega) (by rw [hI.1]; rfl)) hI.2
theorem WKL_none {s1 v1 : Int} (hk : n = n) : WKL G pl n s s1 k k l l v v1 := ⟨fun j h1 h2 => by omega, fun i j h1 h2 h3 => by omega, fun j h1 h2 => by omega⟩
/-- one behind another -/
theorem WKL_app {s0 s1 s2 s3 k1 k2 l1 l2 v0 v1 v2 v3 : Int} (h1 : WKL G pl n s0 s1 k k1 l l1 v0 v1) (h2 : WKL G pl n s2 s3 k1 k2 l1 l2 v2 v3) (a1 : s ≤ s0) (a2 : s1 ≤ w) (a3 : s ≤ s2) (a4 : s3 ≤ w) (b1 : v ≤ v0) (b2 : v1 ≤ v2) (b3 : v3 ≤ x) (b4 : v0 ≤ v1) (b5 : v2 ≤ v3) (hl : l1 ≤ l2) : WKL G pl n s w k k2 l l2 v x := by
  obtain ⟨p1, p2, p3⟩ := h1
  obtain ⟨q1, q2, q3⟩ := h2
  refine ⟨fun j h1 h2 => ?_, fun i j h1 h2 h3 => ?_, fun j h1 h2 => ?_⟩
  · by_cases hj : j < k1
    · obtain ⟨u1, u2, u3⟩ := p1 j h1 hj
      exact ⟨WK_up u1 a1 a2 b1 (by omega), u2, by omega⟩
    · obtain ⟨u1, u2, u3⟩ := q1 j (by omega) h2
      exact ⟨WK_up u1 a3 a4 (by omega) b3, u2, u3⟩
  · by_cases hj : j < k1
    · exact p2 i j h1 h2 hj
    · by_cases hi : i < k1
      · have u := (p1 i h1 hi).1.2.2.2.2.1
        have u' := (q1 j (by omega) h3).1.2.2.2.2.1
        omega
      · exact q2 i j (by omega) h2 h3
  · by_cases hj : j < l1
    · exact WL_up (p3 j h1 hj) a1 a2 b1 (by omega)
    · exact WL_up (q3 j (by omega) h2) a3 a4 (by omega) b3
theorem WKN_b {z : SB} {d : Nat} (hz : VALb pl z) : WKN pl d (s_b z) (n_b z) := by
  intro G n ar s k l v c now h0 hs hn hnz hv ha1 ha2 hp h
  obtain ⟨⟨hR, hK, hL⟩, hV, hM, hC, -⟩ := h
  obtain ⟨z0, hz'⟩ := hz
  have eb : ∀ (ckr : Int), (gR G s).2.1.1 = ckr → True := fun _ _ => trivial
  have hRs := hR.1
  -- a check's own
  have ck : z.2.1 = 1 → gV G v = v_chk z.2.2.2 s (now z.2.2.2) z.2.2.1 → gC G k = (now z.2.2.2, v, ar) → (0 ≤ z.2.2.1 ∧ z.2.2.1 ≤ 2 ∧ ¬ pl z.2.2.1 = -1) → (0 ≤ z.2.2.2 ∧ z.2.2.2 ≤ 7) → ∀ v1, v < v1 → WKL G pl (n + d) s (s + 1) k (k + 1) l l v v1 := by
    intro e1 eV eC r1 r2 v1 hv1
    have eK : gK G k = (s, z.2.2.1, z.2.2.2) := by
      unfold s_b at hK
      dsimp only at hK
      rw [if_pos e1] at hK
      exact hK.1
    refine ⟨fun j h1 h2 => ?_, fun i j h1 h2 h3 => by omega, fun j h1 h2 => by omega⟩
    have ej : j = k := by omega
    subst ej
    have hb := hn z.2.2.2 r2.1 r2.2
    refine ⟨?_, ?_⟩
    · unfold WK
      rw [eK, eC]
      dsimp only
      refine ⟨by omega, r1, r2, hb, by omega, eV, ⟨?_, ?_⟩, hv _ r2.1 r2.2⟩
      · rw [hRs]; dsimp only; rw [if_pos e1]
      · rw [hRs]
    · rw [eC]
      exact ⟨PD_le hp (by omega), by dsimp only; omega, by dsimp only; omega⟩
  have e1 : (s_b z ar s k l).1.length = 1 := rfl
  have e3 : (s_b z ar s k l).2.2.length = 0 := rfl
  rw [e1, e3]
  have e2 : ∀ q : Nat, (s_b z ar s k l).2.1.length = q → (s_b z ar s k l).2.1.length = q := fun _ h => h
  unfold n_b at hV hC ⊢
  by_cases g0 : z.1.1 = 0
  · rw [if_pos g0] at hV hC ⊢
    by_cases g4 : z.1.2.2.1 = 4
    · rw [if_pos g4] at hV hC ⊢
      obtain ⟨eV, eV2, -⟩ := hV
      obtain ⟨eC, -⟩ := hC
      have zz : z.2.1 = 1 ∧ (0 ≤ z.2.2.1 ∧ z.2.2.1 ≤ 2 ∧ ¬ pl z.2.2.1 = -1) ∧ (0 ≤ z.2.2.2 ∧ z.2.2.2 ≤ 7) := by omega
      have e2' : (s_b z ar s k l).2.1.length = 1 := by unfold s_b; dsimp only; rw [if_pos zz.1]; rfl
      rw [e2']
      refine ⟨?_, ?_⟩
      · have := ck zz.1 eV eC zz.2.1 zz.2.2 (v + 2) (by omega)
        simpa using this
      · exact NWV_un (NWV_un hv zz.2.2 (by rw [eV]; rfl)) z0 (by rw [eV2]; rfl)
    · rw [if_neg g4] at hV hC ⊢
      have zz : ¬ z.2.1 = 1 := by
        rcases hz' with ⟨-, q⟩ | ⟨q, -⟩ | ⟨q, -⟩
        · rcases q with q | q | q | q | q
          · rw [q.2.2.2.2]; decide
          · rw [q.2.2.2.2.2]; decide
          · rw [q.2.2.2.2.2]; decide
          · omega
          · rw [q.2.2.2.2]; decide
        · omega
        · omega
      have e2' : (s_b z ar s k l).2.1.length = 0 := by unfold s_b; dsimp only; rw [if_neg zz]; rfl
      rw [e2']
      obtain ⟨eV, -⟩ := hV
      refine ⟨?_, NWV_un hv z0 (by rw [eV]; rfl)⟩
      have := WKL_none (G := G) (pl := pl) (n := n + d) (s := s) (k := k) (l := l) (v := v) (s1 := s + 1) (v1 := v + 1) rfl
      simpa using this
  · rw [if_neg g0] at hV hC ⊢
    by_cases g1 : z.1.1 = 1
    · rw [if_pos g1] at hV hC ⊢
      obtain ⟨eV, -⟩ := hV
      obtain ⟨eC, -⟩ := hC
      have zz : z.2.1 = 1 ∧ (0 ≤ z.2.2.1 ∧ z.2.2.1 ≤ 2 ∧ ¬ pl z.2.2.1 = -1) ∧ (0 ≤ z.2.2.2 ∧ z.2.2.2 ≤ 7) := by omega
      have e2' : (s_b z ar s k l).2.1.length = 1 := by unfold s_b; dsimp only; rw [if_pos zz.1]; rfl
      rw [e2']
      refine ⟨?_, NWV_un hv zz.2.2 (by rw [eV]; rfl)⟩
      have := ck zz.1 eV eC zz.2.1 zz.2.2 (v + 1) (by omega)
      simpa using this
    · rw [if_neg g1] at hV hC ⊢
      have zz : ¬ z.2.1 = 1 := by
        rcases hz' with ⟨q, -⟩ | ⟨q, -⟩ | ⟨-, -, -, -, q⟩
        · omega
        · omega
        · rw [q]; decide
      have e2' : (s_b z ar s k l).2.1.length = 0 := by unfold s_b; dsimp only; rw [if_neg zz]; rfl
      rw [e2']
      refine ⟨?_, hv⟩
      have := WKL_none (G := G) (pl := pl) (n := n + d) (s := s) (k := k) (l := l) (v := v) (s1 := s + 1) (v1 := v) rfl
      simpa using this
end WKA
theorem WKN_S {pl : Int → Int} : ∀ d : Nat, (∀ x : ST d, VALS pl d x → WKN pl d (s_S d x) (n_S d x)) ∧ (∀ L : List (ST d), VALl (VALS pl d) L → WKN pl d (s_L d L) (n_LL d L)) := by
  refine ST_ind (P := fun d x => WKN pl d (s_S d x) (n_S d x)) (PL := fun d L => WKN pl d (s_L d L) (n_LL d L)) ?_ ?_ ?_ ?_ ?_ ?_
  · intro x hx
    rw [show s_S 0 x = s_b x from by funext a b c e; exact s_S_0 x a b c e, n_S_0]
    exact WKN_b hx
  · intro d x hx
    rw [show s_S (d + 1) (Sum.inl x) = s_b x from by funext a b c e; exact s_S_b d x a b c e, n_S_b]
    exact WKN_b hx
  · intro d t A B ht vA vB hA hB G n ar s k l v c now h0 hs hn hnz hv ha1 ha2 hp h
    rw [s_S_if, n_S_if] at h ⊢
    obtain ⟨oA, oB, PA, PB, vA', vF, vB', vJ, cA, cF, cB, cJ, sB, kB, lB, ⟨eA, ePA, eB, ePB⟩, ⟨x1, x2, x3, x4⟩, -, ⟨w1, w2, w3⟩, ⟨hR, hM⟩, ⟨y1, y2, y3, y4, y5⟩, -, z1, z2, z3, z4⟩ := SEG_if (LN_L d A vA) h
    have ePB' := ePB
    rw [w1, w2, w3] at ePB'
    have es := s_if_eq (t := t) (ar := ar) (pA := s_L d A ar) (pB := s_L d B ar) ePA ePB'
    have nA : NWI (v_sn t v now) vA' := by rw [x1]; exact NWI_sn hn (Int.le_refl _) h0
    have nF : NWI (v_sn t vF now) vB' := by rw [x3, ← z4]; exact NWI_sn hn (by omega) h0
    have wA := hA G n ar (s + 1) k l vA' cA (v_sn t v now) (by omega) (by omega) nA (nz_sn hnz) (NWV_sn hv ht y1) ha1 ha2 hp
    rw [← eA, ← ePA] at wA
    obtain ⟨kA, nvA⟩ := wA y2
    have wB := hB G n ar sB kB lB vB' cB (v_sn t vF now) (by omega) (by omega) nF (nz_sn hnz) (NWV_sn hv ht y3) ha1 (by omega) hp
    rw [← eB, ← ePB] at wB
    obtain ⟨kB', nvB⟩ := wB y4
    rw [z1]
    refine ⟨?_, NWV_join 8 0 vJ now (by decide) (by decide) hv y5⟩
    rw [z2, es]
    dsimp only
    rw [List.length_cons, List.length_append, List.length_append, List.length_append]
    have ek : k + ((PA.2.1.length + PB.2.1.length : Nat) : Int) = kB + (PB.2.1.length : Int) := by omega
    have el : l + ((PA.2.2.length + PB.2.2.length : Nat) : Int) = lB + (PB.2.2.length : Int) := by omega
    rw [ek, el]
    have e1 : k + (PA.2.1.length : Int) = kB := by omega
    have e2 : l + (PA.2.2.length : Int) = lB := by omega
    rw [e1, e2] at kA
    have e5 : n + d ≤ n + (d + 1) := by omega
    have up : ∀ {s1 s2 k1 k2 l1 l2 v1 v2 : Int}, WKL G pl (n + d) s1 s2 k1 k2 l1 l2 v1 v2 → WKL G pl (n + (d + 1)) s1 s2 k1 k2 l1 l2 v1 v2 := fun q => ⟨fun j h1 h2 => ⟨(q.1 j h1 h2).1, PD_le (q.1 j h1 h2).2.1 e5, (q.1 j h1 h2).2.2⟩, q.2.1, q.2.2⟩
    exact WKL_app (up kA) (up kB') (by omega) (by omega) (by omega) (by omega) (by omega) (by omega) (by omega) (by omega) (by omega) (by omega)
  · intro d t A B ht vA hA G n ar s k l v c now h0 hs hn hnz hv ha1 ha2 hp h
    rw [s_S_wh, n_S_wh] at h ⊢
    obtain ⟨now1, oA, PA, n', vH, vA', vF, cH, cA, cF, ⟨eA, ePA, e1, en⟩, ⟨x1, x2, x3⟩, -, ⟨hR, hM, hL, hP⟩, ⟨y1, y2, y3, y4⟩, -, z1, z2, z3, z4⟩ := SEG_wh h
    have es := s_wh_eq (t := t) (ar := ar) (pA := s_L d A l) ePA
    have hn1 : NWI now1 vH := by rw [e1, x1]; exact NWI_now _ 8 0 v now h0 hn
    have hz1 : nz now1 = now1 := by rw [e1]; exact nz_now 8 0 v now hnz
    have hv1 : NWV G now1 := by rw [e1]; exact NWV_round 8 0 v now (by decide) (by decide) hv y1
    have nA : NWI (v_sn t vH now1) vA' := by rw [x2, en]; exact NWI_sn hn1 (Int.le_refl _) (by omega)
    have pd : PD G (n + 1) l := Or.inr ⟨by omega, by rw [hL]; exact hp⟩
    have wA := hA G (n + 1) l (s + 1) k (l + 1) vA' cA (v_sn t vH now1) (by omega) (by omega) nA (nz_sn hz1) (NWV_sn hv1 ht y2) (by omega) (by omega) pd
    rw [← eA, ← ePA] at wA
    obtain ⟨kA, nvA⟩ := wA y3
    rw [z1]
    refine ⟨?_, NWV_sn hv1 ht y4⟩
    rw [z2, es]
    dsimp only
    rw [List.length_cons, List.length_cons]
    obtain ⟨p1, p2, p3⟩ := kA
    rw [show n + 1 + d = n + (d + 1) by omega] at p1
    refine ⟨fun j h1 h2 => ?_, fun i j h1 h2 h3 => p2 i j h1 h2 h3, fun j h1 h2 => ?_⟩
    · obtain ⟨u1, u2, u3⟩ := p1 j h1 h2
      exact ⟨WK_up u1 (by omega) (by omega) (by omega) (by omega), u2, by omega⟩
    · by_cases e : j = l
      · subst e
        have hlt0 := sv_lt (pl := pl) hn1 t.2.1 ht.2.1
        have hlt1 := sv_lt (pl := pl) hn1 t.2.2 ht.2.2
        unfold WL
        rw [hL, hP]
        dsimp only
        rw [hR, hM]
        dsimp only
        refine ⟨by omega, ⟨rfl, rfl, rfl⟩, rfl, by omega, by omega, ht, fun q => by have := hlt0 q; omega, fun q => by have := hlt1 q; omega, fun q => by unfold v_sv; rw [if_neg q], fun q => by unfold v_sv; rw [if_neg q], fun i i0 i1 => ?_⟩
        obtain ⟨z, -, -, e, -⟩ := v_round_at 8 0 v (by decide) (by decide) y1 i (by omega) (by omega)
        rw [e]
        exact ⟨rfl, rfl⟩
      · exact WL_up (p3 j (by omega) (by omega)) (by omega) (by omega) (by omega) (by omega)
  · intro d G n ar s k l v c now h0 hs hn hnz hv ha1 ha2 hp h
    refine ⟨?_, hv⟩
    have := WKL_none (G := G) (pl := pl) (n := n + d) (s := s) (k := k) (l := l) (v := v) (s1 := s) (v1 := v) rfl
    have e1 : (s_L d ([] : List (ST d)) ar s k l).1.length = 0 := rfl
    have e2 : (s_L d ([] : List (ST d)) ar s k l).2.1.length = 0 := rfl
    have e3 : (s_L d ([] : List (ST d)) ar s k l).2.2.length = 0 := rfl
    have e4 : (n_LL d ([] : List (ST d)) s k l v c ar now).2.1.length = 0 := rfl
    rw [e1, e2, e3, e4]
    simpa using this
  · intro d x L vx vL h1 h2 G n ar s k l v c now h0 hs hn hnz hv ha1 ha2 hp h
    have en : n_LL d (x :: L) s k l v c ar now = o_app (n_S d x s k l v c ar now) (n_LL d L (s + (n_S d x s k l v c ar now).2.2.1.length) (k + (n_S d x s k l v c ar now).2.2.2.1.length) (l + (n_S d x s k l v c ar now).2.2.2.2.1.length) (v + (n_S d x s k l v c ar now).2.1.length) (c + (n_S d x s k l v c ar now).2.2.2.2.2.length) ar (n_S d x s k l v c ar now).1) := rfl
    have es : s_L d (x :: L) ar s k l = so_app (s_S d x ar s k l) (s_L d L ar (s + (s_S d x ar s k l).1.length) (k + (s_S d x ar s k l).2.1.length) (l + (s_S d x ar s k l).2.2.length)) := rfl
    obtain ⟨q1, q2, q3⟩ := LN_S d x vx ar s k l v c now
    obtain ⟨ok, hz'⟩ := (PO_S d x) s k l v c ar now hnz
    have a1 := h1 G n ar s k l v c now h0 hs hn hnz hv ha1 ha2 hp
    have hn' := NWI_OKO hn h0 ok
    rw [q1, q2, q3] at en
    rw [en, es] at h ⊢
    generalize n_S d x s k l v c ar now = oA at *
    generalize s_S d x ar s k l = PA at *
    rw [SEG_app q1 q2 q3] at h
    obtain ⟨g1, g2⟩ := h
    obtain ⟨b1, b2⟩ := a1 g1
    have a2 := h2 G n ar (s + PA.1.length) (k + PA.2.1.length) (l + PA.2.2.length) (v + oA.2.1.length) (c + oA.2.2.2.2.2.length) oA.1 (by omega) (by omega) hn' hz' b2 ha1 (by omega) hp g2
    obtain ⟨c1, c2⟩ := a2
    rw [oap_1, oap_2]
    refine ⟨?_, c2⟩
    unfold so_app
    dsimp only
    rw [List.length_append, List.length_append, List.length_append, List.length_append]
    generalize n_LL d L (s + PA.1.length) (k + PA.2.1.length) (l + PA.2.2.length) (v + oA.2.1.length) (c + oA.2.2.2.2.2.length) ar oA.1 = oB at *
    generalize s_L d L ar (s + PA.1.length) (k + PA.2.1.length) (l + PA.2.2.length) = PB at *
    have ek : k + ((PA.2.1.length + PB.2.1.length : Nat) : Int) = k + (PA.2.1.length : Int) + (PB.2.1.length : Int) := by omega
    have el : l + ((PA.2.2.length + PB.2.2.length : Nat) : Int) = l + (PA.2.2.length : Int) + (PB.2.2.length : Int) := by omega
    rw [ek, el]
    exact WKL_app b1 c1 (by omega) (by omega) (by omega) (by omega) (by omega) (by omega) (by omega) (by omega) (by omega) (by omega)
