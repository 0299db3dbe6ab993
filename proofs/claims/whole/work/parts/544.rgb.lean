/-! a statement without a block, in a run -/
/-- what is known of its rows -/
def BPC (G : GT) (x : SB) (ar s k v c : Int) (now : Int → Int) (o : NO) : Prop :=
  ((gR G s).1 = x.1 ∧ (gR G s).2.1 = ((if x.2.1 = 1 then k else -1), -1, ar, s + 1, s + 1)) ∧ gD G c = (0, s, 0) ∧ ((x.2.1 = 1 ∧ (gK G k = (s, x.2.2.1, x.2.2.2) ∧ gC G k = (now x.2.2.2, v, ar) ∧ gV G v = v_chk x.2.2.2 s (now x.2.2.2) x.2.2.1) ∧ (gD G (c + 1) = (1, k, 0) ∧ gD G (c + 2) = (6, v, 0)) ∧
    ((x.1.1 = 0 ∧ x.1.2.2.1 = 4 ∧ gV G (v + 1) = v_val x s (-1) k ∧ (gM G s).1 = v + 1 ∧ gD G (c + 3) = (2, v + 1, 0) ∧ o.1 = un (un now x.2.2.2 v) x.1.2.1 (v + 1) ∧ o.2.1.length = 2 ∧ o.2.2.2.2.2.length = 4)
    ∨ (x.1.1 = 1 ∧ x.1.2.1 = x.2.2.2 ∧ gD G (c + 3) = (3, k, x.1.2.2.2.1) ∧ o.1 = un now x.2.2.2 v ∧ o.2.1.length = 1 ∧ o.2.2.2.2.2.length = 4)))
  ∨ (¬ x.2.1 = 1 ∧ ((x.1.1 = 0 ∧ ¬ x.1.2.2.1 = 4 ∧ gV G v = v_val x s (if x.1.2.2.1 = 3 then now x.1.2.2.2.1 else -1) k ∧ (gM G s).1 = v ∧ gD G (c + 1) = (2, v, 0) ∧ o.1 = un now x.1.2.1 v ∧ o.2.1.length = 1 ∧ o.2.2.2.2.2.length = 2)
    ∨ (x.1.1 = 2 ∧ gD G (c + 1) = (4, x.1.2.1, 0) ∧ o.1 = now ∧ o.2.1.length = 0 ∧ o.2.2.2.2.2.length = 2))))
theorem BPC_of {G : GT} {pl : Int → Int} {x : SB} {ar s k l v c : Int} {now : Int → Int} (hx : VALb pl x) (h : SEG G (s_b x ar s k l) (n_b x s k l v c ar now) s k l v c) : BPC G x ar s k v c now (n_b x s k l v c ar now) := by
  obtain ⟨⟨h1, h2, -⟩, h4, h5, h6, -, h8⟩ := h
  obtain ⟨-, hx⟩ := hx
  have hR : gR G s = (x.1, ((if x.2.1 = 1 then k else -1), -1, ar, s + 1, s + 1), (0, (0, 0), (0, 0))) := h1.1
  unfold BPC
  rw [hR]
  refine ⟨⟨rfl, rfl⟩, ?_⟩
  unfold s_b at h2
  dsimp only at h2
  unfold n_b at h4 h5 h6 h8 ⊢
  rcases hx with ⟨g0, hv⟩ | ⟨g0, a0, a1, a2, a3, a4, a5, a6⟩ | ⟨g0, a1, a2, a3, a4⟩
  · by_cases g4 : x.1.2.2.1 = 4
    · rw [if_pos g0, if_pos g4] at h4 h5 h6 h8
      rw [if_pos g0, if_pos g4]
      have hc : x.2.1 = 1 := by
        rcases hv with ⟨q, -⟩ | ⟨q, -⟩ | ⟨q, -⟩ | ⟨q, -, -, q2, -⟩ | ⟨q, -⟩
        · omega
        · omega
        · omega
        · exact q2
        · omega
      rw [if_pos hc] at h2
      exact ⟨h8.1, Or.inl ⟨hc, ⟨h2.1, h6.1, h4.1⟩, ⟨h8.2.1, (by have := h8.2.2.1; rw [show c + 1 + 1 = c + 2 by omega] at this; exact this)⟩, Or.inl ⟨g0, g4, h4.2.1, by rw [h5.1], (by have := h8.2.2.2.1; rw [show c + 1 + 1 + 1 = c + 3 by omega] at this; exact this), rfl, rfl, rfl⟩⟩⟩
    · rw [if_pos g0, if_neg g4] at h4 h5 h6 h8
      rw [if_pos g0, if_neg g4]
      have hc : ¬ x.2.1 = 1 := by
        rcases hv with ⟨-, -, -, -, q⟩ | ⟨-, -, -, -, -, q⟩ | ⟨-, -, -, -, -, q⟩ | ⟨q, -⟩ | ⟨-, -, -, -, q⟩
        · rw [q]; decide
        · rw [q]; decide
        · rw [q]; decide
        · exact absurd q g4
        · rw [q]; decide
      exact ⟨h8.1, Or.inr ⟨hc, Or.inl ⟨g0, g4, h4.1, by rw [h5.1], h8.2.1, rfl, rfl, rfl⟩⟩⟩
  · have n0 : ¬ x.1.1 = 0 := by omega
    rw [if_neg n0, if_pos g0] at h4 h5 h6 h8
    rw [if_neg n0, if_pos g0]
    rw [if_pos a5] at h2
    exact ⟨h8.1, Or.inl ⟨a5, ⟨h2.1, h6.1, h4.1⟩, ⟨h8.2.1, (by have := h8.2.2.1; rw [show c + 1 + 1 = c + 2 by omega] at this; exact this)⟩, Or.inr ⟨g0, a0, (by have := h8.2.2.2.1; rw [show c + 1 + 1 + 1 = c + 3 by omega] at this; exact this), rfl, rfl, rfl⟩⟩⟩
  · have n0 : ¬ x.1.1 = 0 := by omega
    have n1 : ¬ x.1.1 = 1 := by omega
    rw [if_neg n0, if_neg n1] at h4 h5 h6 h8
    rw [if_neg n0, if_neg n1]
    have hc : ¬ x.2.1 = 1 := by rw [a4]; decide
    exact ⟨h8.1, Or.inr ⟨hc, Or.inr ⟨g0, h8.2.1, rfl, rfl, rfl⟩⟩⟩
/-- how a piece of a run ends -/
def RES (G : GT) (pl : Int → Int) (V K : Nat) (ln : Int → Int) (v v' l : Int) (ks : List (Int × Int)) (now' : Int → Int) (σ : St) (r : St × Bool) : Prop := RFR v l ks σ r.1 ∧ (r.2 = true → GST G pl V K ln v' l now' r.1 ∧ σ 87 2 ≤ r.1 87 2) ∧ (r.2 = false → FST r.1)
section RGB
variable {G : GT} {pl ln : Int → Int} {V S K Ln : Nat} {m m' n n' o o' v v' w l l' k s x y how ar c : Int} {ks ks' : List (Int × Int)} {now now' : Int → Int} {σ σ' σ1 σ2 : St}
theorem GST_step (h : GST G pl V K ln v l now σ) (hs : σ 87 2 < 300) : GSM G pl V K ln (σ 87 2 + 1) (100 * (σ 87 2 + 1)) (σ 87 2) v l now (q_up σ 87 2 (σ 87 2 + 1)) := by
  obtain ⟨h1, h2, h3, h4⟩ := h
  exact ⟨BM_step h1 hs, h2, h3, h4⟩
theorem GST_of {st : Int} (h : GSM G pl V K ln m n o v l now σ) (hst : σ 87 2 = st) (hm : m ≤ st + 1) (hn : n ≤ 100 * (st + 1)) (ho : o ≤ st) : GST G pl V K ln v l now σ := by
  unfold GST
  rw [hst]
  exact ⟨BM_le h.1 hm hn ho, h.2⟩
theorem R_step_t (h : σ 87 2 < 300) : R_step σ = (q_up σ 87 2 (σ 87 2 + 1), true) := if_neg (by omega)
theorem R_step_f (h : ¬ σ 87 2 < 300) : R_step σ = (q_up σ 87 0 2, false) := if_pos (by omega)
/-- a check that holds -/
theorem GSM_pass (hp : PRO G pl V S K Ln) (hL : LNO pl ln) (h : GSM G pl V K ln m n o v l now σ) (hN : NWI now v) (v0 : 0 ≤ v) (v1 : v < V) (hx : 0 ≤ x ∧ x ≤ 7) {row cn : Int} (hrow : 0 ≤ row ∧ row ≤ 2 ∧ ¬ pl row = -1) (hg : gV G v = v_chk x s (now x) row) (hin : 0 ≤ σ 78 x ∧ σ 78 x < σ 85 row) (hcn : 0 ≤ cn ∧ cn ≤ 2) :
    GSM G pl V K ln m (n + 2) o (v + 1) l (un now x v) (q_up (q_up σ 87 4 (σ 87 4 + cn)) 80 v (σ 78 x)) := by
  obtain ⟨⟨⟨b1, b2, b3⟩, bc, b4, be, b5⟩, h2, h3, h4⟩ := h
  have e85 := (be.1 row hrow.1 hrow.2.1).1
  have hix := h3 x hx.1 hx.2
  have hnx := hN x hx.1 hx.2
  refine ⟨⟨⟨b1, fun j j0 j1 => ?_, b3⟩, ?_, b4, be, b5⟩, h2, ?_, ?_⟩
  · by_cases e : j = v
    · subst e; rw [q_up_eq]; exact b1 x hx.1 hx.2
    · rw [q_up_ne2 _ _ _ e]; exact b2 j j0 j1
  · obtain ⟨c1, c2, c3⟩ := bc
    show (0 ≤ σ 87 4 + cn ∧ σ 87 4 + cn ≤ n + 2) ∧ (0 ≤ σ 87 5 ∧ σ 87 5 ≤ n + 2) ∧ (0 ≤ σ 87 6 ∧ σ 87 6 ≤ n + 2)
    omega
  · refine INV_un (σ := σ) hp h3 hN v1 (fun j j0 j1 => q_up_ne2 _ _ _ (by omega)) (fun i _ _ _ => rfl) ?_
    refine IWX_new hp v0 v1 ?_ (q_up_eq _ _ _ _) ?_
    · show SBD G pl V ln v (σ 78 x)
      refine SB_n hp hL v0 v1 (by rw [hg]; unfold v_meet v_chk; dsimp only; omega) (Or.inr ⟨σ 78 x, by rw [hg]; exact hix.1, by rw [hg]; unfold v_chk; dsimp only; omega⟩) (Or.inr ⟨ln row, by rw [hg]; exact Or.inr (Or.inl ⟨rfl, rfl, hrow⟩), ?_⟩) (Or.inr ⟨0, by rw [hg]; exact Or.inl ⟨rfl, rfl⟩, ?_⟩)
      · rw [hg]; unfold v_chk; dsimp only; omega
      · rw [hg]; unfold v_chk; dsimp only; omega
    · intro _
      rw [hg]
      unfold v_chk
      dsimp only
      have hR := RT_b hp.1 hp.2.1.2.1 ((now x).toNat + 1) (now x) (by omega) hnx.1 (by omega)
      rw [q_up_ne2 _ _ _ (by omega)]
      have := hix.2.2
      show σ 80 (RT G (now x)).1 + (RT G (now x)).2 + 0 = σ 78 x
      omega
  · refine GIN_fr hp h4 (by omega) (fun l _ _ q => q) (fun j j0 j1 => q_up_ne2 _ _ _ (by omega)) (fun i => rfl)
/-- a value -/
theorem GSM_val (hp : PRO G pl V S K Ln) (hL : LNO pl ln) (h : GSM G pl V K ln m n o w l now σ) (m0 : 0 ≤ m) (hN : NWI now w) (w0 : 0 ≤ w) (w1 : w < V) {z : SB} (hz : 0 ≤ z.1.2.1 ∧ z.1.2.1 ≤ 7) (hg : gV G w = v_val z s (if z.1.2.2.1 = 3 then now z.1.2.2.2.1 else -1) k)
    (hy : (z.1.2.2.1 = 1 ∧ y = z.1.2.2.2.2 ∧ -99 ≤ y ∧ y ≤ 99) ∨ (z.1.2.2.1 = 2 ∧ y = σ 85 z.1.2.2.2.1 ∧ 0 ≤ z.1.2.2.2.1 ∧ z.1.2.2.2.1 ≤ 2 ∧ ¬ pl z.1.2.2.2.1 = -1) ∨ (z.1.2.2.1 = 3 ∧ y = σ 78 z.1.2.2.2.1 + z.1.2.2.2.2 ∧ 0 ≤ z.1.2.2.2.1 ∧ z.1.2.2.2.1 ≤ 7 ∧ -99 ≤ z.1.2.2.2.2 ∧ z.1.2.2.2.2 ≤ 99) ∨ ((z.1.2.2.1 = 4 ∨ z.1.2.2.1 = 5) ∧ B99 (m + 1) y)) :
    GSM G pl V K ln (m + 1) n o (w + 1) l (un now z.1.2.1 w) (q_up (q_up σ 78 z.1.2.1 y) 80 w y) := by
  obtain ⟨⟨⟨b1, b2, b3⟩, bc, b4, be, b5⟩, h2, h3, h4⟩ := h
  have hyb : B99 (m + 1) y := by
    unfold B99
    rcases hy with ⟨-, q, q1, q2⟩ | ⟨-, q, q1, q2, -⟩ | ⟨-, q, q1, q2, q3, q4⟩ | ⟨-, q⟩
    · omega
    · have := be.1 _ q1 q2; omega
    · have := b1 _ q1 q2; unfold B99 at this; omega
    · exact q
  have bm : BV (m + 1) V σ := BV_le ⟨b1, b2, b3⟩ (by omega)
  obtain ⟨bm1, bm2, bm3⟩ := bm
  refine ⟨⟨⟨fun j j0 j1 => ?_, fun j j0 j1 => ?_, bm3⟩, bc, b4, be, b5⟩, h2, ?_, ?_⟩
  · show B99 (m + 1) (q_up σ 78 z.1.2.1 y 78 j)
    by_cases e : j = z.1.2.1
    · subst e; rw [q_up_eq]; exact hyb
    · rw [q_up_ne2 _ _ _ e]; exact bm1 j j0 j1
  · by_cases e : j = w
    · subst e; rw [q_up_eq]; exact hyb
    · rw [q_up_ne2 _ _ _ e]; exact bm2 j j0 j1
  · refine INV_un (σ := σ) hp h3 hN w1 (fun j j0 j1 => q_up_ne2 _ _ _ (by omega)) (fun i _ _ q => q_up_ne2 _ _ _ q) ?_
    have e78 : q_up (q_up σ 78 z.1.2.1 y) 80 w y 78 z.1.2.1 = y := q_up_eq _ _ _ _
    have nm : ¬ v_meet (gV G w) := by rw [hg]; unfold v_meet v_val; dsimp only; omega
    refine IWX_new hp w0 w1 ?_ (by rw [e78]; exact q_up_eq _ _ _ _) ?_
    · rw [e78]
      rcases hy with ⟨q0, q1, q2, q3⟩ | ⟨q0, q1, q2, q3, q4⟩ | ⟨q0, q1, q2, q3, q4, q5⟩ | ⟨q0, q1⟩
      · have e : gV G w = ((z.1.2.1, 1, s, -1, -1), (0, -1, z.1.2.2.2.2), (0, (1, z.1.2.2.2.2, 0), (1, z.1.2.2.2.2, 0))) := by rw [hg]; unfold v_val; simp [q0]
        refine SB_n hp hL w0 w1 nm (Or.inl (by rw [e])) (Or.inr ⟨y, by rw [e]; exact Or.inl ⟨rfl, q1⟩, by rw [e]; dsimp only; omega⟩) (Or.inr ⟨y, by rw [e]; exact Or.inl ⟨rfl, q1⟩, by rw [e]; dsimp only; omega⟩)
      · have e : gV G w = ((z.1.2.1, 1, s, -1, -1), (2, z.1.2.2.2.1, z.1.2.2.2.2), (0, (2, z.1.2.2.2.1, 0), (2, z.1.2.2.2.1, 0))) := by rw [hg]; unfold v_val; simp [q0]
        have e85 := (be.1 _ q2 q3).1
        refine SB_n hp hL w0 w1 nm (Or.inl (by rw [e])) (Or.inr ⟨y, by rw [e]; exact Or.inr (Or.inl ⟨rfl, by rw [q1, e85], q2, q3, q4⟩), by rw [e]; dsimp only; omega⟩) (Or.inr ⟨y, by rw [e]; exact Or.inr (Or.inl ⟨rfl, by rw [q1, e85], q2, q3, q4⟩), by rw [e]; dsimp only; omega⟩)
      · have e : gV G w = ((z.1.2.1, 1, s, now z.1.2.2.2.1, -1), (1, z.1.2.2.2.1, z.1.2.2.2.2), (z.1.2.2.2.2, t0, t0)) := by rw [hg]; unfold v_val; simp [q0]
        exact SB_n hp hL w0 w1 nm (Or.inr ⟨σ 78 z.1.2.2.2.1, by rw [e]; exact (h3 _ q2 q3).1, by rw [e]; exact q1⟩) (Or.inl (by rw [e])) (Or.inl (by rw [e]))
      · have e : (gV G w).1.2.2.2.1 = -1 ∧ (gV G w).2.2.2 = (t0, t0) := by
          rw [hg]; unfold v_val
          rcases q0 with q0 | q0 <;> simp [q0]
        exact SB_n hp hL w0 w1 nm (Or.inl e.1) (Or.inl (by rw [e.2])) (Or.inl (by rw [e.2]))
    · intro hf
      rw [e78]
      rcases hy with ⟨q0, q1, q2, q3⟩ | ⟨q0, q1, q2, q3, q4⟩ | ⟨q0, q1, q2, q3, q4, q5⟩ | ⟨q0, q1⟩
      · exfalso
        have e : gV G w = ((z.1.2.1, 1, s, -1, -1), (0, -1, z.1.2.2.2.2), (0, (1, z.1.2.2.2.2, 0), (1, z.1.2.2.2.2, 0))) := by rw [hg]; unfold v_val; simp [q0]
        rw [e] at hf; unfold v_fol at hf; dsimp only at hf; omega
      · exfalso
        have e : gV G w = ((z.1.2.1, 1, s, -1, -1), (2, z.1.2.2.2.1, z.1.2.2.2.2), (0, (2, z.1.2.2.2.1, 0), (2, z.1.2.2.2.1, 0))) := by rw [hg]; unfold v_val; simp [q0]
        rw [e] at hf; unfold v_fol at hf; dsimp only at hf; omega
      · have e : gV G w = ((z.1.2.1, 1, s, now z.1.2.2.2.1, -1), (1, z.1.2.2.2.1, z.1.2.2.2.2), (z.1.2.2.2.2, t0, t0)) := by rw [hg]; unfold v_val; simp [q0]
        rw [e]
        dsimp only
        have hnx := hN _ q2 q3
        have hR := RT_b hp.1 hp.2.1.2.1 ((now z.1.2.2.2.1).toNat + 1) (now z.1.2.2.2.1) (by omega) hnx.1 (by omega)
        rw [q_up_ne2 _ _ _ (by omega), q_up_ne _ _ _ _ (by decide)]
        have := (h3 _ q2 q3).2.2
        omega
      · exfalso
        rw [hg] at hf; unfold v_fol v_val at hf; dsimp only at hf
        rcases q0 with q0 | q0 <;> simp [q0] at hf
  · refine GIN_fr hp h4 (by omega) (fun l _ _ q => q) (fun j j0 j1 => q_up_ne2 _ _ _ (by omega)) (fun i => rfl)
/-- a place is set -/
theorem GSM_sto (h : GSM G pl V K ln m n o v l now σ) {a : Nat} (ha : a = 82 ∨ a = 83 ∨ a = 84) {i : Int} (hx : 0 ≤ x ∧ x ≤ 7) : GSM G pl V K ln m n o v l now (q_up σ a i (σ 78 x)) := by
  obtain ⟨⟨⟨b1, b2, b3, b4, b5⟩, hb⟩, h2, h3, h4⟩ := h
  have bx := b1 x hx.1 hx.2
  have up : ∀ (f : Int → Int), (∀ j, 0 ≤ j → j < 40 → B99 m (f j)) → ∀ j, 0 ≤ j → j < 40 → B99 m (if j = i then σ 78 x else f j) := by
    intro f hf j j0 j1
    by_cases e : j = i
    · rw [if_pos e]; exact bx
    · rw [if_neg e]; exact hf j j0 j1
  have e : ∀ (b : Nat) (j : Int), q_up σ b i (σ 78 x) b j = if j = i then σ 78 x else σ b j := by
    intro b j
    by_cases e : j = i
    · subst e; rw [q_up_eq, if_pos rfl]
    · rw [q_up_ne2 _ _ _ e, if_neg e]
  rcases ha with rfl | rfl | rfl
  · exact ⟨⟨⟨b1, b2, fun j j0 j1 => by rw [e]; exact up _ b3 j j0 j1, b4, b5⟩, hb⟩, h2, h3, h4⟩
  · exact ⟨⟨⟨b1, b2, b3, fun j j0 j1 => by rw [e]; exact up _ b4 j j0 j1, b5⟩, hb⟩, h2, h3, h4⟩
  · exact ⟨⟨⟨b1, b2, b3, b4, fun j j0 j1 => by rw [e]; exact up _ b5 j j0 j1⟩, hb⟩, h2, h3, h4⟩
theorem GSM_out (h : GSM G pl V K ln m n o v l now σ) {i : Int} : GSM G pl V K ln m n (o + 1) v l now (q_up (q_up σ 86 i x) 87 3 (σ 87 3 + 1)) := by
  obtain ⟨⟨b1, b2, b3, b4⟩, h2, h3, h4⟩ := h
  refine ⟨⟨b1, b2, ?_, b4⟩, h2, h3, h4⟩
  show 0 ≤ σ 87 3 + 1 ∧ σ 87 3 + 1 ≤ o + 1
  omega
end RGB
