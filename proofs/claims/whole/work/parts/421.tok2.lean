/-- how far the text is split -/
def SPI (σ0 σ : St) (f : Int → Int) (n a : Int) : Prop := (∀ b i, ¬ (b = 5 ∧ i = 2) → ¬ b = 6 → ¬ b = 7 → ¬ b = 8 → σ b i = σ0 b i) ∧ 0 ≤ σ 5 2 ∧ σ 5 2 ≤ a ∧
  (∀ j, 0 ≤ j → j < σ 5 2 → σ 6 j = tk f n (σ 7 j) ∧ (tk f n (σ 7 j) = 262 → σ 8 j = tw f n (σ 7 j)) ∧ 0 ≤ σ 7 j ∧ σ 7 j < n ∧ (j + 1 < σ 5 2 → σ 7 (j + 1) = nx f n (σ 7 j)) ∧ (j + 1 = σ 5 2 → nx f n (σ 7 j) = sk f n a)) ∧ (σ 5 2 = 0 → sk f n a = sk f n 0) ∧ (0 < σ 5 2 → σ 7 0 = sk f n 0)
section TKM
variable {sc : Nat × (Nat → Int32)} {D : Nat} {bb : Bool} {σ σ0 : St} {Q : QP} {x a n m k w : Int} {f g : Int → Int}
theorem SPI_bl (h : SPI σ0 σ f n a) (hb : sk f n a = sk f n (a + 1)) : SPI σ0 σ f n (a + 1) := by
  obtain ⟨h1, h2, h3, h4, h5, h6⟩ := h
  rw [hb] at h4 h5
  exact ⟨h1, h2, by omega, h4, h5, h6⟩
theorem SPI_pt (h : SPI σ0 σ f n a) (h0 : 0 ≤ a) (ha : a < n) (hb : sk f n a = a) (hk : k = tk f n a) (hw : tk f n a = 262 → w = tw f n a) : SPI σ0 (PT σ k a w) f n (te f n a) := by
  obtain ⟨h1, h2, h3, h4, h5, h6⟩ := h
  have hte := te_gt (f := f) ha
  have p5 : PT σ k a w 5 2 = σ 5 2 + 1 := by unfold PT; rw [q_up_eq]
  have p7 : ∀ j, PT σ k a w 7 j = if j = σ 5 2 then a else σ 7 j := fun j => by
    unfold PT
    simp only [q_up_app, Nat.reduceEqDiff, false_and, if_false, true_and]
  have p6 : ∀ j, PT σ k a w 6 j = if j = σ 5 2 then k else σ 6 j := fun j => by
    unfold PT
    simp only [q_up_app, Nat.reduceEqDiff, false_and, if_false, true_and]
  have p8 : ∀ j, PT σ k a w 8 j = if j = σ 5 2 then w else σ 8 j := fun j => by
    unfold PT
    simp only [q_up_app, Nat.reduceEqDiff, false_and, if_false, true_and]
  refine ⟨fun b i b1 b2 b3 b4 => ?_, by omega, by omega, fun j j1 j2 => ?_, fun h => by omega, fun _ => ?_⟩
  · unfold PT
    rw [q_up_app, if_neg b1, q_up_ne _ _ _ _ b4, q_up_ne _ _ _ _ b3, q_up_ne _ _ _ _ b2]
    exact h1 b i b1 b2 b3 b4
  · rw [p5] at j2 ⊢
    rw [p6, p7, p8, p7]
    by_cases e : j = σ 5 2
    · rw [if_pos e, if_pos e, if_pos e, if_neg (by omega)]
      exact ⟨hk, hw, h0, ha, fun h => by omega, fun _ => rfl⟩
    · rw [if_neg e, if_neg e, if_neg e]
      obtain ⟨a1, a2, a3, a4, a5, a6⟩ := h4 j j1 (by omega)
      refine ⟨a1, a2, a3, a4, fun h => ?_, fun h => by omega⟩
      by_cases e2 : j + 1 = σ 5 2
      · rw [if_pos e2, a6 e2, hb]
      · rw [if_neg e2]
        exact a5 (by omega)
  · rw [p7]
    by_cases e : (0 : Int) = σ 5 2
    · rw [if_pos e, ← h5 e.symm, hb]
    · rw [if_neg e]
      exact h6 (by omega)
theorem c84_l (hs : σ0 5 1 = n) (hn : n ≤ 400) (hb : BYT f (σ0 1) n) : ∀ (d : Nat) (a : Int) (σ : St) (l2 : V2), (n - a).toNat = d → 0 ≤ a → a ≤ n → SPI σ0 σ f n a →
    (∀ σ' l2, SPI σ0 σ' f n n → qx sc (D + 3) 84 169 [vr 5, l2, l2, vi n] [] (0, 0) bb σ' Q → True) →
    (∀ σ' l1 l2, SPI σ0 σ' f n n → qx sc (D + 3) 84 169 [vr 5, vi l1, vi l2, vi n] [] (0, 0) bb σ' Q) →
    ∀ l1 l2, qx sc (D + 3) 84 22 [vr 5, vi l1, vi l2, vi a] [] (0, 0) bb σ Q := by
  intro d
  induction d using Nat.strongRecOn with
  | ind d ih =>
    intro a σ l2' hd h0 h1 hS _ kk l1 l2
    have hfr := hS.1
    have hs' : σ 5 1 = n := by rw [hfr 5 1 (by decide) (by decide) (by decide) (by decide), hs]
    have hg : σ 1 = σ0 1 := funext fun i => hfr 1 i (by omega) (by decide) (by decide) (by decide)
    have hb' : BYT f (σ 1) n := by rw [hg]; exact hb
    by_cases hlt : a < n
    · have hT : 0 ≤ σ 5 2 ∧ σ 5 2 < 401 := by have := hS.2.1; have := hS.2.2.1; omega
      have hby := BYT_by hb
      -- on behind a token
      have go : ∀ (e : Int) (σ' : St), a + 1 ≤ e → e ≤ n → SPI σ0 σ' f n e → qx sc (D + 3) 84 158 [vr 5, vi l1, vi e, vi a] [] (0, 0) bb σ' Q := by
        intro e σ' h2 h3 h4
        simp only [k84_158, k84_159, k84_160, k84_161, k84_162, k84_165, k84_166]
        refine ⟨by omega, ?_⟩
        rw [show max (a + 1) e = e by omega]
        exact ih _ (by omega) e σ' l2' rfl (by omega) h3 h4 (fun _ _ _ _ => trivial) kk _ _
      rw [k84_22]
      simp only [k84_23, k84_24, k84_27, k84_30, k84_31, k84_32, k84_33, k84_34, k84_35, k84_36, hs', c80 (show 0 ≤ a ∧ a < 400 by omega), q_kn_v, k84_39, BYT_let hb' h0 hlt, true_implies, false_implies, not_true_eq_false, not_false_eq_true, true_and, and_true, implies_true, or_true, true_or, or_false, false_or, Int.reduceEq, Int.one_ne_zero, Nat.reduceEqDiff]
      refine ⟨fun _ => ⟨by omega, fun hl => ?_, fun hl => ?_⟩, fun h => by omega⟩
      · simp only [k84_42, k84_43, k84_44]
        have hsk : sk f n a = a := t_run_fix (fun q => by have := q.2; rw [t_bl_iff] at this; rw [t_let_iff] at hl; omega)
        refine c85 h0 hlt hs' hn hb' hT hl ?_
        simp only [q_kn_v, k84_47, k84_48]
        have htk : tk f n a = t_wk f a (t_run t_let f n a - a) ∧ te f n a = t_run t_let f n a := by
          rcases tk_cases hby h0 hlt with ⟨k1, k2, k3, -⟩ | ⟨k1, -⟩ | ⟨k1, -⟩ | ⟨k1, -⟩
          · exact ⟨k2, k3⟩
          · rw [t_dg_iff] at k1; rw [t_let_iff] at hl; omega
          · rw [t_let_iff] at hl; omega
          · rw [hl] at k1; cases k1
        have hp := SPI_pt (w := 0) hS h0 hlt hsk htk.1.symm (fun e => by
          have := t_wk_cases (f := f) (p := a) (m := t_run t_let f n a - a)
          rw [htk.1] at e
          rw [t_let_iff] at hl
          omega)
        have h2 := te_gt (f := f) hlt
        have h3 := te_le (f := f) (n := n) (p := a) (by omega)
        rw [htk.2] at hp h2 h3
        exact go _ _ (by omega) h3 hp
      · simp only [k84_51, k84_52, k84_53, c79 (show 0 ≤ a ∧ a < 400 by omega), q_kn_v, k84_56, BYT_dg hb' h0 hlt, true_implies, false_implies, not_true_eq_false, not_false_eq_true, true_and, and_true, implies_true, or_true, true_or, or_false, false_or, Int.reduceEq, Int.one_ne_zero, Nat.reduceEqDiff]
        refine ⟨fun hd => ?_, fun hd => ?_⟩
        · simp only [k84_59, k84_60, k84_61]
          have hsk : sk f n a = a := t_run_fix (fun q => by have := q.2; rw [t_bl_iff] at this; rw [t_dg_iff] at hd; omega)
          have htk : tk f n a = (if t_run t_dg f n a - a ≤ 2 then 262 else 264) ∧ te f n a = t_run t_dg f n a := by
            rcases tk_cases hby h0 hlt with ⟨k1, -⟩ | ⟨k1, k2, k3, -⟩ | ⟨k1, -⟩ | ⟨-, k1, -⟩
            · exact absurd k1 hl
            · exact ⟨k2, k3⟩
            · rw [t_dg_iff] at hd; omega
            · rw [hd] at k1; cases k1
          refine c82 h0 hlt hs' hn hb' hT hd (fun w hw => ?_)
          simp only [q_kn_v, k84_64, k84_65]
          have hp := SPI_pt (w := w) hS h0 hlt hsk htk.1.symm (fun e => by
            rw [htk.1] at e
            split at e
            · rename_i h; exact hw h
            · omega)
          have h2 := te_gt (f := f) hlt
          have h3 := te_le (f := f) (n := n) (p := a) (by omega)
          rw [htk.2] at hp h2 h3
          exact go _ _ (by omega) h3 hp
        · have hga := hb' a h0 hlt
          have n1 : t_let (f a) = false := by simpa using hl
          have n2 : t_dg (f a) = false := by simpa using hd
          have e60 := BYT_eq hb' h0 hlt (c := 60) (by omega)
          have e9 := BYT_eq hb' h0 hlt (c := 9) (by omega)
          have e10 := BYT_eq hb' h0 hlt (c := 10) (by omega)
          have e32 := BYT_eq hb' h0 hlt (c := 32) (by omega)
          -- no two-byte sign
          have one : ¬ (f a = 60 ∧ a + 1 < n ∧ f (a + 1) = 61) → qx sc (D + 3) 84 113 [vr 5, vi l1, vi (a + 1), vi a] [] (0, 0) bb σ Q := by
            intro h3
            simp only [k84_113, k84_114, k84_117, k84_118, k84_119, k84_121, k84_124, k84_125, k84_128, k84_129, k84_130, k84_132, k84_135, k84_136, k84_139, k84_140, k84_141, k84_143, qt_1, ql_1, e9, e10, e32, true_implies, false_implies, not_true_eq_false, not_false_eq_true, true_and, and_true, implies_true, or_true, true_or, or_false, false_or, Int.reduceEq, Int.one_ne_zero, Nat.reduceEqDiff]
            refine ⟨by omega, fun q9 => ?_, fun q9 => ⟨by omega, fun q10 => ?_, fun q10 => ⟨by omega, fun q32 => ?_, fun q32 => ?_⟩⟩⟩
            · exact go _ _ (Int.le_refl _) (by omega) (SPI_bl hS (t_run_go hlt (t_bl_iff.mpr (Or.inl q9))))
            · exact go _ _ (Int.le_refl _) (by omega) (SPI_bl hS (t_run_go hlt (t_bl_iff.mpr (Or.inr (Or.inl q10)))))
            · exact go _ _ (Int.le_refl _) (by omega) (SPI_bl hS (t_run_go hlt (t_bl_iff.mpr (Or.inr (Or.inr q32)))))
            · simp only [k84_146, k84_147, k84_148, k84_151, k84_152, k84_153, k84_154, k84_155, qt_1, ql_1, c83 hT, q_kn_n, true_implies, false_implies, not_true_eq_false, not_false_eq_true, true_and, and_true, implies_true, or_true, true_or, or_false, false_or, Int.reduceEq, Int.one_ne_zero, Nat.reduceEqDiff]
              refine ⟨by omega, ?_⟩
              have hsk : sk f n a = a := t_run_fix (fun q => by have := q.2; rw [t_bl_iff] at this; omega)
              have htk : tk f n a = σ 1 a ∧ te f n a = a + 1 ∧ ¬ tk f n a = 262 := by
                rcases tk_cases hby h0 hlt with ⟨k1, -⟩ | ⟨k1, -⟩ | ⟨k1, k2, k3, -⟩ | ⟨-, -, -, k4, k5, k6, k7⟩
                · exact absurd k1 hl
                · exact absurd k1 hd
                · exact absurd ⟨k1, k2, k3⟩ h3
                · have := hga.1
                  split at this <;> exact ⟨by omega, k4, by omega⟩
              have hp := SPI_pt (w := 0) hS h0 hlt hsk htk.1.symm (fun e => absurd e htk.2.2)
              rw [htk.2.1] at hp
              exact go _ _ (Int.le_refl _) (by omega) hp
          simp only [k84_68, k84_69, k84_72, k84_73, k84_74, k84_76, k84_79, k84_80, k84_81, k84_84, qt_1, ql_1, hs', e60, true_implies, false_implies, not_true_eq_false, not_false_eq_true, true_and, and_true, implies_true, or_true, true_or, or_false, false_or, Int.reduceEq, Int.one_ne_zero, Nat.reduceEqDiff]
          refine ⟨by omega, fun q1 => ⟨fun q2 => ?_, fun q2 => one (fun h => q2 h.2.1)⟩, fun q1 => one (fun h => q1 h.1)⟩
          have e61 := BYT_eq hb' (show 0 ≤ a + 1 by omega) q2 (c := 61) (by omega)
          simp only [k84_87, k84_88, k84_91, k84_92, k84_93, k84_95, k84_98, k84_101, k84_102, k84_105, k84_106, k84_107, qt_1, ql_1, e61, c83 hT, q_kn_n, k84_110, true_implies, false_implies, not_true_eq_false, not_false_eq_true, true_and, and_true, implies_true, or_true, true_or, or_false, false_or, Int.reduceEq, Int.one_ne_zero, Nat.reduceEqDiff]
          refine ⟨by omega, fun q3 => ⟨by omega, ?_⟩, fun q3 => one (fun h => q3 h.2.2)⟩
          have hsk : sk f n a = a := t_run_fix (fun q => by have := q.2; rw [t_bl_iff] at this; omega)
          have htk : tk f n a = 263 ∧ te f n a = a + 2 := by
            rcases tk_cases hby h0 hlt with ⟨k1, -⟩ | ⟨k1, -⟩ | ⟨-, -, -, k4, k5⟩ | ⟨-, -, k3, -⟩
            · exact absurd k1 hl
            · exact absurd k1 hd
            · exact ⟨k4, k5⟩
            · exact absurd ⟨q1, q2, q3⟩ k3
          have hp := SPI_pt (w := 0) hS h0 hlt hsk htk.1.symm (fun e => by omega)
          rw [htk.2] at hp
          rw [show a + 1 + 1 = a + 2 by omega]
          exact go _ _ (by omega) (by omega) hp
    · have e : a = n := by omega
      subst e
      rw [k84_22]
      simp only [k84_23, k84_24, k84_27, hs']
      exact ⟨fun h => by omega, fun _ => kk σ l1 l2 hS⟩
theorem c84 (h0 : 0 ≤ n) (hn : n ≤ 400) (hb : BYT f (σ 1) n) (kk : ∀ σ' M, (∀ b i, ¬ (b = 5 ∧ (i = 1 ∨ i = 2)) → ¬ b = 6 → ¬ b = 7 → ¬ b = 8 → σ' b i = σ b i) → TKS σ' f n (σ' 7) M → Q (.inl none) bb σ') : qx sc (D + 3) 84 0 [vr 5, vi n, vn, vn] [] (0, 0) bb σ Q := by
  simp only [k84_0, k84_1, k84_2, k84_3, k84_6, k84_7, k84_10, k84_13, k84_14, k84_15, k84_18, k84_19, k84_20, k84_21, ql_1, qt_1, true_implies, false_implies, not_true_eq_false, not_false_eq_true, true_and, and_true, implies_true, or_true, true_or, or_false, false_or, Int.reduceEq, Int.one_ne_zero, Nat.reduceEqDiff]
  try refine ⟨by omega, ?_⟩
  rw [show min n 400 = n by omega]
  have hfr : ∀ b i, ¬ (b = 5 ∧ (i = 1 ∨ i = 2)) → q_up (q_up σ 5 1 n) 5 2 0 b i = σ b i := fun b i h => by
    rw [q_up_app, if_neg (by omega), q_up_app, if_neg (by omega)]
  have z1 : q_up (q_up σ 5 1 n) 5 2 0 5 1 = n := by rw [q_up_ne2 _ _ _ (by decide), q_up_eq]
  have z2 : q_up (q_up σ 5 1 n) 5 2 0 5 2 = 0 := q_up_eq _ _ _ _
  have z3 : q_up (q_up σ 5 1 n) 5 2 0 1 = σ 1 := funext fun i => hfr 1 i (by omega)
  generalize q_up (q_up σ 5 1 n) 5 2 0 = σ0 at *
  refine c84_l (f := f) z1 hn (by rw [z3]; exact hb) _ 0 σ0 vn rfl (by omega) h0 ⟨fun _ _ _ _ _ _ => rfl, by omega, by omega, fun j j1 j2 => by omega, fun _ => rfl, fun h => by omega⟩ (fun _ _ _ _ => trivial) (fun σ' l1 l2 hS => ?_) _ _
  obtain ⟨h1, h2, h3, h4, h5, h6⟩ := hS
  have hs' : σ' 5 1 = n := by rw [h1 5 1 (by decide) (by decide) (by decide) (by decide), z1]
  simp only [k84_169, k84_170, k84_171, k84_172, k84_175, k84_176, hs', c83 (show 0 ≤ σ' 5 2 ∧ σ' 5 2 < 401 by omega), q_kn_n, k84_179]
  have hnn : sk f n n = n := t_run_fix (by omega)
  have p5 : PT σ' (-1) n 0 5 2 = σ' 5 2 + 1 := by unfold PT; rw [q_up_eq]
  have p7 : ∀ j, PT σ' (-1) n 0 7 j = if j = σ' 5 2 then n else σ' 7 j := fun j => by
    unfold PT
    simp only [q_up_app, Nat.reduceEqDiff, false_and, if_false, true_and]
  have p6 : ∀ j, PT σ' (-1) n 0 6 j = if j = σ' 5 2 then -1 else σ' 6 j := fun j => by
    unfold PT
    simp only [q_up_app, Nat.reduceEqDiff, false_and, if_false, true_and]
  have p8 : ∀ j, PT σ' (-1) n 0 8 j = if j = σ' 5 2 then 0 else σ' 8 j := fun j => by
    unfold PT
    simp only [q_up_app, Nat.reduceEqDiff, false_and, if_false, true_and]
  have htk : tk f n n = -1 := (tk_past (Int.le_refl _)).1
  refine kk _ (σ' 5 2) (fun b i b1 b2 b3 b4 => ?_) ⟨h2, by omega, fun j j1 j2 => ?_, fun j j1 j2 => ?_, ?_, ?_⟩
  · unfold PT
    rw [q_up_app, if_neg (by omega), q_up_ne _ _ _ _ b4, q_up_ne _ _ _ _ b3, q_up_ne _ _ _ _ b2, h1 b i (by omega) b2 b3 b4]
    exact hfr b i b1
  · rw [p6, p7, p8]
    by_cases e : j = σ' 5 2
    · rw [if_pos e, if_pos e, if_pos e, htk]
      exact ⟨rfl, rfl, fun h => by omega, h0⟩
    · rw [if_neg e, if_neg e, if_neg e]
      obtain ⟨a1, a2, a3, -⟩ := h4 j j1 (by omega)
      exact ⟨rfl, a1, a2, a3⟩
  · obtain ⟨a1, a2, a3, a4, a5, a6⟩ := h4 j j1 (by omega)
    rw [p7, if_neg (by omega), p7]
    refine ⟨a4, ?_⟩
    by_cases e : j + 1 = σ' 5 2
    · rw [if_pos e, a6 e, hnn]
    · rw [if_neg e]
      exact a5 (by omega)
  · rw [p7, if_pos rfl]
    exact Int.le_refl _
  · rw [p7]
    by_cases e : (0 : Int) = σ' 5 2
    · rw [if_pos e, ← h5 e.symm, hnn]
    · rw [if_neg e]
      exact h6 (by omega)
end TKM
