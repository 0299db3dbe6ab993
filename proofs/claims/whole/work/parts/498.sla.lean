/-! solve and solveAll, whole -/
section SLA
variable {sc : Nat × (Nat → Int32)} {D : Nat} {bb : Bool} {Q : QP} {c a V v : Nat} {σ C r : St} {G : GT} {pl q : Int → Int} {b wo tn m N i M B : Int} {X Y : Nat → Option Int} {E : LE} {thr : Nat → Option Int}
theorem RW_ext (h : ∀ v, v < V → X v = Y v) : RW r a X V = RW r a Y V := by
  funext a' j
  unfold RW q_upf
  by_cases e : a' = a
  · rw [if_pos e, if_pos e]
    dsimp only
    by_cases e3 : 0 ≤ j ∧ j < V
    · rw [if_pos e3, if_pos e3, h _ (by omega)]
    · rw [if_neg e3, if_neg e3]
  · rw [if_neg e, if_neg e]
theorem it_XUP (hW : ∀ i : Int, 0 ≤ i → i < V → WV G pl V i) (hq : QPL q) (hb : 0 ≤ b ∧ b ≤ 3) (hB : 99 ≤ B) (hM : M ≤ B) : ∀ t : Nat, XUP B V (l_it (E_G G q b wo) (thC G M) V 99999 t) := by
  intro t
  induction t with
  | zero => intro v _ z hz; cases hz; omega
  | succ t ih => exact l_sw_up hW hq hb hB hM ih V (Nat.le_refl _)
theorem it_XLO (hW : ∀ i : Int, 0 ≤ i → i < V → WV G pl V i) (hl : l_W (E_G G q b wo) V) (h240 : V ≤ 240) : ∀ t : Nat, XLO V (l_it (E_G G q b wo) (thC G M) V 99999 t) := by
  intro t
  induction t with
  | zero => intro v _ z hz; cases hz; decide
  | succ t ih => exact l_sw_lo hW hl h240 ih V (Nat.le_refl _)
/-- what is summed over the versions -/
theorem E_G_sums (hW : ∀ i : Int, 0 ≤ i → i < V → WV G pl V i) : ∀ v : Nat, v ≤ V → l_sm (l_pl (E_G G q b wo)) v + l_sm (l_dn (E_G G q b wo)) v ≤ 98 * l_sm (e_as G) v + v - l_nr (e_rd G) v ∧ l_nr (e_rd G) v + l_sm (e_as G) v ≤ v ∧ 0 ≤ l_nr (e_rd G) v ∧ 0 ≤ l_sm (e_as G) v ∧ 0 ≤ l_sm (l_pl (E_G G q b wo)) v := by
  intro v
  induction v with
  | zero => intro _; simp [l_sm, l_nr]
  | succ v ih =>
    intro hv
    have := ih (by omega)
    obtain ⟨nf, nt, e1, e2, e3, e4, e5, e6⟩ := E_G_up (q := q) (b := b) (wo := wo) hW (show v < V by omega)
    have : 0 ≤ e_as G v ∧ e_as G v ≤ 1 := by unfold e_as; split <;> decide
    have : 0 ≤ (if e_rd G v = true then (1 : Int) else 0) := by split <;> decide
    unfold l_nr at *
    simp only [l_sm] at *
    omega
theorem few_moves (hW : ∀ i : Int, 0 ≤ i → i < V → WV G pl V i) (hl : l_W (E_G G q b wo) V) (h240 : V ≤ 240) (hA : l_sm (e_as G) V ≤ 40) (hM0 : 0 ≤ M) (hM : M ≤ 99 + l_sm (l_pl (E_G G q b wo)) V) (t : Nat) (h : ∀ u, u < t → mvB G (E_G G q b wo) (thC G M) (l_it (E_G G q b wo) (thC G M) V 99999 u) V = true) : t ≤ 980000 := by
  have hd := l_dn_100 (q := q) (b := b) (wo := wo) hW V (Nat.le_refl _)
  obtain ⟨s1, s2, s3, s4, s5⟩ := E_G_sums (q := q) (b := b) (wo := wo) hW V (Nat.le_refl _)
  by_cases ht : t ≤ 1
  · omega
  have h1 := l_moves_lt (rd := e_rd G) (M := M) (thr := thC G M) hl (show 200 + l_sm (l_dn (E_G G q b wo)) V ≤ 99999 by omega) (fun v _ hr => by unfold thC; rw [if_pos hr]) (by omega) (t - 1) (fun u hu => ?_)
  · generalize l_nr (e_rd G) V = R at *
    generalize l_sm (l_dn (E_G G q b wo)) V = dn at *
    generalize l_sm (l_pl (E_G G q b wo)) V = pz at *
    generalize l_sm (e_as G) V = A at *
    by_cases hA2 : A ≤ 34
    · have h2 : R * (M + 201 + dn) ≤ 240 * 3900 := Int.mul_le_mul (by omega) (by omega) (by omega) (by decide)
      omega
    · have h2 : R * (M + 201 + dn) ≤ 205 * 4500 := Int.mul_le_mul (by omega) (by omega) (by omega) (by decide)
      omega
  · obtain ⟨v, hv, hr, hne⟩ := (mvB_t V).mp (h (u + 1) (by omega))
    exact ⟨v, hv, hr, hne⟩
/-- when nothing has moved, they are found -/
theorem it_found (hW : ∀ i : Int, 0 ≤ i → i < V → WV G pl V i) (hl : l_W (E_G G q b wo) V) (h240 : V ≤ 240) (hs : ∀ v, v < V → ∀ z, l_L (E_G G q b wo) V v = some z → z ≤ M) (t : Nat) (h : ¬ mvB G (E_G G q b wo) (thC G M) (l_it (E_G G q b wo) (thC G M) V 99999 t) V = true) : ∀ v, v < V → l_it (E_G G q b wo) (thC G M) V 99999 (t + 1) v = l_L (E_G G q b wo) V v := by
  have hd := l_dn_100 (q := q) (b := b) (wo := wo) hW V (Nat.le_refl _)
  have hK : 200 + l_sm (l_dn (E_G G q b wo)) V ≤ 99999 := by omega
  obtain ⟨lp, ll⟩ := l_L_ok hl
  have hrd : ∀ v, v < V → ¬ e_rd G v = true → ∀ a b', E_G G q b wo v = .inl (a, b') → b' < v := by
    intro v hv hr a b' e
    have hw := hW v (by omega) (by omega)
    unfold E_G at e
    by_cases hm : v_meet (gV G v)
    · rw [if_pos hm] at e
      have m5 : (gV G v).1.2.1 = 5 := by
        rcases hm with h | h
        · exact h
        · exact absurd (decide_eq_true h) hr
      have := (WV_m hw hm).2.2.2 m5
      have := (WV_m hw hm).2.1
      cases e
      omega
    · rw [if_neg hm] at e
      cases e
  have hsd := l_it_sound (thr := thC G M) hl lp (fun v hv m z hm hz => by
    unfold thC at hm
    split at hm
    · cases hm; exact hs v hv z hz
    · cases hm) hK
  have fixed : ∀ u : Nat, (∀ v, v < V → l_it (E_G G q b wo) (thC G M) V 99999 (u + 2) v = l_it (E_G G q b wo) (thC G M) V 99999 (u + 1) v) → ∀ v, v < V → l_it (E_G G q b wo) (thC G M) V 99999 (u + 1) v = l_L (E_G G q b wo) V v := by
    intro u hu
    exact l_fix hl ll (hsd (u + 1)) (l_it_fix (u + 1) hu hl)
  cases t with
  | zero =>
    refine fixed 0 (l_it_still hl (rd := fun v => e_rd G v = true) hrd 0 (fun v hv hr => ?_))
    exfalso
    refine h ((mvB_t V).mpr ⟨v, hv, hr, fun e => ?_⟩)
    have e0 : l_it (E_G G q b wo) (thC G M) V 99999 0 v = some (-99999) := rfl
    rw [e0] at e
    have := l_sw_low (thr := thC G M) hl V (Nat.le_refl _) v hv (-99999) e
    have := l_dn_100 (q := q) (b := b) (wo := wo) hW (v + 1) (by omega)
    omega
  | succ u =>
    have hst := l_it_still hl (thr := thC G M) (K := 99999) (rd := fun v => e_rd G v = true) hrd u (fun v hv hr => Classical.byContradiction (fun hne => h ((mvB_t V).mpr ⟨v, hv, hr, hne⟩)))
    intro v hv
    rw [hst v hv]
    exact fixed u hst v hv
/-- solve -/
theorem n6 (hc : q_C c) (h : CV c C r G V pl) (ha : ROW a) (hb : 0 ≤ b ∧ b ≤ 3) (hp : ¬ b = 3 → ¬ pl b = -1) (hA : l_sm (e_as G) V ≤ 40) (kk : Q (.inl none) bb (NS c C (RW r a (l_L (E_G G (q_of pl) b wo) V) V))) : qx sc (D + 3) 6 0 [vr 55, vr a, vi b, vi wo, vn, vn, vn, vn, vn] [] (0, 0) bb (NS c C r) Q := by
  have hW : ∀ i : Int, 0 ≤ i → i < V → WV G pl V i := fun i i0 i1 => (h.1 i i0 i1).2
  have hq := CV_q h
  have hl := E_G_W (b := b) (wo := wo) hW hq hb
  have h240 := h.2.2.1
  have e9 : NS c C r 9 0 = V := by rw [NS_lo hc (by decide) (by decide)]; exact h.2.1
  obtain ⟨t1, t2, t3, t4, t5⟩ := ha
  have ha : ROW a := ⟨t1, t2, t3, t4, t5⟩
  obtain ⟨tn, htn⟩ : ∃ tn : Int, tn = if b = 3 then -1 else 1 := ⟨_, rfl⟩
  have htn' : tn = 1 ∨ tn = -1 := by rw [htn]; split <;> omega
  simp only [k6_0, k6_1, k6_2]
  refine n4 hc h htn ?_
  have b1 := mf_m_b htn' hW V (Nat.le_refl _)
  have b2 := mf_r_b htn' hW V (Nat.le_refl _)
  have eR : l_sm (mf_r G tn) V = l_sm (l_pl (E_G G (q_of pl) b wo)) V := l_sm_eq V (fun v hv => mf_r_eq hW htn hv)
  have hs : ∀ v, v < V → ∀ z, l_L (E_G G (q_of pl) b wo) V v = some z → z ≤ mf_m G tn V + l_sm (mf_r G tn) V := by
    intro v hv z hz
    obtain ⟨lp, ll⟩ := l_L_ok hl
    rw [eR]
    refine l_small hl lp ll (B := mf_m G tn V) (fun w hw fr cst e => ?_) hv hz
    have hw' := hW w (by omega) (by omega)
    obtain ⟨g1, g2⟩ := mf_m_ge htn' hW V (Nat.le_refl _) w hw
    obtain ⟨-, u1, u2⟩ := WV_a hw'
    unfold E_G at e
    split at e
    · cases e
    · simp only [Sum.inr.injEq, Prod.mk.injEq] at e
      obtain ⟨-, e⟩ := e
      split at e
      · cases e
      · have tk := TOK_tt (b := b) ⟨u1, u2⟩
        unfold e_tm at e
        obtain ⟨tk0, tk⟩ := tk
        split at e
        · rename_i k1
          simp only [Sum.inl.injEq, Option.some.injEq] at e
          unfold e_tt at e k1 tk0
          by_cases b3 : b = 3
          · simp only [if_pos b3] at e k1 tk0 htn
            have := g2 k1
            rw [htn] at this ⊢
            omega
          · simp only [if_neg b3] at e k1 tk0 htn
            have := g1 k1
            have := hq b (by omega) (by omega)
            rw [htn] at *
            omega
        · split at e
          · have := hq (e_tt b (gV G w)).2.1 (by omega) (by omega)
            split at e
            · simp only [Sum.inl.injEq, Option.some.injEq] at e; omega
            · split at e
              · simp only [Sum.inl.injEq, Option.some.injEq] at e; omega
              · cases e
          · split at e <;> cases e
  generalize hM : mf_m G tn V + l_sm (mf_r G tn) V = M at *
  have hM0 : 0 ≤ M := by omega
  have hMB : M ≤ 24000 := by omega
  have hMl : M ≤ 99 + l_sm (l_pl (E_G G (q_of pl) b wo)) V := by omega
  have VN : (0 : Int) ≤ (V : Int) := by omega
  simp only [q_kn_v, k6_5, k6_7, k6_8, k6_9, k6_10, k6_13, k6_16, k6_18, e9]
  refine c250 t1 (by rw [t2]; decide) (by decide) VN (by rw [t2]; omega) ?_
  rw [NS_uf hc t3 t4]
  have e0 : q_upf r a (fun j => if 0 ≤ j ∧ j < (V : Int) then -99999 else NS c C r a j) = RW r a (l_it (E_G G (q_of pl) b wo) (thC G M) V 99999 0) V := by
    unfold RW
    congr 1
    funext j
    rw [NS_lo hc t3 t4]
    rfl
  rw [e0]
  simp only [q_kn_n, k6_21, k6_22, k6_24, k6_25]
  have loop : ∀ (d t : Nat) (l7 l8 : V2), t + d = 990000 → (∀ u, u < t → mvB G (E_G G (q_of pl) b wo) (thC G M) (l_it (E_G G (q_of pl) b wo) (thC G M) V 99999 u) V = true) → qx sc (D + 3) 6 27 [vr 55, vr a, vi b, vi wo, vi M, vi 1, vi t, l7, l8] [] (0, 0) bb (NS c C (RW r a (l_it (E_G G (q_of pl) b wo) (thC G M) V 99999 t) V)) Q := by
    intro d
    induction d with
    | zero =>
      intro t l7 l8 ht hmv
      have := few_moves hW hl h240 hA hM0 hMl t hmv
      omega
    | succ d ih =>
      intro t l7 l8 ht hmv
      have t1M : (t : Int) < 1000000 := by omega
      rw [k6_27]
      simp only [k6_29, k6_32, k6_34, k6_36, k6_39, k6_40, k6_42, k6_43, t1M, true_implies, false_implies, not_true_eq_false, not_false_eq_true, true_and, and_true, implies_true, or_true, true_or, or_false, false_or, Int.reduceEq, Int.one_ne_zero, Nat.reduceEqDiff]
      refine n6_i (B := 24000) hc h ha hb hp (by decide) ⟨hM0, hMB⟩ (it_XUP hW hq hb (by decide) hMB t) (it_XLO hW hl h240 t) (fun l8 => ?_) V 0 _ (by omega)
      simp only [k6_132, k6_135]
      refine ⟨by omega, ?_⟩
      by_cases hm : mvB G (E_G G (q_of pl) b wo) (thC G M) (l_it (E_G G (q_of pl) b wo) (thC G M) V 99999 t) V = true
      · rw [if_pos hm]
        have := ih (t + 1) (vi V) l8 (by omega) (fun u hu => by
          by_cases e : u = t
          · subst e; exact hm
          · exact hmv u (by omega))
        rw [Int.natCast_add] at this
        exact this
      · rw [if_neg hm, k6_27]
        simp only [k6_29, k6_138, true_implies, false_implies, not_true_eq_false, not_false_eq_true, true_and, and_true, implies_true, or_true, true_or, or_false, false_or, Int.reduceEq, Int.one_ne_zero, Nat.reduceEqDiff]
        have hf := it_found hW hl h240 hs t hm
        have e1 : l_it (E_G G (q_of pl) b wo) (thC G M) V 99999 (t + 1) = l_sw (E_G G (q_of pl) b wo) (thC G M) V (l_it (E_G G (q_of pl) b wo) (thC G M) V 99999 t) := rfl
        rw [e1] at hf
        rw [RW_ext hf]
        exact kk
  exact loop 990000 0 _ _ (by omega) (fun u hu => by omega)
/-- solveAll -/
theorem ROW_b {bs k : Nat} (hbs : bs = 56 ∨ bs = 61) (hk : k ≤ 3) : ROW (bs + 1 + k) := by
  have : k = 0 ∨ k = 1 ∨ k = 2 ∨ k = 3 := by omega
  rcases hbs with rfl | rfl <;> rcases this with rfl | rfl | rfl | rfl
  · exact ⟨qt_57, ql_57, by decide, by decide, by decide⟩
  · exact ⟨qt_58, ql_58, by decide, by decide, by decide⟩
  · exact ⟨qt_59, ql_59, by decide, by decide, by decide⟩
  · exact ⟨qt_60, ql_60, by decide, by decide, by decide⟩
  · exact ⟨qt_62, ql_62, by decide, by decide, by decide⟩
  · exact ⟨qt_63, ql_63, by decide, by decide, by decide⟩
  · exact ⟨qt_64, ql_64, by decide, by decide, by decide⟩
  · exact ⟨qt_65, ql_65, by decide, by decide, by decide⟩
theorem n7_l (hc : q_C c) {bs : Nat} (hbs : bs = 56 ∨ bs = 61) (hA : l_sm (e_as G) V ≤ 40) {l1 : V2} : ∀ (d k : Nat) (r : St), k + d = 4 → CV c C r G V pl →
    (∀ r' : St, (∀ k' : Nat, k ≤ k' → k' ≤ 3 → (k' = 3 ∨ ¬ pl k' = -1) → ∀ v : Nat, v < V → r' (bs + 1 + k') v = enC (l_L (E_G G (q_of pl) k' wo) V v)) → (∀ a' i, ¬ (bs + 1 + k ≤ a' ∧ a' ≤ bs + 4) → r' a' i = r a' i) → Q (.inl none) bb (NS c C r')) →
    qx sc (D + 4) 7 8 [vr 55, l1, vr bs, vi wo, vi k] [] (0, 0) bb (NS c C r) Q := by
  intro d
  induction d with
  | zero =>
    intro k r hk h kk
    have e : k = 4 := by omega
    subst e
    rw [k7_8]
    simp only [k7_10, k7_11, k7_51]
    exact ⟨fun hh => absurd hh (by decide), fun _ => kk r (fun k' h1 h2 => by omega) (fun _ _ _ => rfl)⟩
  | succ d ih =>
    intro k r hk h kk
    have e55 : NS c C r 55 1 = c := by rw [NS_lo hc (by decide) (by decide)]; exact h.2.2.2.2
    have k4 : (k : Int) < 4 := by omega
    have k0 : (0 : Int) ≤ (k : Int) := by omega
    have hR := ROW_b hbs (show k ≤ 3 by omega)
    have hbt : q_ty bs = 4 ∧ q_ln bs = 4 := by
      rcases hbs with rfl | rfl
      · exact ⟨qt_56, ql_56⟩
      · exact ⟨qt_61, ql_61⟩
    have yes : (k = 3 ∨ ¬ pl k = -1) → qx sc (D + 4) 7 34 [vr 55, l1, vr bs, vi wo, vi k] [] (0, 0) bb (NS c C r) Q := by
      intro hy
      simp only [k7_34, k7_35, k7_36, k7_38, k7_39, k7_41, k7_42, hbt.1, hbt.2, k0, k4, true_implies, false_implies, not_true_eq_false, not_false_eq_true, true_and, and_true, implies_true, or_true, true_or, or_false, false_or, Int.reduceEq, Int.one_ne_zero, Nat.reduceEqDiff, Int.toNat_natCast]
      refine n6 hc h hR (by omega) (fun h3 => ?_) hA ?_
      · rcases hy with e | e
        · exact absurd (by omega) h3
        · exact e
      · simp only [q_kn_n, k7_45, k7_48]
        refine ⟨by omega, ?_⟩
        have := ih (k + 1) (RW r (bs + 1 + k) (l_L (E_G G (q_of pl) k wo) V) V) (by omega) (CV_RW hR h) (fun r' g1 g2 => kk r' (fun k' h1 h2 h3 v hv => ?_) (fun a' i hn => ?_))
        · rw [Int.natCast_add] at this
          exact this
        · by_cases e : k' = k
          · subst e
            rw [g2 _ _ (by omega)]
            exact RW_at hv
          · exact g1 k' (by omega) h2 h3 v hv
        · rw [g2 a' i (by omega), RW_ne (by omega)]
    have no : ¬ (k = 3 ∨ ¬ pl k = -1) → qx sc (D + 4) 7 45 [vr 55, l1, vr bs, vi wo, vi k] [] (0, 0) bb (NS c C r) Q := by
      intro hn
      simp only [k7_45, k7_48]
      refine ⟨by omega, ?_⟩
      have := ih (k + 1) r (by omega) h (fun r' g1 g2 => kk r' (fun k' h1 h2 h3 v hv => ?_) (fun a' i hn => g2 a' i (by omega)))
      · rw [Int.natCast_add] at this
        exact this
      · by_cases e : k' = k
        · subst e
          exact absurd h3 hn
        · exact g1 k' (by omega) h2 h3 v hv
    rw [k7_8]
    simp only [k7_10, k7_11, k7_14, k7_16, k7_17, k4, true_implies, false_implies, not_true_eq_false, not_false_eq_true, true_and, and_true, implies_true, or_true, true_or, or_false, false_or, Int.reduceEq, Int.one_ne_zero, Nat.reduceEqDiff]
    refine ⟨fun h3 => yes (Or.inl (by omega)), fun h3 => ?_⟩
    have ep := h.2.2.2.1 k (by omega)
    simp only [k7_20, k7_21, e55, c_nn, Int.toNat_natCast, k7_24 hc, k7_27, k7_29, k7_30, k7_31, true_implies, false_implies, not_true_eq_false, not_false_eq_true, true_and, and_true, implies_true, or_true, true_or, or_false, false_or, Int.reduceEq, Int.one_ne_zero, Nat.reduceEqDiff, qtc_1 hc, qlc_1 hc, NS_g (j := 1) hc (by decide), ep.1]
    exact ⟨by omega, fun hn => no (by omega), fun hn => yes (Or.inr hn)⟩
/-- the class knows its versions, but for the field code -/
def CV0 (C r : St) (G : GT) (V : Nat) (pl : Int → Int) : Prop := (∀ i : Int, 0 ≤ i → i < V → VRokC r i (gV G i) ∧ WV G pl V i) ∧ r 9 0 = V ∧ V ≤ 240 ∧ (∀ k, k = 0 ∨ k = 1 ∨ k = 2 → C 1 k = pl k ∧ -1 ≤ pl k ∧ pl k ≤ 20)
theorem CV0_CV (h : CV0 C r G V pl) : CV c C (q_up r 55 1 c) G V pl := by
  obtain ⟨h1, h2, h3, h4⟩ := h
  refine ⟨fun i i0 i1 => ⟨VRokC_low (h1 i i0 i1).1 (fun a' j ha' => q_up_ne _ _ _ _ (by omega)), (h1 i i0 i1).2⟩, ?_, h3, h4, q_up_eq _ _ _ _⟩
  rw [q_up_ne _ _ _ _ (by decide)]
  exact h2
theorem n7 (hc : q_C c) {bs : Nat} (hbs : bs = 56 ∨ bs = 61) (hA : l_sm (e_as G) V ≤ 40) (h : CV0 C r G V pl)
    (kk : ∀ r' : St, (∀ k' : Nat, k' ≤ 3 → (k' = 3 ∨ ¬ pl k' = -1) → ∀ v : Nat, v < V → r' (bs + 1 + k') v = enC (l_L (E_G G (q_of pl) k' wo) V v)) → (∀ a' i, ¬ (bs + 1 ≤ a' ∧ a' ≤ bs + 4) → ¬ (a' = 55 ∧ i = 1) → r' a' i = r a' i) → r' 55 1 = (c : Int) → Q (.inl none) bb (NS c C r')) :
    qx sc (D + 4) 7 0 [vr 55, vr c, vr bs, vi wo, vn] [] (0, 0) bb (NS c C r) Q := by
  have u55 : ∀ x, q_up (NS c C r) 55 1 x = NS c C (q_up r 55 1 x) := fun x => NS_u hc (by decide) (by decide)
  simp only [k7_0, k7_1, k7_2, k7_5, k7_6, u55]
  refine ⟨by unfold q_C at hc; omega, n7_l hc hbs hA 4 0 _ (by omega) (CV0_CV h) (fun r' g1 g2 => kk r' (fun k' h2 h3 v hv => g1 k' (by omega) h2 h3 v hv) (fun a' i n1 n2 => ?_) ?_)⟩
  · rw [g2 a' i (by omega), q_up_app, if_neg n2]
  · rw [g2 55 1 (by omega), q_up_eq]
end SLA
