section RFA
variable {sc : Nat × (Nat → Int32)} {D : Nat} {bb : Bool} {Q : QP} {V S K Ln Cn v : Nat} {σ σ' : St} {G : GT} {pl q : Int → Int} {b n x y wo i M : Int} {X Y : Nat → Option Int}
theorem itR_RBG (hW : ∀ i : Int, 0 ≤ i → i < V → WV G pl V i) (hl : l_W (E_G G q b wo) V) (h240 : V ≤ 240) : ∀ t : Nat, ∀ w : Nat, w < V → RBG (l_it (E_G G q b wo) thR V 268435456 t w) := by
  intro t
  induction t with
  | zero => intro w _ a ha; cases ha; decide
  | succ t ih => exact sw_RBG hW hl h240 ih (Nat.le_refl _)
theorem few_movesR (hW : ∀ i : Int, 0 ≤ i → i < V → WV G pl V i) (hl : l_W (E_G G q b wo) V) (h240 : V ≤ 240) (t : Nat) (h : ∀ u, u < t → mvA (E_G G q b wo) thR (l_it (E_G G q b wo) thR V 268435456 u) V = true) : t ≤ 11000000 := by
  have hd := l_dn_100 (q := q) (b := b) (wo := wo) hW V (Nat.le_refl _)
  by_cases ht : t ≤ 1
  · omega
  have h1 := l_moves_lt (rd := fun _ => true) (M := 20000) (thr := thR) hl (show 200 + l_sm (l_dn (E_G G q b wo)) V ≤ 268435456 by omega) (fun v _ hr => rfl) (by omega) (t - 1) (fun u hu => ?_)
  · have e : l_nr (fun _ => true) V = V := by
      unfold l_nr
      simp only [if_true]
      exact l_sm_1 V
    rw [e] at h1
    have h2 : (V : Int) * (20000 + 201 + l_sm (l_dn (E_G G q b wo)) V) ≤ 240 * 45000 := Int.mul_le_mul (by omega) (by omega) (by omega) (by decide)
    omega
  · obtain ⟨v, hv, hne⟩ := (mvA_t V).mp (h (u + 1) (by omega))
    exact ⟨v, hv, rfl, hne⟩
theorem itR_found (hW : ∀ i : Int, 0 ≤ i → i < V → WV G pl V i) (hl : l_W (E_G G q b wo) V) (h240 : V ≤ 240) (hA : l_sm (e_as G) V ≤ 40) (hq : QPL q) (hb : 0 ≤ b ∧ b ≤ 3) (t : Nat) (h : ¬ mvA (E_G G q b wo) thR (l_it (E_G G q b wo) thR V 268435456 t) V = true) : ∀ v, v < V → l_it (E_G G q b wo) thR V 268435456 (t + 1) v = l_L (E_G G q b wo) V v := by
  have hd := l_dn_100 (q := q) (b := b) (wo := wo) hW V (Nat.le_refl _)
  obtain ⟨s1, s2, s3, s4, s5⟩ := E_G_sums (q := q) (b := b) (wo := wo) hW V (Nat.le_refl _)
  obtain ⟨lp, ll⟩ := l_L_ok hl
  have same : ∀ v, v < V → l_it (E_G G q b wo) thR V 268435456 (t + 1) v = l_it (E_G G q b wo) thR V 268435456 t v := fun v hv => Classical.byContradiction (fun hne => h ((mvA_t V).mpr ⟨v, hv, hne⟩))
  have hs : ∀ v, v < V → ∀ m z, thR v = some m → l_L (E_G G q b wo) V v = some z → z ≤ m := by
    intro v hv m z hm hz
    cases hm
    have := l_small hl lp ll (B := 99) (fun w hw fr cst e => ?_) hv hz
    · omega
    · obtain ⟨-, u1, u2⟩ := WV_a (hW w (by omega) (by omega))
      unfold E_G at e
      split at e
      · cases e
      · simp only [Sum.inr.injEq, Prod.mk.injEq] at e
        obtain ⟨-, e⟩ := e
        split at e
        · cases e
        · obtain ⟨tk0, tk⟩ := TOK_tt (b := b) ⟨u1, u2⟩
          generalize e_tt b (gV G w) = τ at *
          unfold e_tm at e
          split at e
          · simp only [Sum.inl.injEq, Option.some.injEq] at e
            split at e
            · omega
            · have := hq b (by omega) (by omega); omega
          · split at e
            · have := hq τ.2.1 (by omega) (by omega)
              split at e
              · simp only [Sum.inl.injEq, Option.some.injEq] at e; omega
              · split at e
                · simp only [Sum.inl.injEq, Option.some.injEq] at e; omega
                · cases e
            · split at e <;> cases e
  have hsd := l_it_sound (thr := thR) hl lp hs (show 200 + l_sm (l_dn (E_G G q b wo)) V ≤ 268435456 by omega) t
  have := l_fix hl ll hsd (l_it_fix t same hl)
  intro v hv
  rw [same v hv]
  exact this v hv
/-- bounds -/
theorem m134 (hk : RK σ G pl V S K Ln Cn) (hp : PRO G pl V S K Ln) (hx : VXP G V S K) (hs : SIL σ G K wo) (hq : QPL (q_of pl)) (hb : 0 ≤ b ∧ b ≤ 3) (kk : Q (.inl none) bb (RWR σ b (l_L (E_G G (q_of pl) b wo) V) V)) : qx sc (D + 4) 134 0 [vr 136, vi b, vn, vn, vn] [] (0, 0) bb σ Q := by
  have hW := hp.1
  have hl := E_G_W (b := b) (wo := wo) hW hq hb
  have h240 := hp.2.1.2.1
  have e15 : σ 136 15 = V := hk.1.2.2.1
  -- the first row of numbers
  have fill : ∀ (d k : Nat), k + d = V → ∀ l3 l4, (∀ l2, qx sc (D + 4) 134 34 [vr 136, vi b, l2, l3, l4] [] (0, 0) bb (RWR σ b (l_it (E_G G (q_of pl) b wo) thR V 268435456 0) V) Q) → qx sc (D + 4) 134 2 [vr 136, vi b, vi k, l3, l4] [] (0, 0) bb (RWR σ b (fun _ => some (-268435456)) k) Q := by
    intro d
    induction d with
    | zero =>
      intro k hk' l3 l4 h
      have e : k = V := by omega
      subst e
      have e15' : ∀ Y, RWR σ b Y k 136 15 = k := fun Y => by rw [RWR_ne (by decide)]; exact e15
      rw [k134_2]
      simp only [k134_3, k134_4, k134_7, e15']
      exact ⟨fun hh => by omega, fun _ => h _⟩
    | succ d ih =>
      intro k hk' l3 l4 h
      have kV : (k : Int) < V := by omega
      have e15' : RWR σ b (fun _ => some (-268435456)) k 136 15 = V := by rw [RWR_ne (by decide)]; exact e15
      rw [k134_2]
      simp only [k134_3, k134_4, k134_7, k134_10, k134_11, k134_14, k134_17, k134_18, k134_19, k134_20, k134_21, k134_22, k134_23, e15', kV, true_implies, false_implies, not_true_eq_false, not_false_eq_true, true_and, and_true, implies_true, or_true, true_or, or_false, false_or, Int.reduceEq, Int.one_ne_zero, Nat.reduceEqDiff]
      refine ⟨by unfold q_R; omega, by unfold q_R; omega, m188 ?_⟩
      simp only [q_kn_v, k134_26, k134_27, k134_28, k134_31, qt_1, ql_1, qt_2, ql_2, qt_3, ql_3, qt_6, ql_6, qt_7, ql_7, qt_8, ql_8, qt_10, ql_10, qt_11, ql_11, qt_12, ql_12, qt_13, ql_13, qt_14, ql_14, qt_15, ql_15, qt_16, ql_16, qt_17, ql_17, qt_18, ql_18, qt_19, ql_19, qt_20, ql_20, qt_21, ql_21, qt_22, ql_22, qt_23, ql_23, qt_24, ql_24, qt_25, ql_25, qt_26, ql_26, qt_28, ql_28, qt_29, ql_29, qt_30, ql_30, qt_31, ql_31, qt_32, ql_32, qt_33, ql_33, qt_34, ql_34, qt_35, ql_35, qt_36, ql_36, qt_37, ql_37, qt_38, ql_38, qt_40, ql_40, qt_41, ql_41, qt_42, ql_42, qt_43, ql_43, qt_44, ql_44, qt_45, ql_45, qt_46, ql_46, qt_47, ql_47, qt_48, ql_48, qt_49, ql_49, qt_50, ql_50, qt_51, ql_51, qt_52, ql_52, qt_53, ql_53, qt_54, ql_54, qt_56, ql_56, qt_57, ql_57, qt_58, ql_58, qt_59, ql_59, qt_60, ql_60, qt_61, ql_61, qt_62, ql_62, qt_63, ql_63, qt_64, ql_64, qt_65, ql_65, qt_67, ql_67, qt_68, ql_68, qt_69, ql_69, qt_70, ql_70, qt_71, ql_71, qt_73, ql_73, qt_74, ql_74, qt_75, ql_75, qt_76, ql_76, qt_78, ql_78, qt_79, ql_79, qt_80, ql_80, qt_81, ql_81, qt_82, ql_82, qt_83, ql_83, qt_84, ql_84, qt_85, ql_85, qt_86, ql_86, qt_87, ql_87, qt_89, ql_89, qt_90, ql_90, qt_91, ql_91, qt_92, ql_92, qt_93, ql_93, qt_94, ql_94, qt_95, ql_95, qt_96, ql_96, qt_97, ql_97, qt_98, ql_98, qt_99, ql_99, qt_100, ql_100, qt_101, ql_101, qt_102, ql_102, qt_103, ql_103, qt_105, ql_105, qt_106, ql_106, qt_107, ql_107, qt_108, ql_108, qt_109, ql_109, qt_110, ql_110, qt_111, ql_111, qt_113, ql_113, qt_114, ql_114, qt_115, ql_115, qt_116, ql_116, qt_117, ql_117, qt_118, ql_118, qt_119, ql_119, qt_120, ql_120, qt_121, ql_121, qt_122, ql_122, qt_123, ql_123, qt_124, ql_124, qt_125, ql_125, qt_126, ql_126, qt_127, ql_127, qt_129, ql_129, qt_130, ql_130, qt_131, ql_131, qt_132, ql_132, qt_133, ql_133, qt_134, ql_134, qt_135, ql_135, qt_137, ql_137, qt_138, ql_138, qt_139, ql_139, qt_140, ql_140, qt_141, ql_141, qt_142, ql_142, qt_143, ql_143, qt_144, ql_144, qt_145, ql_145, qt_146, ql_146, qt_147, ql_147, qt_148, ql_148, qt_149, ql_149, qt_150, ql_150, qt_151, ql_151, qt_152, ql_152, qt_153, ql_153, qt_154, ql_154, qt_155, ql_155, qt_156, ql_156, qt_157, ql_157, qt_158, ql_158, qt_159, ql_159, qt_160, ql_160, qt_161, ql_161, qt_162, ql_162, qt_163, ql_163, qt_164, ql_164, qt_165, ql_165, qt_166, ql_166, qt_167, ql_167, qt_168, ql_168, qt_169, ql_169, qt_170, ql_170, qt_171, ql_171, qt_172, ql_172, qt_173, ql_173, qt_174, ql_174, qt_175, ql_175, qt_176, ql_176, qt_177, ql_177, qt_178, ql_178, qt_179, ql_179, qt_180, ql_180, qt_181, ql_181, qt_182, ql_182, qt_183, ql_183, qt_184, ql_184, qt_185, ql_185, qt_186, ql_186, qt_187, ql_187, qt_188, ql_188, true_implies, false_implies, not_true_eq_false, not_false_eq_true, true_and, and_true, implies_true, or_true, true_or, or_false, false_or, Int.reduceEq, Int.one_ne_zero, Nat.reduceEqDiff]
      have eup : q_up (RWR σ b (fun _ => some (-268435456)) k) 173 (700 * b + k) (-enR b none) = RWR σ b (fun _ => some (-268435456)) (k + 1) := by
        funext a' j
        rw [q_up_app]
        unfold RWR
        by_cases e : a' = 173
        · subst e
          rw [q_upf_eq, q_upf_eq]
          by_cases e2 : j = 700 * b + k
          · rw [if_pos ⟨rfl, e2⟩, if_pos (by omega)]
            unfold enR
            dsimp only
            split <;> rfl
          · rw [if_neg (fun h => e2 h.2)]
            by_cases e3 : 700 * b ≤ j ∧ j < 700 * b + k
            · rw [if_pos e3, if_pos (by omega)]
            · rw [if_neg e3, if_neg (by omega)]
        · rw [if_neg (fun h => e h.1), q_upf_ne _ _ _ e, q_upf_ne _ _ _ e]
      rw [eup]
      have eb := enR_b (b := b) (o := none) (fun a ha => by cases ha)
      refine ⟨by unfold q_R; omega, by omega, by omega, ?_⟩
      have := ih (k + 1) (by omega) l3 l4 h
      rw [Int.natCast_add] at this
      exact this
  have e0 : RWR σ b (fun _ => some (-268435456)) 0 = σ := by
    funext a' j
    unfold RWR q_upf
    by_cases e : a' = 173
    · rw [if_pos e]; dsimp only; rw [if_neg (by omega), e]
    · rw [if_neg e]
  simp only [k134_0, k134_1]
  have f0 := fill V 0 (by omega) vn vn
  rw [e0] at f0
  refine f0 (fun l2 => ?_)
  simp only [k134_34, k134_35]
  have loop : ∀ (d t : Nat) (l3 l4 : V2), t + d = 11000001 → (∀ u, u < t → mvA (E_G G (q_of pl) b wo) thR (l_it (E_G G (q_of pl) b wo) thR V 268435456 u) V = true) → qx sc (D + 4) 134 36 [vr 136, vi b, vi 1, l3, l4] [] (0, 0) bb (RWR σ b (l_it (E_G G (q_of pl) b wo) thR V 268435456 t) V) Q := by
    intro d
    induction d with
    | zero =>
      intro t l3 l4 ht hmv
      have := few_movesR hW hl h240 t hmv
      omega
    | succ d ih =>
      intro t l3 l4 ht hmv
      rw [k134_36]
      simp only [k134_37, k134_40, k134_41, k134_42, k134_43, true_implies, false_implies, not_true_eq_false, not_false_eq_true, true_and, and_true, implies_true, or_true, true_or, or_false, false_or, Int.reduceEq, Int.one_ne_zero, Nat.reduceEqDiff]
      refine m134_i hk hp hx hs hq hb (itR_RBG hW hl h240 t) (fun l4 => ?_) V 0 _ (by omega)
      simp only [k134_153]
      by_cases hm : mvA (E_G G (q_of pl) b wo) thR (l_it (E_G G (q_of pl) b wo) thR V 268435456 t) V = true
      · rw [if_pos hm]
        exact ih (t + 1) _ _ (by omega) (fun u hu => by
          by_cases e : u = t
          · subst e; exact hm
          · exact hmv u (by omega))
      · rw [if_neg hm, k134_36]
        simp only [k134_37, k134_156, true_implies, false_implies, not_true_eq_false, not_false_eq_true, true_and, and_true, implies_true, or_true, true_or, or_false, false_or, Int.reduceEq, Int.one_ne_zero, Nat.reduceEqDiff]
        have hf := itR_found hW hl h240 hp.2.2.2.1 hq hb t hm
        have e1 : l_it (E_G G (q_of pl) b wo) thR V 268435456 (t + 1) = l_sw (E_G G (q_of pl) b wo) thR V (l_it (E_G G (q_of pl) b wo) thR V 268435456 t) := rfl
        rw [e1] at hf
        rw [RWR_ext hf]
        exact kk
  exact loop 11000001 0 _ _ (by omega) (fun u hu => by omega)
theorem PRO_q (hp : PRO G pl V S K Ln) : QPL (q_of pl) := by
  intro k k0 k1
  have := hp.2.2.1 k (by omega)
  unfold q_of
  split <;> omega
/-- all bounds, with a check left silent or none -/
def BALL (σ : St) (G : GT) (pl : Int → Int) (V : Nat) (wo : Int) : Prop := ∀ k' : Nat, k' ≤ 3 → BNR σ k' V (l_L (E_G G (q_of pl) k' wo) V)
theorem m135_l (hp : PRO G pl V S K Ln) (hx : VXP G V S K) {l1 : V2} : ∀ (d k : Nat) (σ : St), k + d = 4 → RK σ G pl V S K Ln Cn → SIL σ G K wo → (∀ k' : Nat, k' < k → BNR σ k' V (l_L (E_G G (q_of pl) k' wo) V)) → (∀ σ', BALL σ' G pl V wo → (∀ a i, ¬ a = 173 → σ' a i = σ a i) → Q (.inl none) bb σ') → qx sc (D + 5) 135 7 [vr 136, l1, vi k] [] (0, 0) bb σ Q := by
  have h240 := hp.2.1.2.1
  intro d
  induction d with
  | zero =>
    intro k σ hk' hk hs hB kk
    have e : k = 4 := by omega
    subst e
    rw [k135_7]
    simp only [k135_8, k135_9, k135_23]
    exact ⟨fun _ => kk σ (fun k' h1 => hB k' (by omega)) (fun _ _ _ => rfl), fun hh => absurd hh (by decide)⟩
  | succ d ih =>
    intro k σ hk' hk hs hB kk
    have k3 : ¬ (3 : Int) < (k : Int) := by omega
    rw [k135_7]
    simp only [k135_8, k135_9, k135_12, k135_13, k135_14, k3, true_implies, false_implies, not_true_eq_false, not_false_eq_true, true_and, and_true, implies_true, or_true, true_or, or_false, false_or, Int.reduceEq, Int.one_ne_zero, Nat.reduceEqDiff]
    refine m134 hk hp hx hs (PRO_q hp) (by omega) ?_
    simp only [q_kn_n, k135_17, k135_20]
    refine ⟨by omega, ?_⟩
    have := ih (k + 1) (RWR σ k (l_L (E_G G (q_of pl) k wo) V) V) (by omega) (RK_of hk (fun a i ha => RWR_ne (by omega))) (by unfold SIL; rw [RWR_ne (by decide)]; exact hs) (fun k' h1 => ?_) (fun σ' g1 g2 => kk σ' g1 (fun a i ha => by rw [g2 a i ha, RWR_ne ha]))
    · rw [Int.natCast_add] at this
      exact this
    · by_cases e : k' = k
      · subst e
        exact RWR_BNR
      · intro w hw
        unfold RWR
        rw [q_upf_eq, if_neg (by omega)]
        exact hB k' (by omega) w hw
/-- boundsAll -/
theorem m135 (hp : PRO G pl V S K Ln) (hx : VXP G V S K) (hk : RK σ G pl V S K Ln Cn) (hs : (x = -1 ∧ wo = -1) ∨ (0 ≤ x ∧ x < K ∧ wo = (gC G x).2.1)) (kk : ∀ σ', BALL σ' G pl V wo → (∀ a i, ¬ a = 173 → ¬ (a = 136 ∧ i = 54) → σ' a i = σ a i) → σ' 136 54 = x → Q (.inl none) bb σ') : qx sc (D + 5) 135 0 [vr 136, vi x, vn] [] (0, 0) bb σ Q := by
  simp only [k135_0, k135_1, k135_2, k135_5, k135_6]
  refine m135_l hp hx 4 0 _ (by omega) (RK_of hk (fun a i ha => by rw [q_up_app, if_neg (by omega)])) (by unfold SIL; rw [q_up_eq]; exact hs) (fun k' h => by omega) (fun σ' g1 g2 => kk σ' g1 (fun a i n1 n2 => by rw [g2 a i n1, q_up_app, if_neg n2]) (by rw [g2 136 54 (by decide), q_up_eq]))
end RFA
