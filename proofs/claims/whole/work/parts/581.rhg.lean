/-! what hangs on a check, in the reference -/
section RHG
variable {sc : Nat × (Nat → Int32)} {D : Nat} {bb : Bool} {Q : QP} {V S K Ln Cn : Nat} {σ σ' : St} {G : GT} {pl : Int → Int} {wo k x b : Int}
/-- with a check silent, nothing is better -/
theorem l_L_wo (hp : PRO G pl V S K Ln) (hb : 0 ≤ b ∧ b ≤ 3) : ∀ v, v < V → l_le (l_L (E_G G (q_of pl) b (-1)) V v) (l_L (E_G G (q_of pl) b wo) V v) := by
  have hl1 := E_G_W (wo := -1) hp.1 (PRO_q hp) hb
  have hl2 := E_G_W (wo := wo) hp.1 (PRO_q hp) hb
  refine (l_L_ok hl1).2 _ (fun v hv => l_le_trans ?_ ((l_L_ok hl2).1 v hv))
  by_cases hm : v_meet (gV G v)
  · rw [l_F_m hm, l_F_m hm]; exact l_le_refl _
  · rw [l_F_n hm, l_F_n hm, if_neg (show ¬ ((v : Nat) : Int) = -1 by omega)]
    by_cases hw : (v : Int) = wo
    · rw [if_pos hw]
      refine l_min_mono (l_le_refl _) ?_
      intro y hy
      exact absurd hy (by show ¬ (none : Option Int) = some y; exact fun q => by cases q)
    · rw [if_neg hw]; exact l_le_refl _
theorem enC_le {a b : Option Int} (h : l_le a b) {z : Int} (hz : z < 99999) (hb : enC b ≤ z) : enC a ≤ z := by
  cases b with
  | none => unfold enC at hb; dsimp only at hb; omega
  | some y =>
    obtain ⟨x, rfl, h3⟩ := h y rfl
    unfold enC at hb ⊢; dsimp only at hb ⊢; omega
theorem shP_mono (hp : PRO G pl V S K Ln) (k0 : 0 ≤ k) (k1 : k < K) {p : Int} (h : shP G pl V wo p k = 1) : shP G pl V (-1) p k = 1 := by
  obtain ⟨⟨w1, w2, w3, w4, w5, -⟩, -⟩ := PRO_k hp k0 k1
  unfold shP at h ⊢
  by_cases hp0 : p = 0
  · rw [if_pos hp0] at h ⊢
    unfold shU at h ⊢
    by_cases g : enC (l_L (E_G G (q_of pl) (gK G k).2.1 wo) V (gC G k).1.toNat) ≤ -1
    · rw [if_pos (enC_le (l_L_wo hp (by omega) _ (by omega)) (by decide) g)]
    · rw [if_neg g] at h; cases h
  · rw [if_neg hp0] at h ⊢
    unfold shD at h ⊢
    by_cases g : enC (l_L (E_G G (q_of pl) 3 wo) V (gC G k).1.toNat) ≤ 0
    · rw [if_pos (enC_le (l_L_wo hp (by decide) _ (by omega)) (by decide) g)]
    · rw [if_neg g] at h; cases h
theorem lsP_sub (hp : PRO G pl V S K Ln) (k0 : 0 ≤ k) (k1 : k < K) {p : Int} : shP G pl V (-1) p k = shP G pl V wo p k + lsP G pl V wo p k := by
  unfold lsP
  rcases shP_01 (G := G) (pl := pl) (V := V) (wo := wo) (p := p) (k := k) with h | h
  · rcases shP_01 (G := G) (pl := pl) (V := V) (wo := -1) (p := p) (k := k) with g | g
    · rw [if_neg (by omega), h, g]; rfl
    · rw [if_pos ⟨g, h⟩, h, g]; rfl
  · have g := shP_mono hp k0 k1 h
    rw [if_neg (by omega), h, g]; rfl
noncomputable def SHN (G : GT) (pl : Int → Int) (V K : Nat) (wo : Int) : Int := l_sm (fun j => shU G pl V wo j + shD G pl V wo j) K
theorem SHN_b (n : Nat) : 0 ≤ SHN G pl V n wo ∧ SHN G pl V n wo ≤ 2 * n := sum_b (m := 2) (fun j => by
  have h1 := shU_01 (G := G) (pl := pl) (V := V) (wo := wo) (k := j)
  have h2 := shD_01 (G := G) (pl := pl) (V := V) (wo := wo) (k := j)
  omega) n
theorem SHN_LST (hp : PRO G pl V S K Ln) : SHN G pl V K (-1) - SHN G pl V K wo = LST G pl V K wo := by
  have key : l_sm (fun j => shU G pl V (-1) j + shD G pl V (-1) j) K = l_sm (fun j => (shU G pl V wo j + shD G pl V wo j) + (lsP G pl V wo 0 j + lsP G pl V wo 1 j)) K := by
    refine l_sm_eq K (fun j hj => ?_)
    have h1 := lsP_sub (wo := wo) (k := j) (p := 0) hp (by omega) (by omega)
    have h2 := lsP_sub (wo := wo) (k := j) (p := 1) hp (by omega) (by omega)
    unfold shP at h1 h2
    rw [if_pos rfl, if_pos rfl] at h1
    rw [if_neg (by decide), if_neg (by decide)] at h2
    rw [h1, h2]; omega
  have key2 := l_sm_add (f := fun j : Nat => shU G pl V wo j + shD G pl V wo j) (g := fun j : Nat => lsP G pl V wo 0 j + lsP G pl V wo 1 j) K
  unfold SHN LST
  omega
theorem m211_l (hp : PRO G pl V S K Ln) (hk : RK σ G pl V S K Ln Cn) (hB : BALL σ G pl V wo) (kk : Q (.inl (some (vi (SHN G pl V K wo)))) bb σ) : ∀ (d k : Nat), k + d = K → qx sc (D + 2) 211 4 [vr 136, vi (SHN G pl V k wo), vi k] [] (0, 0) bb σ Q := by
  have e16 : σ 136 16 = K := hk.1.2.2.2.1
  intro d
  induction d with
  | zero =>
    intro k hk'
    have e : k = K := by omega
    subst e
    rw [k211_4]
    simp only [k211_5, k211_6, k211_9, k211_50, k211_51, true_implies, false_implies, not_true_eq_false, not_false_eq_true, true_and, and_true, implies_true, or_true, true_or, or_false, false_or, Int.reduceEq, Int.one_ne_zero, Nat.reduceEqDiff, e16]
    exact ⟨fun hh => by omega, fun _ => kk⟩
  | succ d ih =>
    intro k hk'
    have k1 : (k : Int) < K := by omega
    have k40 : (k : Int) < 40 := by have := hp.2.1; omega
    have hb := SHN_b (G := G) (pl := pl) (V := V) (wo := wo) k
    have u01 := shU_01 (G := G) (pl := pl) (V := V) (wo := wo) (k := k)
    have d01 := shD_01 (G := G) (pl := pl) (V := V) (wo := wo) (k := k)
    rw [k211_4]
    simp only [k211_5, k211_6, k211_9, k211_12, k211_13, k211_14, k211_15, k211_16, true_implies, false_implies, not_true_eq_false, not_false_eq_true, true_and, and_true, implies_true, or_true, true_or, or_false, false_or, Int.reduceEq, Int.one_ne_zero, Nat.reduceEqDiff, e16, k1]
    refine m165 (D := D) hp hk hB (by omega) k1 0 (fun e => by cases e) (fun _ => ?_) (Or.inl rfl)
    have mid : qx sc (D + 2) 211 27 [vr 136, vi (SHN G pl V k wo), vi k] [vi (shD G pl V wo k), vi (SHN G pl V k wo)] (0, 0) bb σ Q := by
      simp only [k211_27, k211_28, k211_29, k211_30, true_implies, false_implies, not_true_eq_false, not_false_eq_true, true_and, and_true, implies_true, or_true, true_or, or_false, false_or, Int.reduceEq, Int.one_ne_zero, Nat.reduceEqDiff]
      refine m165 (D := D) hp hk hB (by omega) k1 1 (fun _ => ?_) (fun e => by cases e) (Or.inr rfl)
      have fin : qx sc (D + 2) 211 41 [vr 136, vi (SHN G pl V k wo), vi k] [vi (shU G pl V wo k), vi (shD G pl V wo k), vi (SHN G pl V k wo)] (0, 0) bb σ Q := by
        have R1 : q_R ((k : Int) + 1) = True := eq_true (by unfold q_R; omega)
        have R2 : q_R (shD G pl V wo k + shU G pl V wo k) = True := eq_true (by unfold q_R; omega)
        have R3 : q_R (SHN G pl V k wo + (shD G pl V wo k + shU G pl V wo k)) = True := eq_true (by unfold q_R; omega)
        simp only [k211_41, k211_42, k211_43, k211_44, k211_47, true_implies, false_implies, not_true_eq_false, not_false_eq_true, true_and, and_true, implies_true, or_true, true_or, or_false, false_or, Int.reduceEq, Int.one_ne_zero, Nat.reduceEqDiff, R1, R2, R3]
        have nx := ih (k + 1) (by omega)
        have e : SHN G pl V (k + 1) wo = SHN G pl V k wo + (shD G pl V wo k + shU G pl V wo k) := by
          rw [Int.add_comm (shD G pl V wo k)]; rfl
        rw [Int.natCast_add, e] at nx
        exact nx
      rw [q_kn_v]
      rcases u01 with u | u
      · rw [u] at fin ⊢
        simp only [k211_33, k211_36, k211_37, k211_40, true_implies, false_implies, not_true_eq_false, not_false_eq_true, true_and, and_true, implies_true, or_true, true_or, or_false, false_or, Int.reduceEq, Int.one_ne_zero, Nat.reduceEqDiff]; exact fin
      · rw [u] at fin ⊢
        simp only [k211_33, k211_36, k211_37, k211_40, true_implies, false_implies, not_true_eq_false, not_false_eq_true, true_and, and_true, implies_true, or_true, true_or, or_false, false_or, Int.reduceEq, Int.one_ne_zero, Nat.reduceEqDiff, Int.reduceEq]; exact fin
    rw [q_kn_v]
    rcases d01 with u | u
    · rw [u] at mid ⊢
      simp only [k211_19, k211_22, k211_23, k211_26, true_implies, false_implies, not_true_eq_false, not_false_eq_true, true_and, and_true, implies_true, or_true, true_or, or_false, false_or, Int.reduceEq, Int.one_ne_zero, Nat.reduceEqDiff]; exact mid
    · rw [u] at mid ⊢
      simp only [k211_19, k211_22, k211_23, k211_26, true_implies, false_implies, not_true_eq_false, not_false_eq_true, true_and, and_true, implies_true, or_true, true_or, or_false, false_or, Int.reduceEq, Int.one_ne_zero, Nat.reduceEqDiff, Int.reduceEq]; exact mid
theorem m211 (hp : PRO G pl V S K Ln) (hk : RK σ G pl V S K Ln Cn) (hB : BALL σ G pl V wo) {l1 l2 : V2} (kk : Q (.inl (some (vi (SHN G pl V K wo)))) bb σ) : qx sc (D + 2) 211 0 [vr 136, l1, l2] [] (0, 0) bb σ Q := by
  simp only [k211_0, k211_1, k211_2, k211_3]
  exact m211_l hp hk hB kk K 0 (by omega)
/-- hangs, behind its first test -/
theorem m153 (hp : PRO G pl V S K Ln) (hx : VXP G V S K) (hk : RK σ G pl V S K Ln Cn) (hB : BALL σ G pl V (-1)) (h54 : σ 136 54 = -1) (k0 : 0 ≤ k) (k1 : k < K) {l2 l3 : V2}
    (kk : ∀ σ', BALL σ' G pl V (-1) → (∀ a i, ¬ a = 173 → σ' a i = σ a i) → Q (.inl (some (vi (LST G pl V K (gC G k).2.1)))) bb σ') : qx sc (D + 6) 153 15 [vr 136, vi k, l2, l3] [] (0, 0) bb σ Q := by
  have hb1 := SHN_b (G := G) (pl := pl) (V := V) (wo := -1) K
  have hb2 := SHN_b (G := G) (pl := pl) (V := V) (wo := (gC G k).2.1) K
  have hbd := hp.2.1
  simp only [k153_15, k153_16, true_implies, false_implies, not_true_eq_false, not_false_eq_true, true_and, and_true, implies_true, or_true, true_or, or_false, false_or, Int.reduceEq, Int.one_ne_zero, Nat.reduceEqDiff]
  refine m211 (D := D + 3) hp hk hB ?_
  simp only [q_kn_v, k153_19, k153_20, k153_21, k153_22, true_implies, false_implies, not_true_eq_false, not_false_eq_true, true_and, and_true, implies_true, or_true, true_or, or_false, false_or, Int.reduceEq, Int.one_ne_zero, Nat.reduceEqDiff]
  refine m135 (D := D) hp hx hk (Or.inr ⟨k0, k1, rfl⟩) (fun σ1 a1 a2 a3 => ?_)
  have hk1 := RK_of hk (σ' := σ1) (fun a i ha => a2 a i (by omega) (by omega))
  simp only [q_kn_n, k153_25, k153_26, true_implies, false_implies, not_true_eq_false, not_false_eq_true, true_and, and_true, implies_true, or_true, true_or, or_false, false_or, Int.reduceEq, Int.one_ne_zero, Nat.reduceEqDiff]
  refine m211 (D := D + 3) hp hk1 a1 ?_
  simp only [q_kn_v, k153_29, k153_30, k153_31, k153_32, true_implies, false_implies, not_true_eq_false, not_false_eq_true, true_and, and_true, implies_true, or_true, true_or, or_false, false_or, Int.reduceEq, Int.one_ne_zero, Nat.reduceEqDiff]
  refine m135 (D := D) hp hx hk1 (Or.inl ⟨rfl, rfl⟩) (fun σ2 b1 b2 b3 => ?_)
  have R : q_R (SHN G pl V K (-1) - SHN G pl V K (gC G k).2.1) = True := eq_true (by unfold q_R; omega)
  simp only [q_kn_n, k153_35, k153_36, k153_37, k153_38, true_implies, false_implies, not_true_eq_false, not_false_eq_true, true_and, and_true, implies_true, or_true, true_or, or_false, false_or, Int.reduceEq, Int.one_ne_zero, Nat.reduceEqDiff, R]
  rw [SHN_LST hp]
  refine kk σ2 b1 (fun a i ha => ?_)
  by_cases g : a = 136 ∧ i = 54
  · rw [g.1, g.2, b3, h54]
  · rw [b2 a i ha g, a2 a i ha g]
end RHG
