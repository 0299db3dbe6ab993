/-! the class runs: go, goBranch, goRound -/
theorem bI_t : bI true = 1 := rfl
theorem bI_f : bI false = 0 := rfl
theorem bI01 (b : Bool) : bI b = 0 ∨ bI b = 1 := by cases b; exact Or.inl rfl; exact Or.inr rfl
section RGO
variable {sc : Nat × (Nat → Int32)} {D : Nat} {bb : Bool} {Q : QP} {c V S K Ln : Nat} {C r r' : St} {G : GT} {pl ln : Int → Int} {how s k l x y v m n o i j ar cc nn : Int} {now now1 : Int → Int} {t : TT} {z : SB} {ks ks' : List (Int × Int)} {set : Int}
theorem RES_RCK {v' : Int} {now' : Int → Int} {p : St × Bool} (hk : RCK c C r G pl V S K Ln how) (h : RES G pl V K ln v v' l ks now' r p) : RCK c C p.1 G pl V S K Ln how := RCK_of hk h.1.1
/-- on to the next statement -/
theorem g64_t (hc : q_C c) (hk : RCK c C r G pl V S K Ln how) (s0 : 0 ≤ s) (s1 : s < S) {e2 : Int} (hA : (gR G s).2.1.2.2.2.2 = e2) (he : s + 1 ≤ e2) {lf e dd g : V2} (kk : qx sc D 64 13 [vr 77, lf, e, dd, g, vi e2] [] (0, 0) bb (NS c C r) Q) : qx sc D 64 104 [vr 77, lf, e, dd, g, vi s] [] (0, 0) bb (NS c C r) Q := by
  have hb := hk.1.1.2.1
  have s40 : s < 40 := by omega
  have t11 : C 11 s = e2 := by rw [← hA]; exact (RCK_S hk s0 s1).2.2.2.2.2.2.2.2.2.1
  have h8 := hk.2.1
  have R1 : q_R (s + 1) = True := eq_true (by omega)
  have em : max (s + 1) e2 = e2 := by omega
  simp only [k64_104, k64_106, k64_107, k64_108, k64_109, k64_112 hc, k64_115, k64_117, k64_118, k64_121, k64_123, NS_lo hc, NS_g hc, NS_f hc, NS_u hc, NS_uf hc, Nat.reduceLT, Nat.reduceLeDiff, Nat.reduceEqDiff, not_false_eq_true, qtc_1 hc, qlc_1 hc, qtc_2 hc, qlc_2 hc, qtc_3 hc, qlc_3 hc, qtc_4 hc, qlc_4 hc, qtc_5 hc, qlc_5 hc, qtc_6 hc, qlc_6 hc, qtc_7 hc, qlc_7 hc, qtc_8 hc, qlc_8 hc, qtc_9 hc, qlc_9 hc, qtc_10 hc, qlc_10 hc, qtc_11 hc, qlc_11 hc, qtc_12 hc, qlc_12 hc, qtc_13 hc, qlc_13 hc, qtc_14 hc, qlc_14 hc, qtc_15 hc, qlc_15 hc, qtc_17 hc, qlc_17 hc, qtc_19 hc, qlc_19 hc, qtc_20 hc, qlc_20 hc, qtc_22 hc, qlc_22 hc, qtc_23 hc, qlc_23 hc, qtc_18 hc, qlc_18 hc, qtc_21 hc, qlc_21 hc, c18_0, c18_1, c21_0, c21_1, true_implies, false_implies, not_true_eq_false, not_false_eq_true, true_and, and_true, implies_true, or_true, true_or, or_false, false_or, Int.reduceEq, Int.one_ne_zero, Nat.reduceEqDiff, h8, c_nn, Int.toNat_natCast, s0, s40, t11, R1, em]
  exact kk
/-- a statement without a block -/
theorem g64_b (hc : q_C c) (hL : LNO pl ln) (hz : VALb pl z) (hcx : PCX G V S K Ln (s_b z ar s k l) (n_b z s k l v cc ar now) ar s k l v cc now) (hk : RCK c C r G pl V S K Ln how) (h : GST G pl V K ln v l now r) {lf e dd : V2} (kk : qx sc (D + 2) 64 13 [vr 77, lf, e, dd, vi (bI (R_b G pl V how s r).2), vi (s + 1)] [] (0, 0) bb (NS c C (R_b G pl V how s r).1) Q) : qx sc (D + 2) 64 24 [vr 77, lf, e, dd, vi 1, vi s] [] (0, 0) bb (NS c C r) Q := by
  have hp := hk.1.1
  have hres := RES_b (how := how) hp hL hz hcx h
  have hkf := RES_RCK hk hres
  obtain ⟨⟨v0, s0, k0, l0⟩, ⟨hN, hnz, hNV⟩, -, ⟨c1, c2, c3, c4⟩, -, hseg⟩ := hcx
  have hB := BPC_of hz hseg
  have ek : (s_b z ar s k l).2.1.length = if z.2.1 = 1 then 1 else 0 := by unfold s_b; dsimp only; split <;> rfl
  have e1 : (s_b z ar s k l).1.length = 1 := rfl
  rw [ek] at c2
  rw [e1] at c1
  generalize n_b z s k l v cc ar now = oo at *
  obtain ⟨⟨hR1, hR2⟩, -, hB⟩ := hB
  have hb := hp.2.1
  have s1 : s < S := by omega
  have s40 : s < 40 := by omega
  obtain ⟨t2, -⟩ := RCK_S hk s0 s1
  rw [hR1] at t2
  have n4 : ¬ z.1.1 = 4 := by rcases hz.2 with ⟨q, -⟩ | ⟨q, -⟩ | ⟨q, -⟩ <;> omega
  have n3 : ¬ z.1.1 = 3 := by rcases hz.2 with ⟨q, -⟩ | ⟨q, -⟩ | ⟨q, -⟩ <;> omega
  have h8 := hk.2.1
  have hst := h.1.2.2.2.2.2.1
  have haft : (gR G s).2.1.2.2.2.2 = s + 1 := by rw [hR2]
  have fin : ∀ (g : Int) (r' : St), RCK c C r' G pl V S K Ln how → qx sc (D + 2) 64 13 [vr 77, lf, e, dd, vi g, vi (s + 1)] [] (0, 0) bb (NS c C r') Q → qx sc (D + 2) 64 104 [vr 77, lf, e, dd, vi g, vi s] [] (0, 0) bb (NS c C r') Q := fun g r' hk' q => g64_t hc hk' s0 s1 haft (Int.le_refl _) q
  simp only [k64_24, k64_25, k64_28 hc, k64_31, k64_33, k64_34, k64_35, k64_50, k64_51, NS_lo hc, NS_g hc, NS_f hc, NS_u hc, NS_uf hc, Nat.reduceLT, Nat.reduceLeDiff, Nat.reduceEqDiff, not_false_eq_true, qtc_1 hc, qlc_1 hc, qtc_2 hc, qlc_2 hc, qtc_3 hc, qlc_3 hc, qtc_4 hc, qlc_4 hc, qtc_5 hc, qlc_5 hc, qtc_6 hc, qlc_6 hc, qtc_7 hc, qlc_7 hc, qtc_8 hc, qlc_8 hc, qtc_9 hc, qlc_9 hc, qtc_10 hc, qlc_10 hc, qtc_11 hc, qlc_11 hc, qtc_12 hc, qlc_12 hc, qtc_13 hc, qlc_13 hc, qtc_14 hc, qlc_14 hc, qtc_15 hc, qlc_15 hc, qtc_17 hc, qlc_17 hc, qtc_19 hc, qlc_19 hc, qtc_20 hc, qlc_20 hc, qtc_22 hc, qlc_22 hc, qtc_23 hc, qlc_23 hc, qtc_18 hc, qlc_18 hc, qtc_21 hc, qlc_21 hc, c18_0, c18_1, c21_0, c21_1, true_implies, false_implies, not_true_eq_false, not_false_eq_true, true_and, and_true, implies_true, or_true, true_or, or_false, false_or, Int.reduceEq, Int.one_ne_zero, Nat.reduceEqDiff, h8, c_nn, Int.toNat_natCast, s0, s40, t2, n4]
  refine q74 hc (by omega) ?_
  unfold R_b at kk hkf
  by_cases hs : r 87 2 < 300
  · rw [R_step_t hs, R_and_t rfl] at kk hkf
    rw [R_step_t hs]
    have h1 := GST_step h hs
    have hk1 : RCK c C (q_up r 87 2 (r 87 2 + 1)) G pl V S K Ln how := RCK_of hk (RFR_87 (v := 0) (l := 0) (ks := []) (σ := r)).1
    generalize q_up r 87 2 (r 87 2 + 1) = τ at *
    dsimp only at kk hkf
    dsimp only
    simp only [q_kn_v, k64_54, k64_57, k64_58, k64_60, bI_t, true_implies, false_implies, not_true_eq_false, not_false_eq_true, true_and, and_true, implies_true, or_true, true_or, or_false, false_or, Int.reduceEq, Int.one_ne_zero, Nat.reduceEqDiff]
    have bc := h1.1.2.1
    have hkk : (gR G s).2.1.1 = -1 ∨ (0 ≤ (gR G s).2.1.1 ∧ (gR G s).2.1.1 < K) := by
      rw [hR2]
      rcases hB with ⟨g1, -⟩ | ⟨g1, -⟩
      · right; rw [if_pos g1] at c2 ⊢; dsimp only; omega
      · left; rw [if_neg g1]
    refine q71 hc hk1 s0 s1 hkk (by have := bc.1; omega) ?_
    -- behind the check
    have go : ∀ τ2 : St, R_pass G pl V how s τ = (τ2, true) → RCK c C τ2 G pl V S K Ln how → BM (r 87 2 + 1) (100 * (r 87 2 + 1) + 2) (r 87 2) V ln τ2 → (z.2.1 = 1 → (gR G s).2.1.1 = k ∧ 0 ≤ k ∧ k < K ∧ gK G k = (s, z.2.2.1, z.2.2.2) ∧ 0 ≤ τ2 78 z.2.2.2 ∧ τ2 78 z.2.2.2 < 40) → (z.1.1 = 0 → 0 ≤ (gM G s).1 ∧ (gM G s).1 < V) → qx sc (D + 2) 64 72 [vr 77, lf, e, dd, vi 1, vi s] [] (0, 0) bb (NS c C τ2) Q := by
      intro τ2 ep hk2 hB2 hel hM
      rw [ep, R_and_t rfl] at kk hkf
      dsimp only at kk hkf
      have h82 := hk2.2.1
      simp only [k64_72, k64_73, k64_76 hc, k64_79, k64_81, k64_82, k64_83, k64_98, k64_99, k64_101, NS_lo hc, NS_g hc, NS_f hc, NS_u hc, NS_uf hc, Nat.reduceLT, Nat.reduceLeDiff, Nat.reduceEqDiff, not_false_eq_true, qtc_1 hc, qlc_1 hc, qtc_2 hc, qlc_2 hc, qtc_3 hc, qlc_3 hc, qtc_4 hc, qlc_4 hc, qtc_5 hc, qlc_5 hc, qtc_6 hc, qlc_6 hc, qtc_7 hc, qlc_7 hc, qtc_8 hc, qlc_8 hc, qtc_9 hc, qlc_9 hc, qtc_10 hc, qlc_10 hc, qtc_11 hc, qlc_11 hc, qtc_12 hc, qlc_12 hc, qtc_13 hc, qlc_13 hc, qtc_14 hc, qlc_14 hc, qtc_15 hc, qlc_15 hc, qtc_17 hc, qlc_17 hc, qtc_19 hc, qlc_19 hc, qtc_20 hc, qlc_20 hc, qtc_22 hc, qlc_22 hc, qtc_23 hc, qlc_23 hc, qtc_18 hc, qlc_18 hc, qtc_21 hc, qlc_21 hc, c18_0, c18_1, c21_0, c21_1, true_implies, false_implies, not_true_eq_false, not_false_eq_true, true_and, and_true, implies_true, or_true, true_or, or_false, false_or, Int.reduceEq, Int.one_ne_zero, Nat.reduceEqDiff, h82, c_nn, Int.toNat_natCast, s0, s40, t2, n3]
      have o3 := hB2.2.2.1
      refine q63 (k := k) hc hk2 s0 s1 hz hR1 hB2 (by omega) (by omega) hel hM ?_
      simp only [q_kn_n]
      exact fin 1 _ hkf kk
    rcases hB with ⟨g1, ⟨gK', gC', gV'⟩, -, hB⟩ | ⟨g1, hB⟩
    · rw [if_pos g1] at hR2 c2
      have hk1' : (gR G s).2.1.1 = k := by rw [hR2]
      have hkn : ¬ k = -1 := by omega
      have eK2 : (gK G k).2.2 = z.2.2.2 := by rw [gK']
      have eK1 : (gK G k).2.1 = z.2.2.1 := by rw [gK']
      obtain ⟨⟨-, w2, w3, -⟩, -⟩ := PRO_k hp k0 (by omega)
      rw [eK1] at w2
      rw [eK2] at w3
      by_cases hin : 0 ≤ τ 78 (gK G k).2.2 ∧ τ 78 (gK G k).2.2 < τ 85 (gK G k).2.1
      · have ep := R_pass_in (pl := pl) (V := V) (how := how) hk1' hkn hin
        rw [eK2, eK1] at hin
        rw [eK2, gC'] at ep
        dsimp only at ep
        have hcn := R_cn_b (G := G) (pl := pl) (V := V) (how := how) (k := k) (x := τ 78 z.2.2.2) (σ := τ)
        generalize R_cn G pl V how k (τ 78 z.2.2.2) τ = cn at *
        have vV : v < V := by rcases hB with ⟨-, -, -, -, -, -, q, -⟩ | ⟨-, -, -, -, q, -⟩ <;> omega
        have h2 := GSM_pass (cn := cn) hp hL h1 hN v0 vV w3 w2 gV' hin hcn
        have ln40 := (h1.1.2.2.2.1.1 _ w2.1 w2.2.1)
        have hk2 : RCK c C (q_up (q_up τ 87 4 (τ 87 4 + cn)) 80 v (τ 78 z.2.2.2)) G pl V S K Ln how := RCK_of hk1 (RFR_trans (v := v) (l := 0) (ks := []) RFR_87 (RFR_80 (Int.le_refl _))).1
        have i78 : q_up (q_up τ 87 4 (τ 87 4 + cn)) 80 v (τ 78 z.2.2.2) 78 z.2.2.2 = τ 78 z.2.2.2 := rfl
        have g := go _ ep hk2 h2.1 (fun _ => ⟨hk1', k0, by omega, gK', by rw [i78]; omega, by rw [i78]; omega⟩) (fun q0 => by rcases hB with ⟨-, -, -, q, -, -, q8, -⟩ | ⟨q, -⟩ <;> omega)
        rw [ep]
        simp only [q_kn_v, k64_63, bI_t, true_implies, false_implies, not_true_eq_false, not_false_eq_true, true_and, and_true, implies_true, or_true, true_or, or_false, false_or, Int.reduceEq, Int.one_ne_zero, Nat.reduceEqDiff]
        exact g
      · have ep := R_pass_out (pl := pl) (V := V) (how := how) hk1' hkn hin
        rw [ep] at kk hkf ⊢
        rw [R_and_f rfl] at kk hkf
        simp only [q_kn_v, k64_63, k64_66, k64_67, k64_69, bI_f, true_implies, false_implies, not_true_eq_false, not_false_eq_true, true_and, and_true, implies_true, or_true, true_or, or_false, false_or, Int.reduceEq, Int.one_ne_zero, Nat.reduceEqDiff]
        exact fin 0 _ hkf kk
    · rw [if_neg g1] at hR2
      have ep : R_pass G pl V how s τ = (τ, true) := R_pass_no (by rw [hR2])
      have g := go _ ep hk1 (BM_le h1.1 (Int.le_refl _) (by omega) (Int.le_refl _)) (fun q => absurd q g1) (fun q0 => by rcases hB with ⟨-, -, -, q, -, -, q8, -⟩ | ⟨q, -⟩ <;> omega)
      rw [ep]
      simp only [q_kn_v, k64_63, bI_t, true_implies, false_implies, not_true_eq_false, not_false_eq_true, true_and, and_true, implies_true, or_true, true_or, or_false, false_or, Int.reduceEq, Int.one_ne_zero, Nat.reduceEqDiff]
      exact g
  · rw [R_step_f hs, R_and_f rfl] at kk hkf
    rw [R_step_f hs]
    simp only [q_kn_v, k64_54, k64_66, k64_67, k64_69, bI_f, true_implies, false_implies, not_true_eq_false, not_false_eq_true, true_and, and_true, implies_true, or_true, true_or, or_false, false_or, Int.reduceEq, Int.one_ne_zero, Nat.reduceEqDiff]
    exact fin 0 _ hkf kk
/-- goBranch -/
theorem q65 {pA pB : Int → Int → Int → Int → SO} {gA gB : NF} {oA oB : NO} {PA PB : SO} {vA vF vB vJ cA cF cB cJ sB kB lB : Int} {fA fB : RF} {dep : Int} (hc : q_C c) (hL : LNO pl ln) (ht : VALt pl t) (hk : RCK c C r G pl V S K Ln how) (s0 : 0 ≤ s) (s1 : s < S) (v0 : 0 ≤ v) (l0 : 0 ≤ l) (hN : NWI now v) (hV : vJ + (v_many set 8 0 : Nat) ≤ V) (hdep : 0 ≤ dep ∧ dep ≤ 5) (hS : SIF G t set pA pB gA gB s k l v cc ar now oA oB PA PB vA vF vB vJ cA cF cB cJ sB kB lB) (h1 : GSM G pl V K ln m n o v l now r) (hst : m ≤ r 87 2 + 1 ∧ n ≤ 100 * (r 87 2 + 1) ∧ o ≤ r 87 2)
    (hA : ∀ r, RCK c C r G pl V S K Ln how → GST G pl V K ln vA l (v_sn t v now) r → ∀ Q' : QP, Q' (.inl (some (vi (bI (fA (s + 1) r).2)))) bb (NS c C (fA (s + 1) r).1) → qx sc (D + 1) 64 0 [vr 77, vi (s + 1), vi (s + 1 + (PA.1.length : Nat)), vi (dep + 1), vn, vn] [] (0, 0) bb (NS c C r) Q')
    (hB : ∀ r, RCK c C r G pl V S K Ln how → GST G pl V K ln vB lB (v_sn t vF now) r → ∀ Q' : QP, Q' (.inl (some (vi (bI (fB sB r).2)))) bb (NS c C (fB sB r).1) → qx sc (D + 1) 64 0 [vr 77, vi sB, vi (sB + (PB.1.length : Nat)), vi (dep + 1), vn, vn] [] (0, 0) bb (NS c C r) Q')
    (rA : ∀ r, GST G pl V K ln vA l (v_sn t v now) r → ∀ a i, ¬ RUC a → (fA (s + 1) r).1 a i = r a i) (rB : ∀ r, GST G pl V K ln vB lB (v_sn t vF now) r → ∀ a i, ¬ RUC a → (fB sB r).1 a i = r a i)
    (kk : Q (.inl (some (vi (bI (R_and (if R_h (gR G s).2.2 r = true then fA (s + 1) (R_ans G s r) else fB (gR G s).2.1.2.2.2.1 (R_ans G s r)) fun σ => (R_mk G (gM G s).2.1.1 (gM G s).2.1.2 σ, true)).2)))) bb (NS c C (R_and (if R_h (gR G s).2.2 r = true then fA (s + 1) (R_ans G s r) else fB (gR G s).2.1.2.2.2.1 (R_ans G s r)) fun σ => (R_mk G (gM G s).2.1.1 (gM G s).2.1.2 σ, true)).1)) : qx sc (D + 2) 65 0 [vr 77, vi s, vi dep, vn] [] (0, 0) bb (NS c C r) Q := by
  have hp := hk.1.1
  have hb := hp.2.1
  have s40 : s < 40 := by omega
  obtain ⟨-, ⟨x1, x2, x3, x4⟩, -, ⟨w1, w2, w3⟩, ⟨hR, hM⟩, ⟨y1, y2, y3, y4, y5⟩, -, -, -, -, z4⟩ := hS
  have hR2 : (gR G s).2.2 = t := by rw [hR]
  have hR3 : 3 ≤ (gR G s).1.1 := by rw [hR]; exact Int.le_refl 3
  have hRm : (gR G s).2.1.2.2.2.1 = sB := by rw [hR]
  have hRa : (gR G s).2.1.2.2.2.2 = sB + (PB.1.length : Nat) := by rw [hR]
  have hM2 : (gM G s).2.2.1 = (v, vF, ((v_sd t (v_sv now t.2.1) (v_sv now t.2.2) 3 s).length : Int)) := by rw [hM]
  have hM1 : (gM G s).2.1 = (vJ, ((v_many set 8 0 : Nat) : Int)) := by rw [hM]
  have hMn : ¬ (gM G s).2.1.1 = -1 := by rw [hM1]; dsimp only; omega
  have t10 : C 10 s = sB := by rw [← hRm]; exact (RCK_S hk s0 s1).2.2.2.2.2.2.2.2.1
  have t11 : C 11 s = sB + (PB.1.length : Nat) := by rw [← hRa]; exact (RCK_S hk s0 s1).2.2.2.2.2.2.2.2.2.1
  have h8 := hk.2.1
  have R1 : q_R (s + 1) = True := eq_true (by omega)
  have R2 : q_R (dep + 1) = True := eq_true (by omega)
  rw [hR2, hRm, hM1] at kk
  dsimp only at kk
  -- behind the block
  have fin : ∀ p : St × Bool, RCK c C p.1 G pl V S K Ln how → Q (.inl (some (vi (bI (R_and p fun σ => (R_mk G vJ ((v_many set 8 0 : Nat) : Int) σ, true)).2)))) bb (NS c C (R_and p fun σ => (R_mk G vJ ((v_many set 8 0 : Nat) : Int) σ, true)).1) → qx sc (D + 2) 65 57 [vr 77, vi s, vi dep, vi (bI p.2)] [] (0, 0) bb (NS c C p.1) Q := by
    rintro ⟨σ2, bo⟩ hk2 kk
    cases bo with
    | false =>
      rw [R_and_f rfl] at kk
      simp only [k65_57, k65_58, k65_83, k65_84, bI_f, true_implies, false_implies, not_true_eq_false, not_false_eq_true, true_and, and_true, implies_true, or_true, true_or, or_false, false_or, Int.reduceEq, Int.one_ne_zero, Nat.reduceEqDiff]
      exact kk
    | true =>
      rw [R_and_t rfl] at kk
      have r31 := ((RCK_M hk2 s0 s1).2 hMn).1
      rw [hM1] at r31
      have r31a : σ2 31 s = vJ := r31.1
      have r32a : σ2 32 s = ((v_many set 8 0 : Nat) : Int) := r31.2
      simp only [k65_57, k65_58, k65_61, k65_62, k65_63, k65_66, k65_69, k65_70, k65_71, k65_72, k65_75, k65_78, k65_79, k65_80, NS_lo hc, NS_g hc, NS_f hc, NS_u hc, NS_uf hc, Nat.reduceLT, Nat.reduceLeDiff, Nat.reduceEqDiff, not_false_eq_true, qt_1, ql_1, qt_2, ql_2, qt_3, ql_3, qt_6, ql_6, qt_7, ql_7, qt_8, ql_8, qt_10, ql_10, qt_11, ql_11, qt_12, ql_12, qt_13, ql_13, qt_14, ql_14, qt_15, ql_15, qt_16, ql_16, qt_17, ql_17, qt_18, ql_18, qt_19, ql_19, qt_20, ql_20, qt_21, ql_21, qt_22, ql_22, qt_23, ql_23, qt_24, ql_24, qt_25, ql_25, qt_26, ql_26, qt_28, ql_28, qt_29, ql_29, qt_30, ql_30, qt_31, ql_31, qt_32, ql_32, qt_33, ql_33, qt_34, ql_34, qt_35, ql_35, qt_36, ql_36, qt_37, ql_37, qt_38, ql_38, qt_40, ql_40, qt_41, ql_41, qt_42, ql_42, qt_43, ql_43, qt_44, ql_44, qt_45, ql_45, qt_46, ql_46, qt_47, ql_47, qt_48, ql_48, qt_49, ql_49, qt_50, ql_50, qt_51, ql_51, qt_52, ql_52, qt_53, ql_53, qt_54, ql_54, qt_56, ql_56, qt_57, ql_57, qt_58, ql_58, qt_59, ql_59, qt_60, ql_60, qt_61, ql_61, qt_62, ql_62, qt_63, ql_63, qt_64, ql_64, qt_65, ql_65, qt_67, ql_67, qt_68, ql_68, qt_69, ql_69, qt_70, ql_70, qt_71, ql_71, qt_73, ql_73, qt_74, ql_74, qt_75, ql_75, qt_76, ql_76, qt_78, ql_78, qt_79, ql_79, qt_80, ql_80, qt_81, ql_81, qt_82, ql_82, qt_83, ql_83, qt_84, ql_84, qt_85, ql_85, qt_86, ql_86, qt_87, ql_87, qt_89, ql_89, qt_90, ql_90, qt_91, ql_91, qt_92, ql_92, qt_93, ql_93, qt_94, ql_94, qt_95, ql_95, qt_96, ql_96, qt_97, ql_97, qt_98, ql_98, qt_99, ql_99, qt_100, ql_100, qt_101, ql_101, qt_102, ql_102, qt_103, ql_103, qt_105, ql_105, qt_106, ql_106, qt_107, ql_107, qt_108, ql_108, qt_109, ql_109, qt_110, ql_110, qt_111, ql_111, qt_113, ql_113, qt_114, ql_114, qt_115, ql_115, qt_116, ql_116, qt_117, ql_117, qt_118, ql_118, qt_119, ql_119, qt_120, ql_120, qt_121, ql_121, qt_122, ql_122, qt_123, ql_123, qt_124, ql_124, qt_125, ql_125, qt_126, ql_126, qt_127, ql_127, qt_129, ql_129, qt_130, ql_130, qt_131, ql_131, qt_132, ql_132, qt_133, ql_133, qt_134, ql_134, qt_135, ql_135, qt_137, ql_137, qt_138, ql_138, qt_139, ql_139, qt_140, ql_140, qt_141, ql_141, qt_142, ql_142, qt_143, ql_143, qt_144, ql_144, qt_145, ql_145, qt_146, ql_146, qt_147, ql_147, qt_148, ql_148, qt_149, ql_149, qt_150, ql_150, qt_151, ql_151, qt_152, ql_152, qt_153, ql_153, qt_154, ql_154, qt_155, ql_155, qt_156, ql_156, qt_157, ql_157, qt_158, ql_158, qt_159, ql_159, qt_160, ql_160, qt_161, ql_161, qt_162, ql_162, qt_163, ql_163, qt_164, ql_164, qt_165, ql_165, qt_166, ql_166, qt_167, ql_167, qt_168, ql_168, qt_169, ql_169, qt_170, ql_170, qt_171, ql_171, qt_172, ql_172, qt_173, ql_173, qt_174, ql_174, qt_175, ql_175, qt_176, ql_176, qt_177, ql_177, qt_178, ql_178, qt_179, ql_179, qt_180, ql_180, qt_181, ql_181, qt_182, ql_182, qt_183, ql_183, qt_184, ql_184, qt_185, ql_185, qt_186, ql_186, qt_187, ql_187, qt_188, ql_188, true_implies, false_implies, not_true_eq_false, not_false_eq_true, true_and, and_true, implies_true, or_true, true_or, or_false, false_or, Int.reduceEq, Int.one_ne_zero, Nat.reduceEqDiff, bI_t, s0, s40, r31a, r32a]
      refine q70 hc hk2 (by omega) (by omega) hV ?_
      simp only [q_kn_n, k65_83, k65_84, true_implies, false_implies, not_true_eq_false, not_false_eq_true, true_and, and_true, implies_true, or_true, true_or, or_false, false_or, Int.reduceEq, Int.one_ne_zero, Nat.reduceEqDiff]
      exact kk
  simp only [k65_0, k65_1, k65_2]
  refine q60 hc hk s0 s1 hR2 hR3 ht hM2 hMn v0 (by omega) (by omega) (by omega) (by omega) ?_
  by_cases hh : R_h t r = true
  · rw [if_pos hh] at kk
    rw [R_ans_t hR2 hM2 hh] at kk ⊢
    have g0 := GSM_ans hp hL h1 ht hN (Int.le_refl v) v0 y1 (by omega) (Or.inl ⟨rfl, hh⟩)
    rw [← x1] at g0
    have g1 := GST_of g0 (st := r 87 2) rfl hst.1 hst.2.1 hst.2.2
    have hk1 : RCK c C (R_mk G v (v_sd t (v_sv now t.2.1) (v_sv now t.2.2) 3 s).length r) G pl V S K Ln how := RCK_of hk (RFR_mk (v := v) (l := 0) (ks := []) (Int.le_refl _)).1
    generalize R_mk G v (v_sd t (v_sv now t.2.1) (v_sv now t.2.2) 3 s).length r = r1 at *
    have h81 := hk1.2.1
    rw [hh]
    simp only [q_kn_v, k65_5, k65_8, k65_9, k65_10, k65_11, k65_12, k65_13, k65_16 hc, k65_19, k65_20, k65_21, k65_22, k65_23, k65_24, NS_lo hc, NS_g hc, NS_f hc, NS_u hc, NS_uf hc, Nat.reduceLT, Nat.reduceLeDiff, Nat.reduceEqDiff, not_false_eq_true, qtc_1 hc, qlc_1 hc, qtc_2 hc, qlc_2 hc, qtc_3 hc, qlc_3 hc, qtc_4 hc, qlc_4 hc, qtc_5 hc, qlc_5 hc, qtc_6 hc, qlc_6 hc, qtc_7 hc, qlc_7 hc, qtc_8 hc, qlc_8 hc, qtc_9 hc, qlc_9 hc, qtc_10 hc, qlc_10 hc, qtc_11 hc, qlc_11 hc, qtc_12 hc, qlc_12 hc, qtc_13 hc, qlc_13 hc, qtc_14 hc, qlc_14 hc, qtc_15 hc, qlc_15 hc, qtc_17 hc, qlc_17 hc, qtc_19 hc, qlc_19 hc, qtc_20 hc, qlc_20 hc, qtc_22 hc, qlc_22 hc, qtc_23 hc, qlc_23 hc, qtc_18 hc, qlc_18 hc, qtc_21 hc, qlc_21 hc, c18_0, c18_1, c21_0, c21_1, true_implies, false_implies, not_true_eq_false, not_false_eq_true, true_and, and_true, implies_true, or_true, true_or, or_false, false_or, Int.reduceEq, Int.one_ne_zero, Nat.reduceEqDiff, bI_t, h81, c_nn, Int.toNat_natCast, s0, s40, t10, R1, R2]
    rw [w1]
    refine hA r1 hk1 g1 _ ?_
    simp only [q_kn_v, k65_27, k65_28]
    exact fin _ (RCK_of hk1 (rA r1 g1)) kk
  · rw [if_neg hh] at kk
    rw [R_ans_f hR2 hM2 hh] at kk ⊢
    have g0 := GSM_ans hp hL h1 ht hN (show v ≤ vF by omega) (by omega) y3 (by omega) (Or.inr ⟨rfl, hh⟩)
    rw [z4, ← x3] at g0
    have g1 := GST_of g0 (st := r 87 2) rfl hst.1 hst.2.1 hst.2.2
    have g1' : GST G pl V K ln vB lB (v_sn t vF now) (R_mk G vF (v_sd t (v_sv now t.2.1) (v_sv now t.2.2) 3 s).length r) := ⟨g1.1, fun j j0 j1 => g1.2.1 j (by omega) j1, g1.2.2⟩
    have hk1 : RCK c C (R_mk G vF (v_sd t (v_sv now t.2.1) (v_sv now t.2.2) 3 s).length r) G pl V S K Ln how := RCK_of hk (RFR_mk (v := vF) (l := 0) (ks := []) (Int.le_refl _)).1
    generalize R_mk G vF (v_sd t (v_sv now t.2.1) (v_sv now t.2.2) 3 s).length r = r1 at *
    have h81 := hk1.2.1
    rw [Bool.eq_false_iff.mpr hh]
    simp only [q_kn_v, k65_5, k65_31, k65_32, k65_33, k65_36 hc, k65_39, k65_40, k65_41, k65_42, k65_45 hc, k65_48, k65_49, k65_50, k65_51, k65_52, k65_53, NS_lo hc, NS_g hc, NS_f hc, NS_u hc, NS_uf hc, Nat.reduceLT, Nat.reduceLeDiff, Nat.reduceEqDiff, not_false_eq_true, qtc_1 hc, qlc_1 hc, qtc_2 hc, qlc_2 hc, qtc_3 hc, qlc_3 hc, qtc_4 hc, qlc_4 hc, qtc_5 hc, qlc_5 hc, qtc_6 hc, qlc_6 hc, qtc_7 hc, qlc_7 hc, qtc_8 hc, qlc_8 hc, qtc_9 hc, qlc_9 hc, qtc_10 hc, qlc_10 hc, qtc_11 hc, qlc_11 hc, qtc_12 hc, qlc_12 hc, qtc_13 hc, qlc_13 hc, qtc_14 hc, qlc_14 hc, qtc_15 hc, qlc_15 hc, qtc_17 hc, qlc_17 hc, qtc_19 hc, qlc_19 hc, qtc_20 hc, qlc_20 hc, qtc_22 hc, qlc_22 hc, qtc_23 hc, qlc_23 hc, qtc_18 hc, qlc_18 hc, qtc_21 hc, qlc_21 hc, c18_0, c18_1, c21_0, c21_1, true_implies, false_implies, not_true_eq_false, not_false_eq_true, true_and, and_true, implies_true, or_true, true_or, or_false, false_or, Int.reduceEq, Int.one_ne_zero, Nat.reduceEqDiff, bI_f, h81, c_nn, Int.toNat_natCast, s0, s40, t10, t11, R2]
    refine hB r1 hk1 g1' _ ?_
    simp only [q_kn_v, k65_56]
    exact fin _ (RCK_of hk1 (rB r1 g1')) kk
end RGO
