/-! the law's other ways, and its loop -/
section LWL
variable {sc : Nat × (Nat → Int32)} {D : Nat} {u : PU} {bb : Bool} {Q : QP} {c : Nat} {C r σ σ1 ρ : St} {m : Int} {L : List (ST 5)} {pl f inp len F : Int → Int} {n ft i a b x k w v l s ab how lo hi : Int} {O : OC} {l5 l6 : V2}
theorem lw0 (hs : 0 ≤ i ∧ i + 6 ≤ sc.1) (h3 : sc.1 ≤ 3072) (hu : u.1 + 10 ≤ 601024 ∧ u.2 + 50 ≤ 7293034) (hm : m ≤ 100000) (hJ : LJ m σ) (kk : ∀ (σ' : St) (bb' : Bool) (u' : PU) (l5 l6 : V2), LJ (m + 1) σ' → u'.1 ≤ u.1 + 4 ∧ u'.2 ≤ u.2 + 24 → qx sc (D + 50) 252 1480 [vr 1000000, vr 0, vr 136, vr 188, vi i, l5, l6] [] u' bb' σ' Q) : qx sc (D + 50) 252 140 [vr 1000000, vr 0, vr 136, vr 188, vi i, l5, l6] [] u bb σ Q := by
  obtain ⟨c, C, r, L, pl, n, f, ft, inp, len, rfl, hC, hR⟩ := hJ
  have R1 : q_R (i + 1) = True := eq_true (by unfold q_R; omega)
  have b1 : 0 ≤ i + 1 := by omega
  have c1 : i + 1 < (sc.1 : Int) := by omega
  have R2 : q_R (i + 2) = True := eq_true (by unfold q_R; omega)
  have b2 : 0 ≤ i + 2 := by omega
  have c2 : i + 2 < (sc.1 : Int) := by omega
  have R3 : q_R (i + 3) = True := eq_true (by unfold q_R; omega)
  have b3 : 0 ≤ i + 3 := by omega
  have c3 : i + 3 < (sc.1 : Int) := by omega
  have R4 : q_R (i + 4) = True := eq_true (by unfold q_R; omega)
  have b4 : 0 ≤ i + 4 := by omega
  have c4 : i + 4 < (sc.1 : Int) := by omega
  have R5 : q_R (i + 5) = True := eq_true (by unfold q_R; omega)
  have b5 : 0 ≤ i + 5 := by omega
  have c5 : i + 5 < (sc.1 : Int) := by omega
  simp only [k252_140, k252_141, k252_142, k252_144, k252_145, k252_146, k252_147, k252_148, k252_150, k252_151, k252_152, k252_153, k252_154, k252_156, k252_157, k252_158, k252_159, k252_160, k252_162, k252_163, k252_164, k252_165, k252_166, k252_168, k252_169, k252_170, true_implies, false_implies, not_true_eq_false, not_false_eq_true, true_and, and_true, implies_true, or_true, true_or, or_false, false_or, Int.reduceEq, Int.one_ne_zero, Nat.reduceEqDiff, R1, R2, R3, R4, R5, b1, b2, b3, b4, b5, c1, c2, c3, c4, c5, k252_171 (u := u) (by omega)]
  refine p102 (D := D + 19) hC ?_
  intro c' C' r' hC' hfr
  refine (q_kn_v (v := vi (if n + 20 ≤ 400 then n + 20 else -1)) (bb := bb)).mpr ?_
  obtain ⟨u1, hu1⟩ : ∃ u1 : PU, u1 = (u.1 + 0, u.2 + 0) := ⟨_, rfl⟩
  rw [← hu1]
  have w1 : u1.1 + 0 ≤ 601024 ∧ u1.2 + 0 ≤ 7293034 := by rw [hu1]; dsimp only; omega
  have w2 : u1.1 ≤ u.1 + 4 ∧ u1.2 ≤ u.2 + 24 := by rw [hu1]; dsimp only; omega
  clear hu1
  simp only [k252_174, k252_175, k252_176, k252_178, k252_179, k252_180, k252_181, k252_182, k252_184, k252_185, k252_186, k252_187, k252_188, k252_190, k252_191, k252_192, k252_193, k252_194, k252_196, k252_197, k252_198, k252_199, k252_200, k252_202, k252_203, k252_204, true_implies, false_implies, not_true_eq_false, not_false_eq_true, true_and, and_true, implies_true, or_true, true_or, or_false, false_or, Int.reduceEq, Int.one_ne_zero, Nat.reduceEqDiff, R1, R2, R3, R4, R5, b1, b2, b3, b4, b5, c1, c2, c3, c4, c5, k252_205 w1]
  refine s150 (D := D + 9) (RI_of hR (fun a i ha => hfr a i (by unfold RIX at ha; omega))) ?_
  intro σ2 hR2 h0 hf2
  refine (q_kn_v (v := vi (if n + 20 ≤ 400 then n + 20 else -1))).mpr ?_
  rw [k252_208]
  exact ⟨fun _ => kk σ2 _ _ _ _ (LJ_mk (CI_m hC' (by omega)) hR2 (fun a i ha => hf2 a i (Or.inl ha))) (by dsimp only; omega), fun hne => absurd rfl hne⟩
theorem lw1 (hs : 0 ≤ i ∧ i + 6 ≤ sc.1) (h3 : sc.1 ≤ 3072) (hu : u.1 + 10 ≤ 601024 ∧ u.2 + 50 ≤ 7293034) (hm : m ≤ 100000) (hJ : LJ m σ) (kk : ∀ (σ' : St) (bb' : Bool) (u' : PU) (l5 l6 : V2), LJ (m + 1) σ' → u'.1 ≤ u.1 + 4 ∧ u'.2 ≤ u.2 + 24 → qx sc (D + 50) 252 1480 [vr 1000000, vr 0, vr 136, vr 188, vi i, l5, l6] [] u' bb' σ' Q) : qx sc (D + 50) 252 213 [vr 1000000, vr 0, vr 136, vr 188, vi i, l5, l6] [] u bb σ Q := by
  obtain ⟨c, C, r, L, pl, n, f, ft, inp, len, rfl, hC, hR⟩ := hJ
  have R1 : q_R (i + 1) = True := eq_true (by unfold q_R; omega)
  have b1 : 0 ≤ i + 1 := by omega
  have c1 : i + 1 < (sc.1 : Int) := by omega
  have R2 : q_R (i + 2) = True := eq_true (by unfold q_R; omega)
  have b2 : 0 ≤ i + 2 := by omega
  have c2 : i + 2 < (sc.1 : Int) := by omega
  have R3 : q_R (i + 3) = True := eq_true (by unfold q_R; omega)
  have b3 : 0 ≤ i + 3 := by omega
  have c3 : i + 3 < (sc.1 : Int) := by omega
  have R4 : q_R (i + 4) = True := eq_true (by unfold q_R; omega)
  have b4 : 0 ≤ i + 4 := by omega
  have c4 : i + 4 < (sc.1 : Int) := by omega
  have R5 : q_R (i + 5) = True := eq_true (by unfold q_R; omega)
  have b5 : 0 ≤ i + 5 := by omega
  have c5 : i + 5 < (sc.1 : Int) := by omega
  simp only [k252_213, k252_214, k252_215, k252_217, k252_218, k252_219, true_implies, false_implies, not_true_eq_false, not_false_eq_true, true_and, and_true, implies_true, or_true, true_or, or_false, false_or, Int.reduceEq, Int.one_ne_zero, Nat.reduceEqDiff, R1, R2, R3, R4, R5, b1, b2, b3, b4, b5, c1, c2, c3, c4, c5, k252_220 (u := u) (by omega)]
  refine p100 (D := D + 19) hC ?_
  intro c' C' r' hC' hfr
  refine (q_kn_v (v := vi (if 0 ≤ (sc.2 (i + 1).toNat).toInt ∧ (sc.2 (i + 1).toNat).toInt ≤ n then 1 else 0)) (bb := bb)).mpr ?_
  obtain ⟨u1, hu1⟩ : ∃ u1 : PU, u1 = (u.1 + 0, u.2 + 0) := ⟨_, rfl⟩
  rw [← hu1]
  have w1 : u1.1 + 0 ≤ 601024 ∧ u1.2 + 0 ≤ 7293034 := by rw [hu1]; dsimp only; omega
  have w2 : u1.1 ≤ u.1 + 4 ∧ u1.2 ≤ u.2 + 24 := by rw [hu1]; dsimp only; omega
  clear hu1
  simp only [k252_223, k252_224, k252_225, k252_227, k252_228, k252_229, true_implies, false_implies, not_true_eq_false, not_false_eq_true, true_and, and_true, implies_true, or_true, true_or, or_false, false_or, Int.reduceEq, Int.one_ne_zero, Nat.reduceEqDiff, R1, R2, R3, R4, R5, b1, b2, b3, b4, b5, c1, c2, c3, c4, c5, k252_230 w1]
  refine s145 (D := D + 9) (RI_of hR (fun a i ha => hfr a i (by unfold RIX at ha; omega))) ?_
  intro σ2 hR2 h0 hf2
  refine (q_kn_v (v := vi (if 0 ≤ (sc.2 (i + 1).toNat).toInt ∧ (sc.2 (i + 1).toNat).toInt ≤ n then 1 else 0))).mpr ?_
  rw [k252_233]
  exact ⟨fun _ => kk σ2 _ _ _ _ (LJ_mk (CI_m hC' (by omega)) hR2 (fun a i ha => hf2 a i (Or.inl ha))) (by dsimp only; omega), fun hne => absurd rfl hne⟩
theorem lw3 (hs : 0 ≤ i ∧ i + 6 ≤ sc.1) (h3 : sc.1 ≤ 3072) (hu : u.1 + 10 ≤ 601024 ∧ u.2 + 50 ≤ 7293034) (hm : m ≤ 100000) (hJ : LJ m σ) (kk : ∀ (σ' : St) (bb' : Bool) (u' : PU) (l5 l6 : V2), LJ (m + 1) σ' → u'.1 ≤ u.1 + 4 ∧ u'.2 ≤ u.2 + 24 → qx sc (D + 50) 252 1480 [vr 1000000, vr 0, vr 136, vr 188, vi i, l5, l6] [] u' bb' σ' Q) : qx sc (D + 50) 252 282 [vr 1000000, vr 0, vr 136, vr 188, vi i, l5, l6] [] u bb σ Q := by
  obtain ⟨c, C, r, L, pl, n, f, ft, inp, len, rfl, hC, hR⟩ := hJ
  have R1 : q_R (i + 1) = True := eq_true (by unfold q_R; omega)
  have b1 : 0 ≤ i + 1 := by omega
  have c1 : i + 1 < (sc.1 : Int) := by omega
  have R2 : q_R (i + 2) = True := eq_true (by unfold q_R; omega)
  have b2 : 0 ≤ i + 2 := by omega
  have c2 : i + 2 < (sc.1 : Int) := by omega
  have R3 : q_R (i + 3) = True := eq_true (by unfold q_R; omega)
  have b3 : 0 ≤ i + 3 := by omega
  have c3 : i + 3 < (sc.1 : Int) := by omega
  have R4 : q_R (i + 4) = True := eq_true (by unfold q_R; omega)
  have b4 : 0 ≤ i + 4 := by omega
  have c4 : i + 4 < (sc.1 : Int) := by omega
  have R5 : q_R (i + 5) = True := eq_true (by unfold q_R; omega)
  have b5 : 0 ≤ i + 5 := by omega
  have c5 : i + 5 < (sc.1 : Int) := by omega
  simp only [k252_282, true_implies, false_implies, not_true_eq_false, not_false_eq_true, true_and, and_true, implies_true, or_true, true_or, or_false, false_or, Int.reduceEq, Int.one_ne_zero, Nat.reduceEqDiff, R1, R2, R3, R4, R5, b1, b2, b3, b4, b5, c1, c2, c3, c4, c5, k252_283 (u := u) (by omega)]
  refine p101 (D := D + 19) hC ?_
  intro c' C' r' hC' hfr
  refine (q_kn_v (v := vi ft) (bb := bb)).mpr ?_
  obtain ⟨u1, hu1⟩ : ∃ u1 : PU, u1 = (u.1 + 0, u.2 + 0) := ⟨_, rfl⟩
  rw [← hu1]
  have w1 : u1.1 + 0 ≤ 601024 ∧ u1.2 + 0 ≤ 7293034 := by rw [hu1]; dsimp only; omega
  have w2 : u1.1 ≤ u.1 + 4 ∧ u1.2 ≤ u.2 + 24 := by rw [hu1]; dsimp only; omega
  clear hu1
  simp only [k252_286, true_implies, false_implies, not_true_eq_false, not_false_eq_true, true_and, and_true, implies_true, or_true, true_or, or_false, false_or, Int.reduceEq, Int.one_ne_zero, Nat.reduceEqDiff, R1, R2, R3, R4, R5, b1, b2, b3, b4, b5, c1, c2, c3, c4, c5, k252_287 w1]
  refine s149 (D := D + 9) (RI_of hR (fun a i ha => hfr a i (by unfold RIX at ha; omega))) ?_
  intro σ2 hR2 h0 hf2
  refine (q_kn_v (v := vi ft)).mpr ?_
  rw [k252_290]
  exact ⟨fun _ => kk σ2 _ _ _ _ (LJ_mk (CI_m hC' (by omega)) hR2 (fun a i ha => hf2 a i (Or.inl ha))) (by dsimp only; omega), fun hne => absurd rfl hne⟩
theorem lw20 (hs : 0 ≤ i ∧ i + 6 ≤ sc.1) (h3 : sc.1 ≤ 3072) (hu : u.1 + 10 ≤ 601024 ∧ u.2 + 50 ≤ 7293034) (hm : m ≤ 100000) (hJ : LJ m σ) (kk : ∀ (σ' : St) (bb' : Bool) (u' : PU) (l5 l6 : V2), LJ (m + 1) σ' → u'.1 ≤ u.1 + 4 ∧ u'.2 ≤ u.2 + 24 → qx sc (D + 50) 252 1480 [vr 1000000, vr 0, vr 136, vr 188, vi i, l5, l6] [] u' bb' σ' Q) : qx sc (D + 50) 252 1455 [vr 1000000, vr 0, vr 136, vr 188, vi i, l5, l6] [] u bb σ Q := by
  obtain ⟨c, C, r, L, pl, n, f, ft, inp, len, rfl, hC, hR⟩ := hJ
  have R1 : q_R (i + 1) = True := eq_true (by unfold q_R; omega)
  have b1 : 0 ≤ i + 1 := by omega
  have c1 : i + 1 < (sc.1 : Int) := by omega
  have R2 : q_R (i + 2) = True := eq_true (by unfold q_R; omega)
  have b2 : 0 ≤ i + 2 := by omega
  have c2 : i + 2 < (sc.1 : Int) := by omega
  have R3 : q_R (i + 3) = True := eq_true (by unfold q_R; omega)
  have b3 : 0 ≤ i + 3 := by omega
  have c3 : i + 3 < (sc.1 : Int) := by omega
  have R4 : q_R (i + 4) = True := eq_true (by unfold q_R; omega)
  have b4 : 0 ≤ i + 4 := by omega
  have c4 : i + 4 < (sc.1 : Int) := by omega
  have R5 : q_R (i + 5) = True := eq_true (by unfold q_R; omega)
  have b5 : 0 ≤ i + 5 := by omega
  have c5 : i + 5 < (sc.1 : Int) := by omega
  simp only [k252_1455, k252_1456, k252_1457, k252_1459, k252_1460, k252_1461, true_implies, false_implies, not_true_eq_false, not_false_eq_true, true_and, and_true, implies_true, or_true, true_or, or_false, false_or, Int.reduceEq, Int.one_ne_zero, Nat.reduceEqDiff, R1, R2, R3, R4, R5, b1, b2, b3, b4, b5, c1, c2, c3, c4, c5, k252_1462 (u := u) (by omega)]
  refine p99 (D := D + 19) hC ?_
  intro c' C' r' hC' hfr
  refine (q_kn_v (v := vi (o_co L pl (sc.2 (i + 1).toNat).toInt)) (bb := bb)).mpr ?_
  obtain ⟨u1, hu1⟩ : ∃ u1 : PU, u1 = (u.1 + 0, u.2 + 0) := ⟨_, rfl⟩
  rw [← hu1]
  have w1 : u1.1 + 0 ≤ 601024 ∧ u1.2 + 0 ≤ 7293034 := by rw [hu1]; dsimp only; omega
  have w2 : u1.1 ≤ u.1 + 4 ∧ u1.2 ≤ u.2 + 24 := by rw [hu1]; dsimp only; omega
  clear hu1
  simp only [k252_1465, k252_1466, k252_1467, k252_1469, k252_1470, k252_1471, true_implies, false_implies, not_true_eq_false, not_false_eq_true, true_and, and_true, implies_true, or_true, true_or, or_false, false_or, Int.reduceEq, Int.one_ne_zero, Nat.reduceEqDiff, R1, R2, R3, R4, R5, b1, b2, b3, b4, b5, c1, c2, c3, c4, c5, k252_1472 w1]
  refine s142 (D := D + 9) (RI_of hR (fun a i ha => hfr a i (by unfold RIX at ha; omega))) ?_
  intro σ2 hR2 h0 hf2
  refine (q_kn_v (v := vi (o_co L pl (sc.2 (i + 1).toNat).toInt))).mpr ?_
  rw [k252_1475]
  exact ⟨fun _ => kk σ2 _ _ _ _ (LJ_mk (CI_m hC' (by omega)) hR2 (fun a i ha => hf2 a i (Or.inl ha))) (by dsimp only; omega), fun hne => absurd rfl hne⟩
theorem lw2 (hs : 0 ≤ i ∧ i + 6 ≤ sc.1) (h3 : sc.1 ≤ 3072) (hu : u.1 + 10 ≤ 601024 ∧ u.2 + 50 ≤ 7293034) (hm : m ≤ 100000) (hJ : LJ m σ) (kk : ∀ (σ' : St) (bb' : Bool) (u' : PU) (l5 l6 : V2), LJ (m + 1) σ' → u'.1 ≤ u.1 + 4 ∧ u'.2 ≤ u.2 + 24 → qx sc (D + 50) 252 1480 [vr 1000000, vr 0, vr 136, vr 188, vi i, l5, l6] [] u' bb' σ' Q) : qx sc (D + 50) 252 238 [vr 1000000, vr 0, vr 136, vr 188, vi i, l5, l6] [] u bb σ Q := by
  obtain ⟨c, C, r, L, pl, n, f, ft, inp, len, rfl, hC, hR⟩ := hJ
  have R1 : q_R (i + 1) = True := eq_true (by unfold q_R; omega)
  have b1 : 0 ≤ i + 1 := by omega
  have c1 : i + 1 < (sc.1 : Int) := by omega
  have R2 : q_R (i + 2) = True := eq_true (by unfold q_R; omega)
  have b2 : 0 ≤ i + 2 := by omega
  have c2 : i + 2 < (sc.1 : Int) := by omega
  have R3 : q_R (i + 3) = True := eq_true (by unfold q_R; omega)
  have b3 : 0 ≤ i + 3 := by omega
  have c3 : i + 3 < (sc.1 : Int) := by omega
  have R4 : q_R (i + 4) = True := eq_true (by unfold q_R; omega)
  have b4 : 0 ≤ i + 4 := by omega
  have c4 : i + 4 < (sc.1 : Int) := by omega
  have R5 : q_R (i + 5) = True := eq_true (by unfold q_R; omega)
  have b5 : 0 ≤ i + 5 := by omega
  have c5 : i + 5 < (sc.1 : Int) := by omega
  simp only [k252_238, k252_239, true_implies, false_implies, not_true_eq_false, not_false_eq_true, true_and, and_true, implies_true, or_true, true_or, or_false, false_or, Int.reduceEq, Int.one_ne_zero, Nat.reduceEqDiff, k252_240 (u := u) (by omega)]
  refine h242 (D := D + 48) (p117 (D := D + 18) hC (fun q hq => ?_) (fun pl' L' cnt z hq => ?_))
  · intro c' C' r' hC' hfr
    obtain ⟨O, hO⟩ : ∃ O : OC, O = .inr (0, 1) := ⟨_, rfl⟩
    rw [← hO]
    have hOt : OCt [(0, 1)] O := by
      rw [hO]; intro p h; cases h; try decide
    refine hk_O hOt ?_
    rw [q_kn_v]
    obtain ⟨u1, hu1⟩ : ∃ u1 : PU, u1 = (u.1 + 4, u.2 + 24) := ⟨_, rfl⟩
    rw [← hu1]
    have w1 : u1.1 + 0 ≤ 601024 ∧ u1.2 + 0 ≤ 7293034 := by rw [hu1]; dsimp only; omega
    have w2 : u1.1 ≤ u.1 + 4 ∧ u1.2 ≤ u.2 + 24 := by rw [hu1]; dsimp only; omega
    clear hu1
    simp only [k252_243, k252_245, true_implies, false_implies, not_true_eq_false, not_false_eq_true, true_and, and_true, implies_true, or_true, true_or, or_false, false_or, Int.reduceEq, Int.one_ne_zero, Nat.reduceEqDiff, k252_246 w1]
    refine s203 (D := D + 9) (RI_cs hR hfr) (fun q' hq' => ?_) (fun pl' L' cnt z hq' => by rw [hq] at hq'; cases hq')
    rw [hq] at hq'
    cases hq'
    intro σ2 hR2 h0 hf2
    rw [← hO] at h0 ⊢
    rw [q_kn_v]
    exact lwT2 (by dsimp only; omega) h0 (fun x hx => by rw [hf2 188 0 (Or.inr rfl)]; exact ocs_188 x hx) (fun p hp => (hOt p hp).2) (fun u' l5 l6 hle => kk σ2 _ u' l5 l6 (LJ_mk (CI_m hC' (by omega)) hR2 (fun a i ha => by rw [hf2 a i (Or.inl ha), ocs_ne (by omega)])) (by dsimp only at hle; omega))
  · intro c' C' r' hC' hfr
    obtain ⟨O, hO⟩ : ∃ O : OC, O = (.inl (nS L')) := ⟨_, rfl⟩
    rw [← hO]
    have hOt : OCt [(0, 1)] O := by
      rw [hO]; intro p h; cases h; try decide
    refine hk_O hOt ?_
    rw [q_kn_v]
    obtain ⟨u1, hu1⟩ : ∃ u1 : PU, u1 = (u.1 + 4, u.2 + 24) := ⟨_, rfl⟩
    rw [← hu1]
    have w1 : u1.1 + 0 ≤ 601024 ∧ u1.2 + 0 ≤ 7293034 := by rw [hu1]; dsimp only; omega
    have w2 : u1.1 ≤ u.1 + 4 ∧ u1.2 ≤ u.2 + 24 := by rw [hu1]; dsimp only; omega
    clear hu1
    simp only [k252_243, k252_245, true_implies, false_implies, not_true_eq_false, not_false_eq_true, true_and, and_true, implies_true, or_true, true_or, or_false, false_or, Int.reduceEq, Int.one_ne_zero, Nat.reduceEqDiff, k252_246 w1]
    refine s203 (D := D + 9) (RI_cs hR hfr) (fun q' hq' => by rw [hq] at hq'; cases hq') (fun pl2 L2 cnt2 z2 hq' => ?_)
    rw [hq] at hq'
    cases hq'
    intro σ2 hR2 h0 hf2
    rw [← hO] at h0 ⊢
    rw [q_kn_v]
    exact lwT2 (by dsimp only; omega) h0 (fun x hx => by rw [hf2 188 0 (Or.inr rfl)]; exact ocs_188 x hx) (fun p hp => (hOt p hp).2) (fun u' l5 l6 hle => kk σ2 _ u' l5 l6 (LJ_mk (CI_m hC' (by omega)) hR2 (fun a i ha => by rw [hf2 a i (Or.inl ha), ocs_ne (by omega)])) (by dsimp only at hle; omega))
theorem op_31 (v : Int32) : 0 ≤ (q_I v.toInt &&& q_I 31).toInt ∧ (q_I v.toInt &&& q_I 31).toInt ≤ 31 := by
  unfold q_I
  rw [Int32.ofInt_toInt]
  have e : (v &&& Int32.ofInt 31).toBitVec = BitVec.ofNat 32 (v.toBitVec.toNat &&& 31) := by
    apply BitVec.eq_of_toNat_eq
    rw [BitVec.toNat_ofNat]
    have h1 : (v &&& Int32.ofInt 31).toBitVec.toNat = v.toBitVec.toNat &&& 31 := rfl
    have h2 : v.toBitVec.toNat &&& 31 ≤ 31 := Nat.and_le_right
    rw [h1, Nat.mod_eq_of_lt (by omega)]
  have h2 : v.toBitVec.toNat &&& 31 ≤ 31 := Nat.and_le_right
  rw [← Int32.toInt_toBitVec, e, BitVec.toInt_eq_toNat_of_lt (by rw [BitVec.toNat_ofNat]; omega), BitVec.toNat_ofNat, Nat.mod_eq_of_lt (by omega)]
  omega
theorem law_l (h3 : sc.1 ≤ 3072) (hQ : ∀ bb' σ', Q (.inl (some (vi 1))) bb' σ') : ∀ (d k : Nat) (u : PU) (bb : Bool) (σ : St) (l5 l6 : V2), k + d = 600 → 6 * (k : Int) ≤ sc.1 + 6 → u.1 ≤ 1000 + 4 * k ∧ u.2 ≤ 100000 + 24 * k → LJ k σ → qx sc (D + 50) 252 23 [vr 1000000, vr 0, vr 136, vr 188, vi (6 * (k : Int)), l5, l6] [] u bb σ Q := by
  intro d
  induction d with
  | zero => intro k u bb σ l5 l6 hk h6; omega
  | succ d ih =>
    intro k u bb σ l5 l6 hk h6 hu hJ
    have R0 : q_R (sc.1 : Int) = True := eq_true (by unfold q_R; omega)
    have R1 : q_R ((sc.1 : Int) - 6) = True := eq_true (by unfold q_R; omega)
    rw [k252_23]
    simp only [k252_25, k252_26, k252_27, k252_29, k252_30, R0, R1, true_implies, false_implies, not_true_eq_false, not_false_eq_true, true_and, and_true, implies_true, or_true, true_or, or_false, false_or, Int.reduceEq, Int.one_ne_zero, Nat.reduceEqDiff]
    refine ⟨fun hgt => ?_, fun hle => ?_⟩
    · rw [k252_1486, k252_1487 (by omega)]
      exact ⟨Or.inr rfl, hQ _ _⟩
    have i0 : (0 : Int) ≤ 6 * (k : Int) := by omega
    have i1 : 6 * (k : Int) < (sc.1 : Int) := by omega
    have hs : 0 ≤ 6 * (k : Int) ∧ 6 * (k : Int) + 6 ≤ sc.1 := by omega
    have hu' : u.1 + 10 ≤ 601024 ∧ u.2 + 50 ≤ 7293034 := by omega
    have hm : (k : Int) ≤ 100000 := by omega
    simp only [k252_33, k252_34, k252_36, k252_37, k252_39, k252_40, i0, i1, true_implies, false_implies, not_true_eq_false, not_false_eq_true, true_and, and_true, implies_true, or_true, true_or, or_false, false_or, Int.reduceEq, Int.one_ne_zero, Nat.reduceEqDiff]
    obtain ⟨o0, o1⟩ := op_31 (sc.2 (6 * (k : Int)).toNat)
    generalize (q_I (sc.2 (6 * (k : Int)).toNat).toInt &&& q_I 31).toInt = o at o0 o1
    have nx : ∀ (σ' : St) (bb' : Bool) (u' : PU) (l5 l6 : V2), LJ ((k : Int) + 1) σ' → u'.1 ≤ u.1 + 4 ∧ u'.2 ≤ u.2 + 24 → qx sc (D + 50) 252 1480 [vr 1000000, vr 0, vr 136, vr 188, vi (6 * (k : Int)), l5, l6] [] u' bb' σ' Q := by
      intro σ' bb' u' l5 l6 hJ' hle'
      have R2 : q_R (6 * (k : Int) + 6) = True := eq_true (by unfold q_R; omega)
      simp only [k252_1480, k252_1483, R2, true_implies, false_implies, not_true_eq_false, not_false_eq_true, true_and, and_true, implies_true, or_true, true_or, or_false, false_or, Int.reduceEq, Int.one_ne_zero, Nat.reduceEqDiff]
      have e : 6 * (k : Int) + 6 = 6 * ((k + 1 : Nat) : Int) := by omega
      rw [e]
      refine ih (k + 1) u' bb' σ' l5 l6 (by omega) (by omega) (by omega) ?_
      rw [Int.natCast_add]; exact hJ'
    have hJ1 : LJ ((k : Int) + 1) σ := by
      obtain ⟨c, C, r, L, pl, n, f, ft, inp, len, e, hC, hR⟩ := hJ
      exact ⟨c, C, r, L, pl, n, f, ft, inp, len, e, CI_m hC (by omega), hR⟩
    by_cases h20 : 20 < o
    · rw [if_pos (Or.inr h20)]
      exact nx σ bb u l5 l6 hJ1 (by omega)
    · rw [if_neg (by omega)]
      rcases (show o = 0 ∨ o = 1 ∨ o = 2 ∨ o = 3 ∨ o = 4 ∨ o = 5 ∨ o = 6 ∨ o = 7 ∨ o = 8 ∨ o = 9 ∨ o = 10 ∨ o = 11 ∨ o = 12 ∨ o = 13 ∨ o = 14 ∨ o = 15 ∨ o = 16 ∨ o = 17 ∨ o = 18 ∨ o = 19 ∨ o = 20 by omega) with rfl | rfl | rfl | rfl | rfl | rfl | rfl | rfl | rfl | rfl | rfl | rfl | rfl | rfl | rfl | rfl | rfl | rfl | rfl | rfl | rfl
      · exact lw0 (D := D) hs h3 hu' hm hJ nx
      · exact lw1 (D := D) hs h3 hu' hm hJ nx
      · exact lw2 (D := D) hs h3 hu' hm hJ nx
      · exact lw3 (D := D) hs h3 hu' hm hJ nx
      · exact lw4 (D := D) hs h3 hu' hm hJ nx
      · exact lw5 (D := D) hs h3 hu' hm hJ nx
      · exact lw6 (D := D) hs h3 hu' hm hJ nx
      · exact lw7 (D := D) hs h3 hu' hm hJ nx
      · exact lw8 (D := D) hs h3 hu' hm hJ nx
      · exact lw9 (D := D) hs h3 hu' hm hJ nx
      · exact lw10 (D := D) hs h3 hu' hm hJ nx
      · exact lw11 (D := D) hs h3 hu' hm hJ nx
      · exact lw12 (D := D) hs h3 hu' hm hJ nx
      · exact lw13 (D := D) hs h3 hu' hm hJ nx
      · exact lw14 (D := D) hs h3 hu' hm hJ nx
      · exact lw15 (D := D) hs h3 hu' hm hJ nx
      · exact lw16 (D := D) hs h3 hu' hm hJ nx
      · exact lw17 (D := D) hs h3 hu' hm hJ nx
      · exact lw18 (D := D) hs h3 hu' hm hJ nx
      · exact lw19 (D := D) hs h3 hu' hm hJ nx
      · exact lw20 (D := D) hs h3 hu' hm hJ nx
end LWL
