/-! the law, way by way -/
section LWO
variable {sc : Nat × (Nat → Int32)} {D : Nat} {u : PU} {bb : Bool} {Q : QP} {c : Nat} {C r σ σ1 ρ : St} {m : Int} {L : List (ST 5)} {pl f inp len F : Int → Int} {n ft i a b x k w v l s ab how lo hi : Int} {O : OC} {l5 l6 : V2}
theorem ot4 : OCt [(1, 1), (2, 2)] (o_st L a b) := by
  intro p h
  unfold o_st o_in o_wh at h
  (repeat' split at h) <;> cases h <;> decide
theorem lw4 (hs : 0 ≤ i ∧ i + 6 ≤ sc.1) (h3 : sc.1 ≤ 3072) (hu : u.1 + 10 ≤ 601024 ∧ u.2 + 50 ≤ 7293034) (hm : m ≤ 100000) (hJ : LJ m σ) (kk : ∀ (σ' : St) (bb' : Bool) (u' : PU) (l5 l6 : V2), LJ (m + 1) σ' → u'.1 ≤ u.1 + 4 ∧ u'.2 ≤ u.2 + 24 → qx sc (D + 50) 252 1480 [vr 1000000, vr 0, vr 136, vr 188, vi i, l5, l6] [] u' bb' σ' Q) : qx sc (D + 50) 252 295 [vr 1000000, vr 0, vr 136, vr 188, vi i, l5, l6] [] u bb σ Q := by
  obtain ⟨c, C, r, L, pl, n, f, ft, inp, len, rfl, hC, hR⟩ := hJ
  have R1 : q_R (i + 1) = True := eq_true (by unfold q_R; omega)
  have b1 : 0 ≤ i + 1 := by omega
  have c1 : i + 1 < (sc.1 : Int) := by omega
  have R2 : q_R (i + 2) = True := eq_true (by unfold q_R; omega)
  have b2 : 0 ≤ i + 2 := by omega
  have c2 : i + 2 < (sc.1 : Int) := by omega
  have R3 : q_R (i + 3) = True := eq_true (by unfold q_R; omega)
  have b3 : 0 ≤ i + 3 := by omega
  have c3 : i + 3 < (sc.1 : Int) := by omega
  have R4 : q_R (i + 4) = True := eq_true (by unfold q_R; omega)
  have b4 : 0 ≤ i + 4 := by omega
  have c4 : i + 4 < (sc.1 : Int) := by omega
  have R5 : q_R (i + 5) = True := eq_true (by unfold q_R; omega)
  have b5 : 0 ≤ i + 5 := by omega
  have c5 : i + 5 < (sc.1 : Int) := by omega
  simp only [k252_295, k252_296, k252_297, k252_299, k252_300, k252_301, k252_302, k252_303, k252_305, k252_306, k252_307, k252_308, true_implies, false_implies, not_true_eq_false, not_false_eq_true, true_and, and_true, implies_true, or_true, true_or, or_false, false_or, Int.reduceEq, Int.one_ne_zero, Nat.reduceEqDiff, R1, R2, R3, R4, R5, b1, b2, b3, b4, b5, c1, c2, c3, c4, c5, k252_309 (u := u) (by omega)]
  refine h246 (D := D + 48) (p121 (D := D + 18) hC ?_)
  intro c' C' r' hC' hfr
  obtain ⟨O, hO⟩ : ∃ O, O = o_st L (sc.2 (i + 1).toNat).toInt (sc.2 (i + 2).toNat).toInt := ⟨_, rfl⟩
  rw [← hO]
  have hOt : OCt [(1, 1), (2, 2)] O := by rw [hO]; exact ot4
  refine hk_O hOt ?_
  rw [q_kn_v]
  obtain ⟨u1, hu1⟩ : ∃ u1 : PU, u1 = (u.1 + 4, u.2 + 24) := ⟨_, rfl⟩
  rw [← hu1]
  have w1 : u1.1 + 0 ≤ 601024 ∧ u1.2 + 0 ≤ 7293034 := by rw [hu1]; dsimp only; omega
  have w2 : u1.1 ≤ u.1 + 4 ∧ u1.2 ≤ u.2 + 24 := by rw [hu1]; dsimp only; omega
  clear hu1
  simp only [k252_312, k252_314, k252_315, k252_316, k252_318, k252_319, k252_320, k252_321, k252_322, k252_324, k252_325, k252_326, true_implies, false_implies, not_true_eq_false, not_false_eq_true, true_and, and_true, implies_true, or_true, true_or, or_false, false_or, Int.reduceEq, Int.one_ne_zero, Nat.reduceEqDiff, R1, R2, R3, R4, R5, b1, b2, b3, b4, b5, c1, c2, c3, c4, c5, k252_327 w1]
  refine s216 (D := D + 9) (RI_cs hR hfr) ?_
  intro σ2 hR2 h0 hf2
  rw [← hO] at h0 ⊢
  rw [q_kn_v]
  refine lwT4 (by dsimp only; omega) h0 (fun x hx => by rw [hf2 188 0 (Or.inr rfl)]; exact ocs_188 x hx) (fun p hp => (hOt p hp).2) (fun u' l5 l6 hle => kk σ2 _ u' l5 l6 (LJ_mk (CI_m hC' (by omega)) hR2 (fun a i ha => by rw [hf2 a i (Or.inl ha), ocs_ne (by omega)])) (by dsimp only at hle; omega))
theorem ot5 : OCt [(1, 1), (2, 2)] (o_ve L a b) := by
  intro p h
  unfold o_ve o_in o_wh at h
  (repeat' split at h) <;> cases h <;> decide
theorem lw5 (hs : 0 ≤ i ∧ i + 6 ≤ sc.1) (h3 : sc.1 ≤ 3072) (hu : u.1 + 10 ≤ 601024 ∧ u.2 + 50 ≤ 7293034) (hm : m ≤ 100000) (hJ : LJ m σ) (kk : ∀ (σ' : St) (bb' : Bool) (u' : PU) (l5 l6 : V2), LJ (m + 1) σ' → u'.1 ≤ u.1 + 4 ∧ u'.2 ≤ u.2 + 24 → qx sc (D + 50) 252 1480 [vr 1000000, vr 0, vr 136, vr 188, vi i, l5, l6] [] u' bb' σ' Q) : qx sc (D + 50) 252 363 [vr 1000000, vr 0, vr 136, vr 188, vi i, l5, l6] [] u bb σ Q := by
  obtain ⟨c, C, r, L, pl, n, f, ft, inp, len, rfl, hC, hR⟩ := hJ
  have R1 : q_R (i + 1) = True := eq_true (by unfold q_R; omega)
  have b1 : 0 ≤ i + 1 := by omega
  have c1 : i + 1 < (sc.1 : Int) := by omega
  have R2 : q_R (i + 2) = True := eq_true (by unfold q_R; omega)
  have b2 : 0 ≤ i + 2 := by omega
  have c2 : i + 2 < (sc.1 : Int) := by omega
  have R3 : q_R (i + 3) = True := eq_true (by unfold q_R; omega)
  have b3 : 0 ≤ i + 3 := by omega
  have c3 : i + 3 < (sc.1 : Int) := by omega
  have R4 : q_R (i + 4) = True := eq_true (by unfold q_R; omega)
  have b4 : 0 ≤ i + 4 := by omega
  have c4 : i + 4 < (sc.1 : Int) := by omega
  have R5 : q_R (i + 5) = True := eq_true (by unfold q_R; omega)
  have b5 : 0 ≤ i + 5 := by omega
  have c5 : i + 5 < (sc.1 : Int) := by omega
  simp only [k252_363, k252_364, k252_365, k252_367, k252_368, k252_369, k252_370, k252_371, k252_373, k252_374, k252_375, k252_376, true_implies, false_implies, not_true_eq_false, not_false_eq_true, true_and, and_true, implies_true, or_true, true_or, or_false, false_or, Int.reduceEq, Int.one_ne_zero, Nat.reduceEqDiff, R1, R2, R3, R4, R5, b1, b2, b3, b4, b5, c1, c2, c3, c4, c5, k252_377 (u := u) (by omega)]
  refine h247 (D := D + 48) (p123 (D := D + 18) hC ?_)
  intro c' C' r' hC' hfr
  obtain ⟨O, hO⟩ : ∃ O, O = o_ve L (sc.2 (i + 1).toNat).toInt (sc.2 (i + 2).toNat).toInt := ⟨_, rfl⟩
  rw [← hO]
  have hOt : OCt [(1, 1), (2, 2)] O := by rw [hO]; exact ot5
  refine hk_O hOt ?_
  rw [q_kn_v]
  obtain ⟨u1, hu1⟩ : ∃ u1 : PU, u1 = (u.1 + 4, u.2 + 24) := ⟨_, rfl⟩
  rw [← hu1]
  have w1 : u1.1 + 0 ≤ 601024 ∧ u1.2 + 0 ≤ 7293034 := by rw [hu1]; dsimp only; omega
  have w2 : u1.1 ≤ u.1 + 4 ∧ u1.2 ≤ u.2 + 24 := by rw [hu1]; dsimp only; omega
  clear hu1
  simp only [k252_380, k252_382, k252_383, k252_384, k252_386, k252_387, k252_388, k252_389, k252_390, k252_392, k252_393, k252_394, true_implies, false_implies, not_true_eq_false, not_false_eq_true, true_and, and_true, implies_true, or_true, true_or, or_false, false_or, Int.reduceEq, Int.one_ne_zero, Nat.reduceEqDiff, R1, R2, R3, R4, R5, b1, b2, b3, b4, b5, c1, c2, c3, c4, c5, k252_395 w1]
  refine s229 (D := D + 9) (RI_cs hR hfr) ?_
  intro σ2 hR2 h0 hf2
  rw [← hO] at h0 ⊢
  rw [q_kn_v]
  refine lwT5 (by dsimp only; omega) h0 (fun x hx => by rw [hf2 188 0 (Or.inr rfl)]; exact ocs_188 x hx) (fun p hp => (hOt p hp).2) (fun u' l5 l6 hle => kk σ2 _ u' l5 l6 (LJ_mk (CI_m hC' (by omega)) hR2 (fun a i ha => by rw [hf2 a i (Or.inl ha), ocs_ne (by omega)])) (by dsimp only at hle; omega))
theorem ot6 : OCt [(1, 1), (3, 2)] (o_ab L pl a b) := by
  intro p h
  unfold o_ab o_in at h
  (repeat' split at h) <;> cases h <;> decide
theorem lw6 (hs : 0 ≤ i ∧ i + 6 ≤ sc.1) (h3 : sc.1 ≤ 3072) (hu : u.1 + 10 ≤ 601024 ∧ u.2 + 50 ≤ 7293034) (hm : m ≤ 100000) (hJ : LJ m σ) (kk : ∀ (σ' : St) (bb' : Bool) (u' : PU) (l5 l6 : V2), LJ (m + 1) σ' → u'.1 ≤ u.1 + 4 ∧ u'.2 ≤ u.2 + 24 → qx sc (D + 50) 252 1480 [vr 1000000, vr 0, vr 136, vr 188, vi i, l5, l6] [] u' bb' σ' Q) : qx sc (D + 50) 252 431 [vr 1000000, vr 0, vr 136, vr 188, vi i, l5, l6] [] u bb σ Q := by
  obtain ⟨c, C, r, L, pl, n, f, ft, inp, len, rfl, hC, hR⟩ := hJ
  have R1 : q_R (i + 1) = True := eq_true (by unfold q_R; omega)
  have b1 : 0 ≤ i + 1 := by omega
  have c1 : i + 1 < (sc.1 : Int) := by omega
  have R2 : q_R (i + 2) = True := eq_true (by unfold q_R; omega)
  have b2 : 0 ≤ i + 2 := by omega
  have c2 : i + 2 < (sc.1 : Int) := by omega
  have R3 : q_R (i + 3) = True := eq_true (by unfold q_R; omega)
  have b3 : 0 ≤ i + 3 := by omega
  have c3 : i + 3 < (sc.1 : Int) := by omega
  have R4 : q_R (i + 4) = True := eq_true (by unfold q_R; omega)
  have b4 : 0 ≤ i + 4 := by omega
  have c4 : i + 4 < (sc.1 : Int) := by omega
  have R5 : q_R (i + 5) = True := eq_true (by unfold q_R; omega)
  have b5 : 0 ≤ i + 5 := by omega
  have c5 : i + 5 < (sc.1 : Int) := by omega
  simp only [k252_431, k252_432, k252_433, k252_435, k252_436, k252_437, k252_438, k252_439, k252_441, k252_442, k252_443, k252_444, true_implies, false_implies, not_true_eq_false, not_false_eq_true, true_and, and_true, implies_true, or_true, true_or, or_false, false_or, Int.reduceEq, Int.one_ne_zero, Nat.reduceEqDiff, R1, R2, R3, R4, R5, b1, b2, b3, b4, b5, c1, c2, c3, c4, c5, k252_445 (u := u) (by omega)]
  refine h232 (D := D + 48) (p94 (D := D + 18) hC ?_)
  intro c' C' r' hC' hfr
  obtain ⟨O, hO⟩ : ∃ O, O = o_ab L pl (sc.2 (i + 1).toNat).toInt (sc.2 (i + 2).toNat).toInt := ⟨_, rfl⟩
  rw [← hO]
  have hOt : OCt [(1, 1), (3, 2)] O := by rw [hO]; exact ot6
  refine hk_O hOt ?_
  rw [q_kn_v]
  obtain ⟨u1, hu1⟩ : ∃ u1 : PU, u1 = (u.1 + 4, u.2 + 24) := ⟨_, rfl⟩
  rw [← hu1]
  have w1 : u1.1 + 0 ≤ 601024 ∧ u1.2 + 0 ≤ 7293034 := by rw [hu1]; dsimp only; omega
  have w2 : u1.1 ≤ u.1 + 4 ∧ u1.2 ≤ u.2 + 24 := by rw [hu1]; dsimp only; omega
  clear hu1
  simp only [k252_448, k252_450, k252_451, k252_452, k252_454, k252_455, k252_456, k252_457, k252_458, k252_460, k252_461, k252_462, true_implies, false_implies, not_true_eq_false, not_false_eq_true, true_and, and_true, implies_true, or_true, true_or, or_false, false_or, Int.reduceEq, Int.one_ne_zero, Nat.reduceEqDiff, R1, R2, R3, R4, R5, b1, b2, b3, b4, b5, c1, c2, c3, c4, c5, k252_463 w1]
  refine s126 (D := D + 9) (RI_cs hR hfr) ?_
  intro σ2 hR2 h0 hf2
  rw [← hO] at h0 ⊢
  rw [q_kn_v]
  refine lwT6 (by dsimp only; omega) h0 (fun x hx => by rw [hf2 188 0 (Or.inr rfl)]; exact ocs_188 x hx) (fun p hp => (hOt p hp).2) (fun u' l5 l6 hle => kk σ2 _ u' l5 l6 (LJ_mk (CI_m hC' (by omega)) hR2 (fun a i ha => by rw [hf2 a i (Or.inl ha), ocs_ne (by omega)])) (by dsimp only at hle; omega))
theorem ot7 : OCt [(1, 1)] (o_be L pl a) := by
  intro p h
  unfold o_be o_in at h
  (repeat' split at h) <;> cases h <;> decide
theorem lw7 (hs : 0 ≤ i ∧ i + 6 ≤ sc.1) (h3 : sc.1 ≤ 3072) (hu : u.1 + 10 ≤ 601024 ∧ u.2 + 50 ≤ 7293034) (hm : m ≤ 100000) (hJ : LJ m σ) (kk : ∀ (σ' : St) (bb' : Bool) (u' : PU) (l5 l6 : V2), LJ (m + 1) σ' → u'.1 ≤ u.1 + 4 ∧ u'.2 ≤ u.2 + 24 → qx sc (D + 50) 252 1480 [vr 1000000, vr 0, vr 136, vr 188, vi i, l5, l6] [] u' bb' σ' Q) : qx sc (D + 50) 252 499 [vr 1000000, vr 0, vr 136, vr 188, vi i, l5, l6] [] u bb σ Q := by
  obtain ⟨c, C, r, L, pl, n, f, ft, inp, len, rfl, hC, hR⟩ := hJ
  have R1 : q_R (i + 1) = True := eq_true (by unfold q_R; omega)
  have b1 : 0 ≤ i + 1 := by omega
  have c1 : i + 1 < (sc.1 : Int) := by omega
  have R2 : q_R (i + 2) = True := eq_true (by unfold q_R; omega)
  have b2 : 0 ≤ i + 2 := by omega
  have c2 : i + 2 < (sc.1 : Int) := by omega
  have R3 : q_R (i + 3) = True := eq_true (by unfold q_R; omega)
  have b3 : 0 ≤ i + 3 := by omega
  have c3 : i + 3 < (sc.1 : Int) := by omega
  have R4 : q_R (i + 4) = True := eq_true (by unfold q_R; omega)
  have b4 : 0 ≤ i + 4 := by omega
  have c4 : i + 4 < (sc.1 : Int) := by omega
  have R5 : q_R (i + 5) = True := eq_true (by unfold q_R; omega)
  have b5 : 0 ≤ i + 5 := by omega
  have c5 : i + 5 < (sc.1 : Int) := by omega
  simp only [k252_499, k252_500, k252_501, k252_503, k252_504, k252_505, k252_506, true_implies, false_implies, not_true_eq_false, not_false_eq_true, true_and, and_true, implies_true, or_true, true_or, or_false, false_or, Int.reduceEq, Int.one_ne_zero, Nat.reduceEqDiff, R1, R2, R3, R4, R5, b1, b2, b3, b4, b5, c1, c2, c3, c4, c5, k252_507 (u := u) (by omega)]
  refine h233 (D := D + 48) (p96 (D := D + 18) hC ?_)
  intro c' C' r' hC' hfr
  obtain ⟨O, hO⟩ : ∃ O, O = o_be L pl (sc.2 (i + 1).toNat).toInt := ⟨_, rfl⟩
  rw [← hO]
  have hOt : OCt [(1, 1)] O := by rw [hO]; exact ot7
  refine hk_O hOt ?_
  rw [q_kn_v]
  obtain ⟨u1, hu1⟩ : ∃ u1 : PU, u1 = (u.1 + 4, u.2 + 24) := ⟨_, rfl⟩
  rw [← hu1]
  have w1 : u1.1 + 0 ≤ 601024 ∧ u1.2 + 0 ≤ 7293034 := by rw [hu1]; dsimp only; omega
  have w2 : u1.1 ≤ u.1 + 4 ∧ u1.2 ≤ u.2 + 24 := by rw [hu1]; dsimp only; omega
  clear hu1
  simp only [k252_510, k252_512, k252_513, k252_514, k252_516, k252_517, k252_518, true_implies, false_implies, not_true_eq_false, not_false_eq_true, true_and, and_true, implies_true, or_true, true_or, or_false, false_or, Int.reduceEq, Int.one_ne_zero, Nat.reduceEqDiff, R1, R2, R3, R4, R5, b1, b2, b3, b4, b5, c1, c2, c3, c4, c5, k252_519 w1]
  refine s129 (D := D + 9) (RI_cs hR hfr) ?_
  intro σ2 hR2 h0 hf2
  rw [← hO] at h0 ⊢
  rw [q_kn_v]
  refine lwT7 (by dsimp only; omega) h0 (fun x hx => by rw [hf2 188 0 (Or.inr rfl)]; exact ocs_188 x hx) (fun p hp => (hOt p hp).2) (fun u' l5 l6 hle => kk σ2 _ u' l5 l6 (LJ_mk (CI_m hC' (by omega)) hR2 (fun a i ha => by rw [hf2 a i (Or.inl ha), ocs_ne (by omega)])) (by dsimp only at hle; omega))
theorem ot8 : OCt [(1, 1), (2, 2)] (o_ch L pl a b) := by
  intro p h
  unfold o_ch o_in o_wh at h
  (repeat' split at h) <;> cases h <;> decide
theorem lw8 (hs : 0 ≤ i ∧ i + 6 ≤ sc.1) (h3 : sc.1 ≤ 3072) (hu : u.1 + 10 ≤ 601024 ∧ u.2 + 50 ≤ 7293034) (hm : m ≤ 100000) (hJ : LJ m σ) (kk : ∀ (σ' : St) (bb' : Bool) (u' : PU) (l5 l6 : V2), LJ (m + 1) σ' → u'.1 ≤ u.1 + 4 ∧ u'.2 ≤ u.2 + 24 → qx sc (D + 50) 252 1480 [vr 1000000, vr 0, vr 136, vr 188, vi i, l5, l6] [] u' bb' σ' Q) : qx sc (D + 50) 252 555 [vr 1000000, vr 0, vr 136, vr 188, vi i, l5, l6] [] u bb σ Q := by
  obtain ⟨c, C, r, L, pl, n, f, ft, inp, len, rfl, hC, hR⟩ := hJ
  have R1 : q_R (i + 1) = True := eq_true (by unfold q_R; omega)
  have b1 : 0 ≤ i + 1 := by omega
  have c1 : i + 1 < (sc.1 : Int) := by omega
  have R2 : q_R (i + 2) = True := eq_true (by unfold q_R; omega)
  have b2 : 0 ≤ i + 2 := by omega
  have c2 : i + 2 < (sc.1 : Int) := by omega
  have R3 : q_R (i + 3) = True := eq_true (by unfold q_R; omega)
  have b3 : 0 ≤ i + 3 := by omega
  have c3 : i + 3 < (sc.1 : Int) := by omega
  have R4 : q_R (i + 4) = True := eq_true (by unfold q_R; omega)
  have b4 : 0 ≤ i + 4 := by omega
  have c4 : i + 4 < (sc.1 : Int) := by omega
  have R5 : q_R (i + 5) = True := eq_true (by unfold q_R; omega)
  have b5 : 0 ≤ i + 5 := by omega
  have c5 : i + 5 < (sc.1 : Int) := by omega
  simp only [k252_555, k252_556, k252_557, k252_559, k252_560, k252_561, k252_562, k252_563, k252_565, k252_566, k252_567, k252_568, true_implies, false_implies, not_true_eq_false, not_false_eq_true, true_and, and_true, implies_true, or_true, true_or, or_false, false_or, Int.reduceEq, Int.one_ne_zero, Nat.reduceEqDiff, R1, R2, R3, R4, R5, b1, b2, b3, b4, b5, c1, c2, c3, c4, c5, k252_569 (u := u) (by omega)]
  refine h235 (D := D + 48) (p98 (D := D + 18) hC ?_)
  intro c' C' r' hC' hfr
  obtain ⟨O, hO⟩ : ∃ O, O = o_ch L pl (sc.2 (i + 1).toNat).toInt (sc.2 (i + 2).toNat).toInt := ⟨_, rfl⟩
  rw [← hO]
  have hOt : OCt [(1, 1), (2, 2)] O := by rw [hO]; exact ot8
  refine hk_O hOt ?_
  rw [q_kn_v]
  obtain ⟨u1, hu1⟩ : ∃ u1 : PU, u1 = (u.1 + 4, u.2 + 24) := ⟨_, rfl⟩
  rw [← hu1]
  have w1 : u1.1 + 0 ≤ 601024 ∧ u1.2 + 0 ≤ 7293034 := by rw [hu1]; dsimp only; omega
  have w2 : u1.1 ≤ u.1 + 4 ∧ u1.2 ≤ u.2 + 24 := by rw [hu1]; dsimp only; omega
  clear hu1
  simp only [k252_572, k252_574, k252_575, k252_576, k252_578, k252_579, k252_580, k252_581, k252_582, k252_584, k252_585, k252_586, true_implies, false_implies, not_true_eq_false, not_false_eq_true, true_and, and_true, implies_true, or_true, true_or, or_false, false_or, Int.reduceEq, Int.one_ne_zero, Nat.reduceEqDiff, R1, R2, R3, R4, R5, b1, b2, b3, b4, b5, c1, c2, c3, c4, c5, k252_587 w1]
  refine s137 (D := D + 9) (RI_cs hR hfr) ?_
  intro σ2 hR2 h0 hf2
  rw [← hO] at h0 ⊢
  rw [q_kn_v]
  refine lwT8 (by dsimp only; omega) h0 (fun x hx => by rw [hf2 188 0 (Or.inr rfl)]; exact ocs_188 x hx) (fun p hp => (hOt p hp).2) (fun u' l5 l6 hle => kk σ2 _ u' l5 l6 (LJ_mk (CI_m hC' (by omega)) hR2 (fun a i ha => by rw [hf2 a i (Or.inl ha), ocs_ne (by omega)])) (by dsimp only at hle; omega))
theorem ot9 : OCt [(1, 1), (3, 2)] (o_cn L pl a ab x) := by
  intro p h
  unfold o_cn o_in at h
  (repeat' split at h) <;> cases h <;> decide
theorem lw9 (hs : 0 ≤ i ∧ i + 6 ≤ sc.1) (h3 : sc.1 ≤ 3072) (hu : u.1 + 10 ≤ 601024 ∧ u.2 + 50 ≤ 7293034) (hm : m ≤ 100000) (hJ : LJ m σ) (kk : ∀ (σ' : St) (bb' : Bool) (u' : PU) (l5 l6 : V2), LJ (m + 1) σ' → u'.1 ≤ u.1 + 4 ∧ u'.2 ≤ u.2 + 24 → qx sc (D + 50) 252 1480 [vr 1000000, vr 0, vr 136, vr 188, vi i, l5, l6] [] u' bb' σ' Q) : qx sc (D + 50) 252 623 [vr 1000000, vr 0, vr 136, vr 188, vi i, l5, l6] [] u bb σ Q := by
  obtain ⟨c, C, r, L, pl, n, f, ft, inp, len, rfl, hC, hR⟩ := hJ
  have R1 : q_R (i + 1) = True := eq_true (by unfold q_R; omega)
  have b1 : 0 ≤ i + 1 := by omega
  have c1 : i + 1 < (sc.1 : Int) := by omega
  have R2 : q_R (i + 2) = True := eq_true (by unfold q_R; omega)
  have b2 : 0 ≤ i + 2 := by omega
  have c2 : i + 2 < (sc.1 : Int) := by omega
  have R3 : q_R (i + 3) = True := eq_true (by unfold q_R; omega)
  have b3 : 0 ≤ i + 3 := by omega
  have c3 : i + 3 < (sc.1 : Int) := by omega
  have R4 : q_R (i + 4) = True := eq_true (by unfold q_R; omega)
  have b4 : 0 ≤ i + 4 := by omega
  have c4 : i + 4 < (sc.1 : Int) := by omega
  have R5 : q_R (i + 5) = True := eq_true (by unfold q_R; omega)
  have b5 : 0 ≤ i + 5 := by omega
  have c5 : i + 5 < (sc.1 : Int) := by omega
  by_cases hz : (sc.2 (i + 2).toNat).toInt = 0
  · simp only [k252_623, k252_624, k252_625, k252_627, k252_628, k252_629, k252_630, k252_631, k252_633, k252_634, k252_635, k252_636, k252_639, k252_640, k252_643, k252_644, k252_645, k252_647, k252_648, k252_649, k252_650, true_implies, false_implies, not_true_eq_false, not_false_eq_true, true_and, and_true, implies_true, or_true, true_or, or_false, false_or, Int.reduceEq, Int.one_ne_zero, Nat.reduceEqDiff, R1, R2, R3, R4, R5, b1, b2, b3, b4, b5, c1, c2, c3, c4, c5, hz, k252_651 (u := u) (by omega)]
    refine h234 (D := D + 48) (p97 (D := D + 18) hC hm (Or.inl rfl) ?_)
    intro c' C' r' hC' hfr
    obtain ⟨O, hO⟩ : ∃ O, O = o_cn L pl (sc.2 (i + 1).toNat).toInt 0 (sc.2 (i + 3).toNat).toInt := ⟨_, rfl⟩
    rw [← hO]
    have hOt : OCt [(1, 1), (3, 2)] O := by rw [hO]; exact ot9
    refine hk_O hOt ?_
    rw [q_kn_v]
    obtain ⟨u1, hu1⟩ : ∃ u1 : PU, u1 = (u.1 + 4, u.2 + 24) := ⟨_, rfl⟩
    rw [← hu1]
    have w1 : u1.1 + 0 ≤ 601024 ∧ u1.2 + 0 ≤ 7293034 := by rw [hu1]; dsimp only; omega
    have w2 : u1.1 ≤ u.1 + 4 ∧ u1.2 ≤ u.2 + 24 := by rw [hu1]; dsimp only; omega
    clear hu1
    simp only [k252_654, k252_656, k252_657, k252_658, k252_660, k252_661, k252_662, k252_663, k252_664, k252_666, k252_667, k252_668, k252_669, k252_672, k252_673, k252_676, k252_677, k252_678, k252_680, k252_681, k252_682, true_implies, false_implies, not_true_eq_false, not_false_eq_true, true_and, and_true, implies_true, or_true, true_or, or_false, false_or, Int.reduceEq, Int.one_ne_zero, Nat.reduceEqDiff, R1, R2, R3, R4, R5, b1, b2, b3, b4, b5, c1, c2, c3, c4, c5, hz, k252_683 w1]
    refine s136 (D := D + 9) (RI_cs hR hfr) (Or.inl rfl) ?_
    intro σ2 hR2 h0 hf2
    rw [← hO] at h0 ⊢
    rw [q_kn_v]
    refine lwT9 (by dsimp only; omega) h0 (fun x hx => by rw [hf2 188 0 (Or.inr rfl)]; exact ocs_188 x hx) (fun p hp => (hOt p hp).2) (fun u' l5 l6 hle => kk σ2 _ u' l5 l6 (LJ_mk (hC') hR2 (fun a i ha => by rw [hf2 a i (Or.inl ha), ocs_ne (by omega)])) (by dsimp only at hle; omega))
  · simp only [k252_623, k252_624, k252_625, k252_627, k252_628, k252_629, k252_630, k252_631, k252_633, k252_634, k252_635, k252_636, k252_639, k252_640, k252_643, k252_644, k252_645, k252_647, k252_648, k252_649, k252_650, true_implies, false_implies, not_true_eq_false, not_false_eq_true, true_and, and_true, implies_true, or_true, true_or, or_false, false_or, Int.reduceEq, Int.one_ne_zero, Nat.reduceEqDiff, R1, R2, R3, R4, R5, b1, b2, b3, b4, b5, c1, c2, c3, c4, c5, hz, k252_651 (u := u) (by omega)]
    refine h234 (D := D + 48) (p97 (D := D + 18) hC hm (Or.inr rfl) ?_)
    intro c' C' r' hC' hfr
    obtain ⟨O, hO⟩ : ∃ O, O = o_cn L pl (sc.2 (i + 1).toNat).toInt 1 (sc.2 (i + 3).toNat).toInt := ⟨_, rfl⟩
    rw [← hO]
    have hOt : OCt [(1, 1), (3, 2)] O := by rw [hO]; exact ot9
    refine hk_O hOt ?_
    rw [q_kn_v]
    obtain ⟨u1, hu1⟩ : ∃ u1 : PU, u1 = (u.1 + 4, u.2 + 24) := ⟨_, rfl⟩
    rw [← hu1]
    have w1 : u1.1 + 0 ≤ 601024 ∧ u1.2 + 0 ≤ 7293034 := by rw [hu1]; dsimp only; omega
    have w2 : u1.1 ≤ u.1 + 4 ∧ u1.2 ≤ u.2 + 24 := by rw [hu1]; dsimp only; omega
    clear hu1
    simp only [k252_654, k252_656, k252_657, k252_658, k252_660, k252_661, k252_662, k252_663, k252_664, k252_666, k252_667, k252_668, k252_669, k252_672, k252_673, k252_676, k252_677, k252_678, k252_680, k252_681, k252_682, true_implies, false_implies, not_true_eq_false, not_false_eq_true, true_and, and_true, implies_true, or_true, true_or, or_false, false_or, Int.reduceEq, Int.one_ne_zero, Nat.reduceEqDiff, R1, R2, R3, R4, R5, b1, b2, b3, b4, b5, c1, c2, c3, c4, c5, hz, k252_683 w1]
    refine s136 (D := D + 9) (RI_cs hR hfr) (Or.inr rfl) ?_
    intro σ2 hR2 h0 hf2
    rw [← hO] at h0 ⊢
    rw [q_kn_v]
    refine lwT9 (by dsimp only; omega) h0 (fun x hx => by rw [hf2 188 0 (Or.inr rfl)]; exact ocs_188 x hx) (fun p hp => (hOt p hp).2) (fun u' l5 l6 hle => kk σ2 _ u' l5 l6 (LJ_mk (hC') hR2 (fun a i ha => by rw [hf2 a i (Or.inl ha), ocs_ne (by omega)])) (by dsimp only at hle; omega))
theorem ot10 : OCt [(1, 1)] (o_sd L a ab) := by
  intro p h
  unfold o_sd o_in at h
  (repeat' split at h) <;> cases h <;> decide
theorem lw10 (hs : 0 ≤ i ∧ i + 6 ≤ sc.1) (h3 : sc.1 ≤ 3072) (hu : u.1 + 10 ≤ 601024 ∧ u.2 + 50 ≤ 7293034) (hm : m ≤ 100000) (hJ : LJ m σ) (kk : ∀ (σ' : St) (bb' : Bool) (u' : PU) (l5 l6 : V2), LJ (m + 1) σ' → u'.1 ≤ u.1 + 4 ∧ u'.2 ≤ u.2 + 24 → qx sc (D + 50) 252 1480 [vr 1000000, vr 0, vr 136, vr 188, vi i, l5, l6] [] u' bb' σ' Q) : qx sc (D + 50) 252 719 [vr 1000000, vr 0, vr 136, vr 188, vi i, l5, l6] [] u bb σ Q := by
  obtain ⟨c, C, r, L, pl, n, f, ft, inp, len, rfl, hC, hR⟩ := hJ
  have R1 : q_R (i + 1) = True := eq_true (by unfold q_R; omega)
  have b1 : 0 ≤ i + 1 := by omega
  have c1 : i + 1 < (sc.1 : Int) := by omega
  have R2 : q_R (i + 2) = True := eq_true (by unfold q_R; omega)
  have b2 : 0 ≤ i + 2 := by omega
  have c2 : i + 2 < (sc.1 : Int) := by omega
  have R3 : q_R (i + 3) = True := eq_true (by unfold q_R; omega)
  have b3 : 0 ≤ i + 3 := by omega
  have c3 : i + 3 < (sc.1 : Int) := by omega
  have R4 : q_R (i + 4) = True := eq_true (by unfold q_R; omega)
  have b4 : 0 ≤ i + 4 := by omega
  have c4 : i + 4 < (sc.1 : Int) := by omega
  have R5 : q_R (i + 5) = True := eq_true (by unfold q_R; omega)
  have b5 : 0 ≤ i + 5 := by omega
  have c5 : i + 5 < (sc.1 : Int) := by omega
  by_cases hz : (sc.2 (i + 2).toNat).toInt = 0
  · simp only [k252_719, k252_720, k252_721, k252_723, k252_724, k252_725, k252_726, k252_727, k252_729, k252_730, k252_731, k252_732, k252_735, k252_736, k252_739, k252_740, true_implies, false_implies, not_true_eq_false, not_false_eq_true, true_and, and_true, implies_true, or_true, true_or, or_false, false_or, Int.reduceEq, Int.one_ne_zero, Nat.reduceEqDiff, R1, R2, R3, R4, R5, b1, b2, b3, b4, b5, c1, c2, c3, c4, c5, hz, k252_741 (u := u) (by omega)]
    refine h245 (D := D + 48) (p120 (D := D + 18) hC ?_)
    intro c' C' r' hC' hfr
    obtain ⟨O, hO⟩ : ∃ O, O = o_sd L (sc.2 (i + 1).toNat).toInt 0 := ⟨_, rfl⟩
    rw [← hO]
    have hOt : OCt [(1, 1)] O := by rw [hO]; exact ot10
    refine hk_O hOt ?_
    rw [q_kn_v]
    obtain ⟨u1, hu1⟩ : ∃ u1 : PU, u1 = (u.1 + 4, u.2 + 24) := ⟨_, rfl⟩
    rw [← hu1]
    have w1 : u1.1 + 0 ≤ 601024 ∧ u1.2 + 0 ≤ 7293034 := by rw [hu1]; dsimp only; omega
    have w2 : u1.1 ≤ u.1 + 4 ∧ u1.2 ≤ u.2 + 24 := by rw [hu1]; dsimp only; omega
    clear hu1
    simp only [k252_744, k252_746, k252_747, k252_748, k252_750, k252_751, k252_752, k252_753, k252_754, k252_756, k252_757, k252_758, k252_759, k252_762, k252_763, k252_766, true_implies, false_implies, not_true_eq_false, not_false_eq_true, true_and, and_true, implies_true, or_true, true_or, or_false, false_or, Int.reduceEq, Int.one_ne_zero, Nat.reduceEqDiff, R1, R2, R3, R4, R5, b1, b2, b3, b4, b5, c1, c2, c3, c4, c5, hz, k252_767 w1]
    refine s215 (D := D + 9) (RI_cs hR hfr) ?_
    intro σ2 hR2 h0 hf2
    rw [← hO] at h0 ⊢
    rw [q_kn_v]
    refine lwT10 (by dsimp only; omega) h0 (fun x hx => by rw [hf2 188 0 (Or.inr rfl)]; exact ocs_188 x hx) (fun p hp => (hOt p hp).2) (fun u' l5 l6 hle => kk σ2 _ u' l5 l6 (LJ_mk (CI_m hC' (by omega)) hR2 (fun a i ha => by rw [hf2 a i (Or.inl ha), ocs_ne (by omega)])) (by dsimp only at hle; omega))
  · simp only [k252_719, k252_720, k252_721, k252_723, k252_724, k252_725, k252_726, k252_727, k252_729, k252_730, k252_731, k252_732, k252_735, k252_736, k252_739, k252_740, true_implies, false_implies, not_true_eq_false, not_false_eq_true, true_and, and_true, implies_true, or_true, true_or, or_false, false_or, Int.reduceEq, Int.one_ne_zero, Nat.reduceEqDiff, R1, R2, R3, R4, R5, b1, b2, b3, b4, b5, c1, c2, c3, c4, c5, hz, k252_741 (u := u) (by omega)]
    refine h245 (D := D + 48) (p120 (D := D + 18) hC ?_)
    intro c' C' r' hC' hfr
    obtain ⟨O, hO⟩ : ∃ O, O = o_sd L (sc.2 (i + 1).toNat).toInt 1 := ⟨_, rfl⟩
    rw [← hO]
    have hOt : OCt [(1, 1)] O := by rw [hO]; exact ot10
    refine hk_O hOt ?_
    rw [q_kn_v]
    obtain ⟨u1, hu1⟩ : ∃ u1 : PU, u1 = (u.1 + 4, u.2 + 24) := ⟨_, rfl⟩
    rw [← hu1]
    have w1 : u1.1 + 0 ≤ 601024 ∧ u1.2 + 0 ≤ 7293034 := by rw [hu1]; dsimp only; omega
    have w2 : u1.1 ≤ u.1 + 4 ∧ u1.2 ≤ u.2 + 24 := by rw [hu1]; dsimp only; omega
    clear hu1
    simp only [k252_744, k252_746, k252_747, k252_748, k252_750, k252_751, k252_752, k252_753, k252_754, k252_756, k252_757, k252_758, k252_759, k252_762, k252_763, k252_766, true_implies, false_implies, not_true_eq_false, not_false_eq_true, true_and, and_true, implies_true, or_true, true_or, or_false, false_or, Int.reduceEq, Int.one_ne_zero, Nat.reduceEqDiff, R1, R2, R3, R4, R5, b1, b2, b3, b4, b5, c1, c2, c3, c4, c5, hz, k252_767 w1]
    refine s215 (D := D + 9) (RI_cs hR hfr) ?_
    intro σ2 hR2 h0 hf2
    rw [← hO] at h0 ⊢
    rw [q_kn_v]
    refine lwT10 (by dsimp only; omega) h0 (fun x hx => by rw [hf2 188 0 (Or.inr rfl)]; exact ocs_188 x hx) (fun p hp => (hOt p hp).2) (fun u' l5 l6 hle => kk σ2 _ u' l5 l6 (LJ_mk (CI_m hC' (by omega)) hR2 (fun a i ha => by rw [hf2 a i (Or.inl ha), ocs_ne (by omega)])) (by dsimp only at hle; omega))
theorem ot11 : OCt [(1, 1), (2, 2)] (o_lo L pl a b) := by
  intro p h
  unfold o_lo o_in o_wh at h
  (repeat' split at h) <;> cases h <;> decide
theorem lw11 (hs : 0 ≤ i ∧ i + 6 ≤ sc.1) (h3 : sc.1 ≤ 3072) (hu : u.1 + 10 ≤ 601024 ∧ u.2 + 50 ≤ 7293034) (hm : m ≤ 100000) (hJ : LJ m σ) (kk : ∀ (σ' : St) (bb' : Bool) (u' : PU) (l5 l6 : V2), LJ (m + 1) σ' → u'.1 ≤ u.1 + 4 ∧ u'.2 ≤ u.2 + 24 → qx sc (D + 50) 252 1480 [vr 1000000, vr 0, vr 136, vr 188, vi i, l5, l6] [] u' bb' σ' Q) : qx sc (D + 50) 252 803 [vr 1000000, vr 0, vr 136, vr 188, vi i, l5, l6] [] u bb σ Q := by
  obtain ⟨c, C, r, L, pl, n, f, ft, inp, len, rfl, hC, hR⟩ := hJ
  have R1 : q_R (i + 1) = True := eq_true (by unfold q_R; omega)
  have b1 : 0 ≤ i + 1 := by omega
  have c1 : i + 1 < (sc.1 : Int) := by omega
  have R2 : q_R (i + 2) = True := eq_true (by unfold q_R; omega)
  have b2 : 0 ≤ i + 2 := by omega
  have c2 : i + 2 < (sc.1 : Int) := by omega
  have R3 : q_R (i + 3) = True := eq_true (by unfold q_R; omega)
  have b3 : 0 ≤ i + 3 := by omega
  have c3 : i + 3 < (sc.1 : Int) := by omega
  have R4 : q_R (i + 4) = True := eq_true (by unfold q_R; omega)
  have b4 : 0 ≤ i + 4 := by omega
  have c4 : i + 4 < (sc.1 : Int) := by omega
  have R5 : q_R (i + 5) = True := eq_true (by unfold q_R; omega)
  have b5 : 0 ≤ i + 5 := by omega
  have c5 : i + 5 < (sc.1 : Int) := by omega
  simp only [k252_803, k252_804, k252_805, k252_807, k252_808, k252_809, k252_810, k252_811, k252_813, k252_814, k252_815, k252_816, true_implies, false_implies, not_true_eq_false, not_false_eq_true, true_and, and_true, implies_true, or_true, true_or, or_false, false_or, Int.reduceEq, Int.one_ne_zero, Nat.reduceEqDiff, R1, R2, R3, R4, R5, b1, b2, b3, b4, b5, c1, c2, c3, c4, c5, k252_817 (u := u) (by omega)]
  refine h239 (D := D + 48) (p106 (D := D + 18) hC ?_)
  intro c' C' r' hC' hfr
  obtain ⟨O, hO⟩ : ∃ O, O = o_lo L pl (sc.2 (i + 1).toNat).toInt (sc.2 (i + 2).toNat).toInt := ⟨_, rfl⟩
  rw [← hO]
  have hOt : OCt [(1, 1), (2, 2)] O := by rw [hO]; exact ot11
  refine hk_O hOt ?_
  rw [q_kn_v]
  obtain ⟨u1, hu1⟩ : ∃ u1 : PU, u1 = (u.1 + 4, u.2 + 24) := ⟨_, rfl⟩
  rw [← hu1]
  have w1 : u1.1 + 0 ≤ 601024 ∧ u1.2 + 0 ≤ 7293034 := by rw [hu1]; dsimp only; omega
  have w2 : u1.1 ≤ u.1 + 4 ∧ u1.2 ≤ u.2 + 24 := by rw [hu1]; dsimp only; omega
  clear hu1
  simp only [k252_820, k252_822, k252_823, k252_824, k252_826, k252_827, k252_828, k252_829, k252_830, k252_832, k252_833, k252_834, true_implies, false_implies, not_true_eq_false, not_false_eq_true, true_and, and_true, implies_true, or_true, true_or, or_false, false_or, Int.reduceEq, Int.one_ne_zero, Nat.reduceEqDiff, R1, R2, R3, R4, R5, b1, b2, b3, b4, b5, c1, c2, c3, c4, c5, k252_835 w1]
  refine s178 (D := D + 9) (RI_cs hR hfr) ?_
  intro σ2 hR2 h0 hf2
  rw [← hO] at h0 ⊢
  rw [q_kn_v]
  refine lwT11 (by dsimp only; omega) h0 (fun x hx => by rw [hf2 188 0 (Or.inr rfl)]; exact ocs_188 x hx) (fun p hp => (hOt p hp).2) (fun u' l5 l6 hle => kk σ2 _ u' l5 l6 (LJ_mk (CI_m hC' (by omega)) hR2 (fun a i ha => by rw [hf2 a i (Or.inl ha), ocs_ne (by omega)])) (by dsimp only at hle; omega))
theorem ot12 : OCt [(1, 1)] (o_ha L pl a) := by
  intro p h
  unfold o_ha o_in at h
  (repeat' split at h) <;> cases h <;> decide
theorem lw12 (hs : 0 ≤ i ∧ i + 6 ≤ sc.1) (h3 : sc.1 ≤ 3072) (hu : u.1 + 10 ≤ 601024 ∧ u.2 + 50 ≤ 7293034) (hm : m ≤ 100000) (hJ : LJ m σ) (kk : ∀ (σ' : St) (bb' : Bool) (u' : PU) (l5 l6 : V2), LJ (m + 1) σ' → u'.1 ≤ u.1 + 4 ∧ u'.2 ≤ u.2 + 24 → qx sc (D + 50) 252 1480 [vr 1000000, vr 0, vr 136, vr 188, vi i, l5, l6] [] u' bb' σ' Q) : qx sc (D + 50) 252 871 [vr 1000000, vr 0, vr 136, vr 188, vi i, l5, l6] [] u bb σ Q := by
  obtain ⟨c, C, r, L, pl, n, f, ft, inp, len, rfl, hC, hR⟩ := hJ
  have R1 : q_R (i + 1) = True := eq_true (by unfold q_R; omega)
  have b1 : 0 ≤ i + 1 := by omega
  have c1 : i + 1 < (sc.1 : Int) := by omega
  have R2 : q_R (i + 2) = True := eq_true (by unfold q_R; omega)
  have b2 : 0 ≤ i + 2 := by omega
  have c2 : i + 2 < (sc.1 : Int) := by omega
  have R3 : q_R (i + 3) = True := eq_true (by unfold q_R; omega)
  have b3 : 0 ≤ i + 3 := by omega
  have c3 : i + 3 < (sc.1 : Int) := by omega
  have R4 : q_R (i + 4) = True := eq_true (by unfold q_R; omega)
  have b4 : 0 ≤ i + 4 := by omega
  have c4 : i + 4 < (sc.1 : Int) := by omega
  have R5 : q_R (i + 5) = True := eq_true (by unfold q_R; omega)
  have b5 : 0 ≤ i + 5 := by omega
  have c5 : i + 5 < (sc.1 : Int) := by omega
  simp only [k252_871, k252_872, k252_873, k252_875, k252_876, k252_877, k252_878, true_implies, false_implies, not_true_eq_false, not_false_eq_true, true_and, and_true, implies_true, or_true, true_or, or_false, false_or, Int.reduceEq, Int.one_ne_zero, Nat.reduceEqDiff, R1, R2, R3, R4, R5, b1, b2, b3, b4, b5, c1, c2, c3, c4, c5, k252_879 (u := u) (by omega)]
  refine h236 (D := D + 48) (p103 (D := D + 18) hC ?_)
  intro c' C' r' hC' hfr
  obtain ⟨O, hO⟩ : ∃ O, O = o_ha L pl (sc.2 (i + 1).toNat).toInt := ⟨_, rfl⟩
  rw [← hO]
  have hOt : OCt [(1, 1)] O := by rw [hO]; exact ot12
  refine hk_O hOt ?_
  rw [q_kn_v]
  obtain ⟨u1, hu1⟩ : ∃ u1 : PU, u1 = (u.1 + 4, u.2 + 24) := ⟨_, rfl⟩
  rw [← hu1]
  have w1 : u1.1 + 0 ≤ 601024 ∧ u1.2 + 0 ≤ 7293034 := by rw [hu1]; dsimp only; omega
  have w2 : u1.1 ≤ u.1 + 4 ∧ u1.2 ≤ u.2 + 24 := by rw [hu1]; dsimp only; omega
  clear hu1
  simp only [k252_882, k252_884, k252_885, k252_886, k252_888, k252_889, k252_890, true_implies, false_implies, not_true_eq_false, not_false_eq_true, true_and, and_true, implies_true, or_true, true_or, or_false, false_or, Int.reduceEq, Int.one_ne_zero, Nat.reduceEqDiff, R1, R2, R3, R4, R5, b1, b2, b3, b4, b5, c1, c2, c3, c4, c5, k252_891 w1]
  refine s153 (D := D + 9) (RI_cs hR hfr) ?_
  intro σ2 hR2 h0 hf2
  rw [← hO] at h0 ⊢
  rw [q_kn_v]
  refine lwT12 (by dsimp only; omega) h0 (fun x hx => by rw [hf2 188 0 (Or.inr rfl)]; exact ocs_188 x hx) (fun p hp => (hOt p hp).2) (fun u' l5 l6 hle => kk σ2 _ u' l5 l6 (LJ_mk (CI_m hC' (by omega)) hR2 (fun a i ha => by rw [hf2 a i (Or.inl ha), ocs_ne (by omega)])) (by dsimp only at hle; omega))
theorem ot13 : OCt [(1, 1), (0, 2)] (o_len len a b) := by
  intro p h
  unfold o_len o_in at h
  (repeat' split at h) <;> cases h <;> decide
theorem lw13 (hs : 0 ≤ i ∧ i + 6 ≤ sc.1) (h3 : sc.1 ≤ 3072) (hu : u.1 + 10 ≤ 601024 ∧ u.2 + 50 ≤ 7293034) (hm : m ≤ 100000) (hJ : LJ m σ) (kk : ∀ (σ' : St) (bb' : Bool) (u' : PU) (l5 l6 : V2), LJ (m + 1) σ' → u'.1 ≤ u.1 + 4 ∧ u'.2 ≤ u.2 + 24 → qx sc (D + 50) 252 1480 [vr 1000000, vr 0, vr 136, vr 188, vi i, l5, l6] [] u' bb' σ' Q) : qx sc (D + 50) 252 927 [vr 1000000, vr 0, vr 136, vr 188, vi i, l5, l6] [] u bb σ Q := by
  obtain ⟨c, C, r, L, pl, n, f, ft, inp, len, rfl, hC, hR⟩ := hJ
  have R1 : q_R (i + 1) = True := eq_true (by unfold q_R; omega)
  have b1 : 0 ≤ i + 1 := by omega
  have c1 : i + 1 < (sc.1 : Int) := by omega
  have R2 : q_R (i + 2) = True := eq_true (by unfold q_R; omega)
  have b2 : 0 ≤ i + 2 := by omega
  have c2 : i + 2 < (sc.1 : Int) := by omega
  have R3 : q_R (i + 3) = True := eq_true (by unfold q_R; omega)
  have b3 : 0 ≤ i + 3 := by omega
  have c3 : i + 3 < (sc.1 : Int) := by omega
  have R4 : q_R (i + 4) = True := eq_true (by unfold q_R; omega)
  have b4 : 0 ≤ i + 4 := by omega
  have c4 : i + 4 < (sc.1 : Int) := by omega
  have R5 : q_R (i + 5) = True := eq_true (by unfold q_R; omega)
  have b5 : 0 ≤ i + 5 := by omega
  have c5 : i + 5 < (sc.1 : Int) := by omega
  simp only [k252_927, k252_928, k252_929, k252_931, k252_932, k252_933, k252_934, k252_935, k252_937, k252_938, k252_939, k252_940, true_implies, false_implies, not_true_eq_false, not_false_eq_true, true_and, and_true, implies_true, or_true, true_or, or_false, false_or, Int.reduceEq, Int.one_ne_zero, Nat.reduceEqDiff, R1, R2, R3, R4, R5, b1, b2, b3, b4, b5, c1, c2, c3, c4, c5, k252_941 (u := u) (by omega)]
  refine h238 (D := D + 48) (p105 (D := D + 18) hC ?_)
  intro c' C' r' hC' hfr
  obtain ⟨O, hO⟩ : ∃ O, O = o_len len (sc.2 (i + 1).toNat).toInt (sc.2 (i + 2).toNat).toInt := ⟨_, rfl⟩
  rw [← hO]
  have hOt : OCt [(1, 1), (0, 2)] O := by rw [hO]; exact ot13
  refine hk_O hOt ?_
  rw [q_kn_v]
  obtain ⟨u1, hu1⟩ : ∃ u1 : PU, u1 = (u.1 + 4, u.2 + 24) := ⟨_, rfl⟩
  rw [← hu1]
  have w1 : u1.1 + 0 ≤ 601024 ∧ u1.2 + 0 ≤ 7293034 := by rw [hu1]; dsimp only; omega
  have w2 : u1.1 ≤ u.1 + 4 ∧ u1.2 ≤ u.2 + 24 := by rw [hu1]; dsimp only; omega
  clear hu1
  simp only [k252_944, k252_946, k252_947, k252_948, k252_950, k252_951, k252_952, k252_953, k252_954, k252_956, k252_957, k252_958, true_implies, false_implies, not_true_eq_false, not_false_eq_true, true_and, and_true, implies_true, or_true, true_or, or_false, false_or, Int.reduceEq, Int.one_ne_zero, Nat.reduceEqDiff, R1, R2, R3, R4, R5, b1, b2, b3, b4, b5, c1, c2, c3, c4, c5, k252_959 w1]
  refine s175 (D := D + 9) (RI_cs hR hfr) ?_
  intro σ2 hR2 h0 hf2
  rw [← hO] at h0 ⊢
  rw [q_kn_v]
  refine lwT13 (by dsimp only; omega) h0 (fun x hx => by rw [hf2 188 0 (Or.inr rfl)]; exact ocs_188 x hx) (fun p hp => (hOt p hp).2) (fun u' l5 l6 hle => kk σ2 _ u' l5 l6 (LJ_mk (CI_m hC' (by omega)) hR2 (fun a i ha => by rw [hf2 a i (Or.inl ha), ocs_ne (by omega)])) (by dsimp only at hle; omega))
theorem ot14 : OCt [(0, 1)] (o_inp inp a b) := by
  intro p h
  unfold o_inp at h
  (repeat' split at h) <;> cases h <;> decide
theorem lw14 (hs : 0 ≤ i ∧ i + 6 ≤ sc.1) (h3 : sc.1 ≤ 3072) (hu : u.1 + 10 ≤ 601024 ∧ u.2 + 50 ≤ 7293034) (hm : m ≤ 100000) (hJ : LJ m σ) (kk : ∀ (σ' : St) (bb' : Bool) (u' : PU) (l5 l6 : V2), LJ (m + 1) σ' → u'.1 ≤ u.1 + 4 ∧ u'.2 ≤ u.2 + 24 → qx sc (D + 50) 252 1480 [vr 1000000, vr 0, vr 136, vr 188, vi i, l5, l6] [] u' bb' σ' Q) : qx sc (D + 50) 252 995 [vr 1000000, vr 0, vr 136, vr 188, vi i, l5, l6] [] u bb σ Q := by
  obtain ⟨c, C, r, L, pl, n, f, ft, inp, len, rfl, hC, hR⟩ := hJ
  have R1 : q_R (i + 1) = True := eq_true (by unfold q_R; omega)
  have b1 : 0 ≤ i + 1 := by omega
  have c1 : i + 1 < (sc.1 : Int) := by omega
  have R2 : q_R (i + 2) = True := eq_true (by unfold q_R; omega)
  have b2 : 0 ≤ i + 2 := by omega
  have c2 : i + 2 < (sc.1 : Int) := by omega
  have R3 : q_R (i + 3) = True := eq_true (by unfold q_R; omega)
  have b3 : 0 ≤ i + 3 := by omega
  have c3 : i + 3 < (sc.1 : Int) := by omega
  have R4 : q_R (i + 4) = True := eq_true (by unfold q_R; omega)
  have b4 : 0 ≤ i + 4 := by omega
  have c4 : i + 4 < (sc.1 : Int) := by omega
  have R5 : q_R (i + 5) = True := eq_true (by unfold q_R; omega)
  have b5 : 0 ≤ i + 5 := by omega
  have c5 : i + 5 < (sc.1 : Int) := by omega
  simp only [k252_995, k252_996, k252_997, k252_999, k252_1000, k252_1001, k252_1002, k252_1003, k252_1005, k252_1006, k252_1007, k252_1008, true_implies, false_implies, not_true_eq_false, not_false_eq_true, true_and, and_true, implies_true, or_true, true_or, or_false, false_or, Int.reduceEq, Int.one_ne_zero, Nat.reduceEqDiff, R1, R2, R3, R4, R5, b1, b2, b3, b4, b5, c1, c2, c3, c4, c5, k252_1009 (u := u) (by omega)]
  refine h237 (D := D + 48) (p104 (D := D + 18) hC ?_)
  intro c' C' r' hC' hfr
  obtain ⟨O, hO⟩ : ∃ O, O = o_inp inp (sc.2 (i + 1).toNat).toInt (sc.2 (i + 2).toNat).toInt := ⟨_, rfl⟩
  rw [← hO]
  have hOt : OCt [(0, 1)] O := by rw [hO]; exact ot14
  refine hk_O hOt ?_
  rw [q_kn_v]
  obtain ⟨u1, hu1⟩ : ∃ u1 : PU, u1 = (u.1 + 4, u.2 + 24) := ⟨_, rfl⟩
  rw [← hu1]
  have w1 : u1.1 + 0 ≤ 601024 ∧ u1.2 + 0 ≤ 7293034 := by rw [hu1]; dsimp only; omega
  have w2 : u1.1 ≤ u.1 + 4 ∧ u1.2 ≤ u.2 + 24 := by rw [hu1]; dsimp only; omega
  clear hu1
  simp only [k252_1012, k252_1014, k252_1015, k252_1016, k252_1018, k252_1019, k252_1020, k252_1021, k252_1022, k252_1024, k252_1025, k252_1026, true_implies, false_implies, not_true_eq_false, not_false_eq_true, true_and, and_true, implies_true, or_true, true_or, or_false, false_or, Int.reduceEq, Int.one_ne_zero, Nat.reduceEqDiff, R1, R2, R3, R4, R5, b1, b2, b3, b4, b5, c1, c2, c3, c4, c5, k252_1027 w1]
  refine s158 (D := D + 9) (RI_cs hR hfr) ?_
  intro σ2 hR2 h0 hf2
  rw [← hO] at h0 ⊢
  rw [q_kn_v]
  refine lwT14 (by dsimp only; omega) h0 (fun x hx => by rw [hf2 188 0 (Or.inr rfl)]; exact ocs_188 x hx) (fun p hp => (hOt p hp).2) (fun u' l5 l6 hle => kk σ2 _ u' l5 l6 (LJ_mk (CI_m hC' (by omega)) hR2 (fun a i ha => by rw [hf2 a i (Or.inl ha), ocs_ne (by omega)])) (by dsimp only at hle; omega))
theorem ot15 : OCt [(0, 1), (2, 2)] (o_run a b ρ) := by
  intro p h
  unfold o_run at h
  (repeat' split at h) <;> cases h <;> decide
theorem lw15 (hs : 0 ≤ i ∧ i + 6 ≤ sc.1) (h3 : sc.1 ≤ 3072) (hu : u.1 + 10 ≤ 601024 ∧ u.2 + 50 ≤ 7293034) (hm : m ≤ 100000) (hJ : LJ m σ) (kk : ∀ (σ' : St) (bb' : Bool) (u' : PU) (l5 l6 : V2), LJ (m + 1) σ' → u'.1 ≤ u.1 + 4 ∧ u'.2 ≤ u.2 + 24 → qx sc (D + 50) 252 1480 [vr 1000000, vr 0, vr 136, vr 188, vi i, l5, l6] [] u' bb' σ' Q) : qx sc (D + 50) 252 1063 [vr 1000000, vr 0, vr 136, vr 188, vi i, l5, l6] [] u bb σ Q := by
  obtain ⟨c, C, r, L, pl, n, f, ft, inp, len, rfl, hC, hR⟩ := hJ
  have R1 : q_R (i + 1) = True := eq_true (by unfold q_R; omega)
  have b1 : 0 ≤ i + 1 := by omega
  have c1 : i + 1 < (sc.1 : Int) := by omega
  have R2 : q_R (i + 2) = True := eq_true (by unfold q_R; omega)
  have b2 : 0 ≤ i + 2 := by omega
  have c2 : i + 2 < (sc.1 : Int) := by omega
  have R3 : q_R (i + 3) = True := eq_true (by unfold q_R; omega)
  have b3 : 0 ≤ i + 3 := by omega
  have c3 : i + 3 < (sc.1 : Int) := by omega
  have R4 : q_R (i + 4) = True := eq_true (by unfold q_R; omega)
  have b4 : 0 ≤ i + 4 := by omega
  have c4 : i + 4 < (sc.1 : Int) := by omega
  have R5 : q_R (i + 5) = True := eq_true (by unfold q_R; omega)
  have b5 : 0 ≤ i + 5 := by omega
  have c5 : i + 5 < (sc.1 : Int) := by omega
  simp only [k252_1063, k252_1064, k252_1065, k252_1067, k252_1068, k252_1069, k252_1070, k252_1071, k252_1073, k252_1074, k252_1075, k252_1076, true_implies, false_implies, not_true_eq_false, not_false_eq_true, true_and, and_true, implies_true, or_true, true_or, or_false, false_or, Int.reduceEq, Int.one_ne_zero, Nat.reduceEqDiff, R1, R2, R3, R4, R5, b1, b2, b3, b4, b5, c1, c2, c3, c4, c5, k252_1077 (u := u) (by omega)]
  refine h243 (D := D + 48) (p118 (D := D + 18) hC ?_)
  intro ρ hρ c' C' r' hC' hfr
  obtain ⟨O, hO⟩ : ∃ O, O = o_run (sc.2 (i + 1).toNat).toInt (sc.2 (i + 2).toNat).toInt ρ := ⟨_, rfl⟩
  rw [← hO]
  have hOt : OCt [(0, 1), (2, 2)] O := by rw [hO]; exact ot15
  refine hk_O hOt ?_
  rw [q_kn_v]
  obtain ⟨u1, hu1⟩ : ∃ u1 : PU, u1 = (u.1 + 4, u.2 + 24) := ⟨_, rfl⟩
  rw [← hu1]
  have w1 : u1.1 + 0 ≤ 601024 ∧ u1.2 + 0 ≤ 7293034 := by rw [hu1]; dsimp only; omega
  have w2 : u1.1 ≤ u.1 + 4 ∧ u1.2 ≤ u.2 + 24 := by rw [hu1]; dsimp only; omega
  clear hu1
  simp only [k252_1080, k252_1082, k252_1083, k252_1084, k252_1086, k252_1087, k252_1088, k252_1089, k252_1090, k252_1092, k252_1093, k252_1094, true_implies, false_implies, not_true_eq_false, not_false_eq_true, true_and, and_true, implies_true, or_true, true_or, or_false, false_or, Int.reduceEq, Int.one_ne_zero, Nat.reduceEqDiff, R1, R2, R3, R4, R5, b1, b2, b3, b4, b5, c1, c2, c3, c4, c5, k252_1095 w1]
  refine s208 (D := D + 9) (RI_cs hR hfr) hρ ?_
  intro σ2 hR2 h0 hf2
  rw [← hO] at h0 ⊢
  rw [q_kn_v]
  refine lwT15 (by dsimp only; omega) h0 (fun x hx => by rw [hf2 188 0 (Or.inr rfl)]; exact ocs_188 x hx) (fun p hp => (hOt p hp).2) (fun u' l5 l6 hle => kk σ2 _ u' l5 l6 (LJ_mk (CI_m hC' (by omega)) hR2 (fun a i ha => by rw [hf2 a i (Or.inl ha), ocs_ne (by omega)])) (by dsimp only at hle; omega))
theorem ot16 : OCt [(0, 1), (2, 2)] (o_out a b ρ) := by
  intro p h
  unfold o_out at h
  (repeat' split at h) <;> cases h <;> decide
theorem lw16 (hs : 0 ≤ i ∧ i + 6 ≤ sc.1) (h3 : sc.1 ≤ 3072) (hu : u.1 + 10 ≤ 601024 ∧ u.2 + 50 ≤ 7293034) (hm : m ≤ 100000) (hJ : LJ m σ) (kk : ∀ (σ' : St) (bb' : Bool) (u' : PU) (l5 l6 : V2), LJ (m + 1) σ' → u'.1 ≤ u.1 + 4 ∧ u'.2 ≤ u.2 + 24 → qx sc (D + 50) 252 1480 [vr 1000000, vr 0, vr 136, vr 188, vi i, l5, l6] [] u' bb' σ' Q) : qx sc (D + 50) 252 1131 [vr 1000000, vr 0, vr 136, vr 188, vi i, l5, l6] [] u bb σ Q := by
  obtain ⟨c, C, r, L, pl, n, f, ft, inp, len, rfl, hC, hR⟩ := hJ
  have R1 : q_R (i + 1) = True := eq_true (by unfold q_R; omega)
  have b1 : 0 ≤ i + 1 := by omega
  have c1 : i + 1 < (sc.1 : Int) := by omega
  have R2 : q_R (i + 2) = True := eq_true (by unfold q_R; omega)
  have b2 : 0 ≤ i + 2 := by omega
  have c2 : i + 2 < (sc.1 : Int) := by omega
  have R3 : q_R (i + 3) = True := eq_true (by unfold q_R; omega)
  have b3 : 0 ≤ i + 3 := by omega
  have c3 : i + 3 < (sc.1 : Int) := by omega
  have R4 : q_R (i + 4) = True := eq_true (by unfold q_R; omega)
  have b4 : 0 ≤ i + 4 := by omega
  have c4 : i + 4 < (sc.1 : Int) := by omega
  have R5 : q_R (i + 5) = True := eq_true (by unfold q_R; omega)
  have b5 : 0 ≤ i + 5 := by omega
  have c5 : i + 5 < (sc.1 : Int) := by omega
  simp only [k252_1131, k252_1132, k252_1133, k252_1135, k252_1136, k252_1137, k252_1138, k252_1139, k252_1141, k252_1142, k252_1143, k252_1144, true_implies, false_implies, not_true_eq_false, not_false_eq_true, true_and, and_true, implies_true, or_true, true_or, or_false, false_or, Int.reduceEq, Int.one_ne_zero, Nat.reduceEqDiff, R1, R2, R3, R4, R5, b1, b2, b3, b4, b5, c1, c2, c3, c4, c5, k252_1145 (u := u) (by omega)]
  refine h240 (D := D + 48) (p115 (D := D + 18) hC ?_)
  intro ρ hρ c' C' r' hC' hfr
  obtain ⟨O, hO⟩ : ∃ O, O = o_out (sc.2 (i + 1).toNat).toInt (sc.2 (i + 2).toNat).toInt ρ := ⟨_, rfl⟩
  rw [← hO]
  have hOt : OCt [(0, 1), (2, 2)] O := by rw [hO]; exact ot16
  refine hk_O hOt ?_
  rw [q_kn_v]
  obtain ⟨u1, hu1⟩ : ∃ u1 : PU, u1 = (u.1 + 4, u.2 + 24) := ⟨_, rfl⟩
  rw [← hu1]
  have w1 : u1.1 + 0 ≤ 601024 ∧ u1.2 + 0 ≤ 7293034 := by rw [hu1]; dsimp only; omega
  have w2 : u1.1 ≤ u.1 + 4 ∧ u1.2 ≤ u.2 + 24 := by rw [hu1]; dsimp only; omega
  clear hu1
  simp only [k252_1148, k252_1150, k252_1151, k252_1152, k252_1154, k252_1155, k252_1156, k252_1157, k252_1158, k252_1160, k252_1161, k252_1162, true_implies, false_implies, not_true_eq_false, not_false_eq_true, true_and, and_true, implies_true, or_true, true_or, or_false, false_or, Int.reduceEq, Int.one_ne_zero, Nat.reduceEqDiff, R1, R2, R3, R4, R5, b1, b2, b3, b4, b5, c1, c2, c3, c4, c5, k252_1163 w1]
  refine s197 (D := D + 9) (RI_cs hR hfr) hρ ?_
  intro σ2 hR2 h0 hf2
  rw [← hO] at h0 ⊢
  rw [q_kn_v]
  refine lwT16 (by dsimp only; omega) h0 (fun x hx => by rw [hf2 188 0 (Or.inr rfl)]; exact ocs_188 x hx) (fun p hp => (hOt p hp).2) (fun u' l5 l6 hle => kk σ2 _ u' l5 l6 (LJ_mk (CI_m hC' (by omega)) hR2 (fun a i ha => by rw [hf2 a i (Or.inl ha), ocs_ne (by omega)])) (by dsimp only at hle; omega))
theorem ot17 : OCt [(1, 1), (0, 2), (2, 3)] (o_pla pl a b x ρ) := by
  intro p h
  unfold o_pla o_in at h
  (repeat' split at h) <;> cases h <;> decide
theorem lw17 (hs : 0 ≤ i ∧ i + 6 ≤ sc.1) (h3 : sc.1 ≤ 3072) (hu : u.1 + 10 ≤ 601024 ∧ u.2 + 50 ≤ 7293034) (hm : m ≤ 100000) (hJ : LJ m σ) (kk : ∀ (σ' : St) (bb' : Bool) (u' : PU) (l5 l6 : V2), LJ (m + 1) σ' → u'.1 ≤ u.1 + 4 ∧ u'.2 ≤ u.2 + 24 → qx sc (D + 50) 252 1480 [vr 1000000, vr 0, vr 136, vr 188, vi i, l5, l6] [] u' bb' σ' Q) : qx sc (D + 50) 252 1199 [vr 1000000, vr 0, vr 136, vr 188, vi i, l5, l6] [] u bb σ Q := by
  obtain ⟨c, C, r, L, pl, n, f, ft, inp, len, rfl, hC, hR⟩ := hJ
  have R1 : q_R (i + 1) = True := eq_true (by unfold q_R; omega)
  have b1 : 0 ≤ i + 1 := by omega
  have c1 : i + 1 < (sc.1 : Int) := by omega
  have R2 : q_R (i + 2) = True := eq_true (by unfold q_R; omega)
  have b2 : 0 ≤ i + 2 := by omega
  have c2 : i + 2 < (sc.1 : Int) := by omega
  have R3 : q_R (i + 3) = True := eq_true (by unfold q_R; omega)
  have b3 : 0 ≤ i + 3 := by omega
  have c3 : i + 3 < (sc.1 : Int) := by omega
  have R4 : q_R (i + 4) = True := eq_true (by unfold q_R; omega)
  have b4 : 0 ≤ i + 4 := by omega
  have c4 : i + 4 < (sc.1 : Int) := by omega
  have R5 : q_R (i + 5) = True := eq_true (by unfold q_R; omega)
  have b5 : 0 ≤ i + 5 := by omega
  have c5 : i + 5 < (sc.1 : Int) := by omega
  simp only [k252_1199, k252_1200, k252_1201, k252_1203, k252_1204, k252_1205, k252_1206, k252_1207, k252_1209, k252_1210, k252_1211, k252_1212, k252_1213, k252_1215, k252_1216, k252_1217, k252_1218, true_implies, false_implies, not_true_eq_false, not_false_eq_true, true_and, and_true, implies_true, or_true, true_or, or_false, false_or, Int.reduceEq, Int.one_ne_zero, Nat.reduceEqDiff, R1, R2, R3, R4, R5, b1, b2, b3, b4, b5, c1, c2, c3, c4, c5, k252_1219 (u := u) (by omega)]
  refine h241 (D := D + 48) (p116 (D := D + 18) hC ?_)
  intro ρ hρ c' C' r' hC' hfr
  obtain ⟨O, hO⟩ : ∃ O, O = o_pla pl (sc.2 (i + 1).toNat).toInt (sc.2 (i + 2).toNat).toInt (sc.2 (i + 3).toNat).toInt ρ := ⟨_, rfl⟩
  rw [← hO]
  have hOt : OCt [(1, 1), (0, 2), (2, 3)] O := by rw [hO]; exact ot17
  refine hk_O hOt ?_
  rw [q_kn_v]
  obtain ⟨u1, hu1⟩ : ∃ u1 : PU, u1 = (u.1 + 4, u.2 + 24) := ⟨_, rfl⟩
  rw [← hu1]
  have w1 : u1.1 + 0 ≤ 601024 ∧ u1.2 + 0 ≤ 7293034 := by rw [hu1]; dsimp only; omega
  have w2 : u1.1 ≤ u.1 + 4 ∧ u1.2 ≤ u.2 + 24 := by rw [hu1]; dsimp only; omega
  clear hu1
  simp only [k252_1222, k252_1224, k252_1225, k252_1226, k252_1228, k252_1229, k252_1230, k252_1231, k252_1232, k252_1234, k252_1235, k252_1236, k252_1237, k252_1238, k252_1240, k252_1241, k252_1242, true_implies, false_implies, not_true_eq_false, not_false_eq_true, true_and, and_true, implies_true, or_true, true_or, or_false, false_or, Int.reduceEq, Int.one_ne_zero, Nat.reduceEqDiff, R1, R2, R3, R4, R5, b1, b2, b3, b4, b5, c1, c2, c3, c4, c5, k252_1243 w1]
  refine s201 (D := D + 9) (RI_cs hR hfr) hρ ?_
  intro σ2 hR2 h0 hf2
  rw [← hO] at h0 ⊢
  rw [q_kn_v]
  refine lwT17 (by dsimp only; omega) h0 (fun x hx => by rw [hf2 188 0 (Or.inr rfl)]; exact ocs_188 x hx) (fun p hp => (hOt p hp).2) (fun u' l5 l6 hle => kk σ2 _ u' l5 l6 (LJ_mk (CI_m hC' (by omega)) hR2 (fun a i ha => by rw [hf2 a i (Or.inl ha), ocs_ne (by omega)])) (by dsimp only at hle; omega))
theorem ot18 : OCt [(1, 1), (0, 2)] (o_was L a b ρ) := by
  intro p h
  unfold o_was o_in at h
  (repeat' split at h) <;> cases h <;> decide
theorem lw18 (hs : 0 ≤ i ∧ i + 6 ≤ sc.1) (h3 : sc.1 ≤ 3072) (hu : u.1 + 10 ≤ 601024 ∧ u.2 + 50 ≤ 7293034) (hm : m ≤ 100000) (hJ : LJ m σ) (kk : ∀ (σ' : St) (bb' : Bool) (u' : PU) (l5 l6 : V2), LJ (m + 1) σ' → u'.1 ≤ u.1 + 4 ∧ u'.2 ≤ u.2 + 24 → qx sc (D + 50) 252 1480 [vr 1000000, vr 0, vr 136, vr 188, vi i, l5, l6] [] u' bb' σ' Q) : qx sc (D + 50) 252 1279 [vr 1000000, vr 0, vr 136, vr 188, vi i, l5, l6] [] u bb σ Q := by
  obtain ⟨c, C, r, L, pl, n, f, ft, inp, len, rfl, hC, hR⟩ := hJ
  have R1 : q_R (i + 1) = True := eq_true (by unfold q_R; omega)
  have b1 : 0 ≤ i + 1 := by omega
  have c1 : i + 1 < (sc.1 : Int) := by omega
  have R2 : q_R (i + 2) = True := eq_true (by unfold q_R; omega)
  have b2 : 0 ≤ i + 2 := by omega
  have c2 : i + 2 < (sc.1 : Int) := by omega
  have R3 : q_R (i + 3) = True := eq_true (by unfold q_R; omega)
  have b3 : 0 ≤ i + 3 := by omega
  have c3 : i + 3 < (sc.1 : Int) := by omega
  have R4 : q_R (i + 4) = True := eq_true (by unfold q_R; omega)
  have b4 : 0 ≤ i + 4 := by omega
  have c4 : i + 4 < (sc.1 : Int) := by omega
  have R5 : q_R (i + 5) = True := eq_true (by unfold q_R; omega)
  have b5 : 0 ≤ i + 5 := by omega
  have c5 : i + 5 < (sc.1 : Int) := by omega
  simp only [k252_1279, k252_1280, k252_1281, k252_1283, k252_1284, k252_1285, k252_1286, k252_1287, k252_1289, k252_1290, k252_1291, k252_1292, true_implies, false_implies, not_true_eq_false, not_false_eq_true, true_and, and_true, implies_true, or_true, true_or, or_false, false_or, Int.reduceEq, Int.one_ne_zero, Nat.reduceEqDiff, R1, R2, R3, R4, R5, b1, b2, b3, b4, b5, c1, c2, c3, c4, c5, k252_1293 (u := u) (by omega)]
  refine h248 (D := D + 48) (p124 (D := D + 18) hC ?_)
  intro ρ hρ c' C' r' hC' hfr
  obtain ⟨O, hO⟩ : ∃ O, O = o_was L (sc.2 (i + 1).toNat).toInt (sc.2 (i + 2).toNat).toInt ρ := ⟨_, rfl⟩
  rw [← hO]
  have hOt : OCt [(1, 1), (0, 2)] O := by rw [hO]; exact ot18
  refine hk_O hOt ?_
  rw [q_kn_v]
  obtain ⟨u1, hu1⟩ : ∃ u1 : PU, u1 = (u.1 + 4, u.2 + 24) := ⟨_, rfl⟩
  rw [← hu1]
  have w1 : u1.1 + 0 ≤ 601024 ∧ u1.2 + 0 ≤ 7293034 := by rw [hu1]; dsimp only; omega
  have w2 : u1.1 ≤ u.1 + 4 ∧ u1.2 ≤ u.2 + 24 := by rw [hu1]; dsimp only; omega
  clear hu1
  simp only [k252_1296, k252_1298, k252_1299, k252_1300, k252_1302, k252_1303, k252_1304, k252_1305, k252_1306, k252_1308, k252_1309, k252_1310, true_implies, false_implies, not_true_eq_false, not_false_eq_true, true_and, and_true, implies_true, or_true, true_or, or_false, false_or, Int.reduceEq, Int.one_ne_zero, Nat.reduceEqDiff, R1, R2, R3, R4, R5, b1, b2, b3, b4, b5, c1, c2, c3, c4, c5, k252_1311 w1]
  refine s230 (D := D + 9) (RI_cs hR hfr) hρ ?_
  intro σ2 hR2 h0 hf2
  rw [← hO] at h0 ⊢
  rw [q_kn_v]
  refine lwT18 (by dsimp only; omega) h0 (fun x hx => by rw [hf2 188 0 (Or.inr rfl)]; exact ocs_188 x hx) (fun p hp => (hOt p hp).2) (fun u' l5 l6 hle => kk σ2 _ u' l5 l6 (LJ_mk (CI_m hC' (by omega)) hR2 (fun a i ha => by rw [hf2 a i (Or.inl ha), ocs_ne (by omega)])) (by dsimp only at hle; omega))
theorem ot19 : OCt [(0, 1)] (o_sav a b x ab F) := by
  intro p h
  unfold o_sav at h
  (repeat' split at h) <;> cases h <;> decide
theorem lw19 (hs : 0 ≤ i ∧ i + 6 ≤ sc.1) (h3 : sc.1 ≤ 3072) (hu : u.1 + 10 ≤ 601024 ∧ u.2 + 50 ≤ 7293034) (hm : m ≤ 100000) (hJ : LJ m σ) (kk : ∀ (σ' : St) (bb' : Bool) (u' : PU) (l5 l6 : V2), LJ (m + 1) σ' → u'.1 ≤ u.1 + 4 ∧ u'.2 ≤ u.2 + 24 → qx sc (D + 50) 252 1480 [vr 1000000, vr 0, vr 136, vr 188, vi i, l5, l6] [] u' bb' σ' Q) : qx sc (D + 50) 252 1347 [vr 1000000, vr 0, vr 136, vr 188, vi i, l5, l6] [] u bb σ Q := by
  obtain ⟨c, C, r, L, pl, n, f, ft, inp, len, rfl, hC, hR⟩ := hJ
  have R1 : q_R (i + 1) = True := eq_true (by unfold q_R; omega)
  have b1 : 0 ≤ i + 1 := by omega
  have c1 : i + 1 < (sc.1 : Int) := by omega
  have R2 : q_R (i + 2) = True := eq_true (by unfold q_R; omega)
  have b2 : 0 ≤ i + 2 := by omega
  have c2 : i + 2 < (sc.1 : Int) := by omega
  have R3 : q_R (i + 3) = True := eq_true (by unfold q_R; omega)
  have b3 : 0 ≤ i + 3 := by omega
  have c3 : i + 3 < (sc.1 : Int) := by omega
  have R4 : q_R (i + 4) = True := eq_true (by unfold q_R; omega)
  have b4 : 0 ≤ i + 4 := by omega
  have c4 : i + 4 < (sc.1 : Int) := by omega
  have R5 : q_R (i + 5) = True := eq_true (by unfold q_R; omega)
  have b5 : 0 ≤ i + 5 := by omega
  have c5 : i + 5 < (sc.1 : Int) := by omega
  by_cases hz : (sc.2 (i + 4).toNat).toInt = 0
  · simp only [k252_1347, k252_1348, k252_1349, k252_1351, k252_1352, k252_1353, k252_1354, k252_1355, k252_1357, k252_1358, k252_1359, k252_1360, k252_1361, k252_1363, k252_1364, k252_1365, k252_1366, k252_1367, k252_1369, k252_1370, k252_1371, k252_1372, k252_1375, k252_1376, k252_1379, k252_1380, true_implies, false_implies, not_true_eq_false, not_false_eq_true, true_and, and_true, implies_true, or_true, true_or, or_false, false_or, Int.reduceEq, Int.one_ne_zero, Nat.reduceEqDiff, R1, R2, R3, R4, R5, b1, b2, b3, b4, b5, c1, c2, c3, c4, c5, hz, k252_1381 (u := u) (by omega)]
    refine h244 (D := D + 48) (p119 (D := D + 18) hC ?_)
    intro F hF c' C' r' hC' hfr
    obtain ⟨O, hO⟩ : ∃ O, O = o_sav (sc.2 (i + 1).toNat).toInt (sc.2 (i + 2).toNat).toInt (sc.2 (i + 3).toNat).toInt 0 F := ⟨_, rfl⟩
    rw [← hO]
    have hOt : OCt [(0, 1)] O := by rw [hO]; exact ot19
    refine hk_O hOt ?_
    rw [q_kn_v]
    obtain ⟨u1, hu1⟩ : ∃ u1 : PU, u1 = (u.1 + 4, u.2 + 24) := ⟨_, rfl⟩
    rw [← hu1]
    have w1 : u1.1 + 0 ≤ 601024 ∧ u1.2 + 0 ≤ 7293034 := by rw [hu1]; dsimp only; omega
    have w2 : u1.1 ≤ u.1 + 4 ∧ u1.2 ≤ u.2 + 24 := by rw [hu1]; dsimp only; omega
    clear hu1
    simp only [k252_1384, k252_1386, k252_1387, k252_1388, k252_1390, k252_1391, k252_1392, k252_1393, k252_1394, k252_1396, k252_1397, k252_1398, k252_1399, k252_1400, k252_1402, k252_1403, k252_1404, k252_1405, k252_1406, k252_1408, k252_1409, k252_1410, k252_1411, k252_1414, k252_1415, k252_1418, true_implies, false_implies, not_true_eq_false, not_false_eq_true, true_and, and_true, implies_true, or_true, true_or, or_false, false_or, Int.reduceEq, Int.one_ne_zero, Nat.reduceEqDiff, R1, R2, R3, R4, R5, b1, b2, b3, b4, b5, c1, c2, c3, c4, c5, hz, k252_1419 w1]
    refine s210 (D := D + 9) (RI_cs hR hfr) hF ?_
    intro σ2 hR2 h0 hf2
    rw [← hO] at h0 ⊢
    rw [q_kn_v]
    refine lwT19 (by dsimp only; omega) h0 (fun x hx => by rw [hf2 188 0 (Or.inr rfl)]; exact ocs_188 x hx) (fun p hp => (hOt p hp).2) (fun u' l5 l6 hle => kk σ2 _ u' l5 l6 (LJ_mk (CI_m hC' (by omega)) hR2 (fun a i ha => by rw [hf2 a i (Or.inl ha), ocs_ne (by omega)])) (by dsimp only at hle; omega))
  · simp only [k252_1347, k252_1348, k252_1349, k252_1351, k252_1352, k252_1353, k252_1354, k252_1355, k252_1357, k252_1358, k252_1359, k252_1360, k252_1361, k252_1363, k252_1364, k252_1365, k252_1366, k252_1367, k252_1369, k252_1370, k252_1371, k252_1372, k252_1375, k252_1376, k252_1379, k252_1380, true_implies, false_implies, not_true_eq_false, not_false_eq_true, true_and, and_true, implies_true, or_true, true_or, or_false, false_or, Int.reduceEq, Int.one_ne_zero, Nat.reduceEqDiff, R1, R2, R3, R4, R5, b1, b2, b3, b4, b5, c1, c2, c3, c4, c5, hz, k252_1381 (u := u) (by omega)]
    refine h244 (D := D + 48) (p119 (D := D + 18) hC ?_)
    intro F hF c' C' r' hC' hfr
    obtain ⟨O, hO⟩ : ∃ O, O = o_sav (sc.2 (i + 1).toNat).toInt (sc.2 (i + 2).toNat).toInt (sc.2 (i + 3).toNat).toInt 1 F := ⟨_, rfl⟩
    rw [← hO]
    have hOt : OCt [(0, 1)] O := by rw [hO]; exact ot19
    refine hk_O hOt ?_
    rw [q_kn_v]
    obtain ⟨u1, hu1⟩ : ∃ u1 : PU, u1 = (u.1 + 4, u.2 + 24) := ⟨_, rfl⟩
    rw [← hu1]
    have w1 : u1.1 + 0 ≤ 601024 ∧ u1.2 + 0 ≤ 7293034 := by rw [hu1]; dsimp only; omega
    have w2 : u1.1 ≤ u.1 + 4 ∧ u1.2 ≤ u.2 + 24 := by rw [hu1]; dsimp only; omega
    clear hu1
    simp only [k252_1384, k252_1386, k252_1387, k252_1388, k252_1390, k252_1391, k252_1392, k252_1393, k252_1394, k252_1396, k252_1397, k252_1398, k252_1399, k252_1400, k252_1402, k252_1403, k252_1404, k252_1405, k252_1406, k252_1408, k252_1409, k252_1410, k252_1411, k252_1414, k252_1415, k252_1418, true_implies, false_implies, not_true_eq_false, not_false_eq_true, true_and, and_true, implies_true, or_true, true_or, or_false, false_or, Int.reduceEq, Int.one_ne_zero, Nat.reduceEqDiff, R1, R2, R3, R4, R5, b1, b2, b3, b4, b5, c1, c2, c3, c4, c5, hz, k252_1419 w1]
    refine s210 (D := D + 9) (RI_cs hR hfr) hF ?_
    intro σ2 hR2 h0 hf2
    rw [← hO] at h0 ⊢
    rw [q_kn_v]
    refine lwT19 (by dsimp only; omega) h0 (fun x hx => by rw [hf2 188 0 (Or.inr rfl)]; exact ocs_188 x hx) (fun p hp => (hOt p hp).2) (fun u' l5 l6 hle => kk σ2 _ u' l5 l6 (LJ_mk (CI_m hC' (by omega)) hR2 (fun a i ha => by rw [hf2 a i (Or.inl ha), ocs_ne (by omega)])) (by dsimp only at hle; omega))
end LWO
