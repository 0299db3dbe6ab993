section CRI
variable {sc : Nat × (Nat → Int32)} {D N : Nat} {bb : Bool} {Q : QP} {c : Nat} {C C' r : St} {k ar n M s dep : Int} {f P pl : Int → Int}
theorem n_48 {α β : Type} {cp : Bool → TT → β → β → α} {e0 : β} {blk : Int → Int → PX (β × Int)} {G : β → Int → Int → Int → Int → SO} (hB : HBC sc N bb c r P M dep pl blk G) (hc : q_C c) (hT : TKS r f n P M) (hf : t_by f n) (h0 : 0 ≤ k) (hk : k ≤ M) (ht : ¬ tk f n (P k) = -1) (hp : PC C pl) (h40 : C 0 0 < 40)
    (kk : ∀ C' k' ar' res, CX P M (p_wh f n pl cp e0 blk (C 0 0) (P k)) k' res → (∀ y q, p_wh f n pl cp e0 blk (C 0 0) (P k) = .inr (y, q) → (∃ c q A, blk c q = .inr A) ∧ ar' = ar ∧ (∃ t A, y.1 = cp true t A e0 ∧ SOK C C' (s_wh t (G A (C 0 2)) ar (C 0 0) (C 0 1) (C 0 2))) ∧ C' 0 0 = y.2 ∧ PC C' pl ∧ C 0 0 + 1 ≤ C' 0 0) → Q (.inl (some (vi res))) bb (CS c C' r k' ar')) :
    qx sc (N + D + 4) 48 0 [vr 4, vi dep, vn] [] (0, 0) bb (CS c C r k ar) Q := by
  obtain ⟨k1, e1, -⟩ := TKS_lt hT h0 hk ht
  have hM := hT.2.1
  have hP := hp
  unfold PC at hP
  obtain ⟨p1, p2, p3, p4, p5, p6, p7⟩ := hP
  have hs : 0 ≤ C 0 0 ∧ C 0 0 < 40 := ⟨p1, h40⟩
  unfold p_wh at kk
  rw [← e1] at kk
  have b00 : K_beg C 4 ar 0 0 = C 0 0 + 1 := by rw [K_beg_0, if_pos rfl]
  have b01 : K_beg C 4 ar 0 1 = C 0 1 := by rw [K_beg_0, if_neg (by decide)]
  have b02 : K_beg C 4 ar 0 2 = C 0 2 := by rw [K_beg_0, if_neg (by decide)]
  have hl : 0 ≤ K_beg C 4 ar 0 2 ∧ K_beg C 4 ar 0 2 < 40 := by omega
  simp only [k48_0, k48_1, k48_4, k48_5, k48_6, k48_9 hc, CS_at, CS_ar, CS_co, CS_6 hc, CS_7 hc, CS_8 hc, CSf hc, CSuf hc, CS_upat, CS_upar, c_nn, Int.toNat_natCast, c18_0, c18_1, c21_0, c21_1, qt_6, ql_6, qt_7, ql_7, qt_8, ql_8, qtc_18 hc, qlc_18 hc, qtc_21 hc, qlc_21 hc, CSg1 hc, CSu1 hc, qtc_1 hc, qlc_1 hc, CSg2 hc, CSu2 hc, qtc_2 hc, qlc_2 hc, CSg3 hc, CSu3 hc, qtc_3 hc, qlc_3 hc, CSg4 hc, CSu4 hc, qtc_4 hc, qlc_4 hc, CSg5 hc, CSu5 hc, qtc_5 hc, qlc_5 hc, CSg6 hc, CSu6 hc, qtc_6 hc, qlc_6 hc, CSg7 hc, CSu7 hc, qtc_7 hc, qlc_7 hc, CSg8 hc, CSu8 hc, qtc_8 hc, qlc_8 hc, CSg9 hc, CSu9 hc, qtc_9 hc, qlc_9 hc, CSg10 hc, CSu10 hc, qtc_10 hc, qlc_10 hc, CSg11 hc, CSu11 hc, qtc_11 hc, qlc_11 hc, CSg12 hc, CSu12 hc, qtc_12 hc, qlc_12 hc, CSg13 hc, CSu13 hc, qtc_13 hc, qlc_13 hc, CSg14 hc, CSu14 hc, qtc_14 hc, qlc_14 hc, CSg15 hc, CSu15 hc, qtc_15 hc, qlc_15 hc, CSg17 hc, CSu17 hc, qtc_17 hc, qlc_17 hc, CSg19 hc, CSu19 hc, qtc_19 hc, qlc_19 hc, CSg20 hc, CSu20 hc, qtc_20 hc, qlc_20 hc, CSg22 hc, CSu22 hc, qtc_22 hc, qlc_22 hc, CSg23 hc, CSu23 hc, qtc_23 hc, qlc_23 hc, c12 hc hs, q_kn_v, k48_12, k48_13, k48_14, k48_15, k48_18, k48_19, k48_20, k48_23, k48_24, k48_25, k48_28, k48_29 hc, c11 hc hs hl, k48_32, k48_35, k48_36, k48_37, b02, true_implies, false_implies, not_true_eq_false, not_false_eq_true, true_and, and_true, implies_true, or_true, true_or, or_false, false_or, Int.reduceEq, Int.one_ne_zero, Nat.reduceEqDiff]
  refine ⟨by omega, ?_⟩
  have iB : IVC C (q_up (q_up (q_up (K_beg C 4 ar) 0 2 (C 0 2 + 1)) 8 (C 0 0) (C 0 2)) 15 (C 0 2) (C 0 0)) := by
    obtain ⟨i1, i2, i3, i4⟩ := IVC_beg (C := C) (kind := 4) (a := ar)
    refine IVC_up (IVC_up ⟨fun j i hb => ?_, ?_, ?_, ?_⟩ (by decide) (by unfold BEL; omega)) (by decide) (by unfold BEL; omega)
    · rw [q_up_ne _ _ _ _ (by unfold BEL at hb; omega)]
      exact i1 j i hb
    · rw [q_up_ne2 _ _ _ (by decide)]; exact i2
    · rw [q_up_ne2 _ _ _ (by decide)]; exact i3
    · rw [q_up_eq]; omega
  have e00 : q_up (q_up (q_up (K_beg C 4 ar) 0 2 (C 0 2 + 1)) 8 (C 0 0) (C 0 2)) 15 (C 0 2) (C 0 0) 0 0 = C 0 0 + 1 := by simp only [q_up_eq, q_up_ne, q_up_ne2, q_upf_ne, q_upf_eq, not_false_eq_true, Nat.reduceEqDiff, Int.reduceEq]; exact b00
  have e01 : q_up (q_up (q_up (K_beg C 4 ar) 0 2 (C 0 2 + 1)) 8 (C 0 0) (C 0 2)) 15 (C 0 2) (C 0 0) 0 1 = C 0 1 := by simp only [q_up_eq, q_up_ne, q_up_ne2, q_upf_ne, q_upf_eq, not_false_eq_true, Nat.reduceEqDiff, Int.reduceEq]; exact b01
  have e02 : q_up (q_up (q_up (K_beg C 4 ar) 0 2 (C 0 2 + 1)) 8 (C 0 0) (C 0 2)) 15 (C 0 2) (C 0 0) 0 2 = C 0 2 + 1 := by simp only [q_up_eq, q_up_ne, q_up_ne2, q_upf_ne, q_upf_eq, not_false_eq_true, Nat.reduceEqDiff]
  have e15 : q_up (q_up (q_up (K_beg C 4 ar) 0 2 (C 0 2 + 1)) 8 (C 0 0) (C 0 2)) 15 (C 0 2) (C 0 0) 15 (C 0 2) = C 0 0 := q_up_eq _ _ _ _
  have e8 : q_up (q_up (q_up (K_beg C 4 ar) 0 2 (C 0 2 + 1)) 8 (C 0 0) (C 0 2)) 15 (C 0 2) (C 0 0) 8 (C 0 0) = C 0 2 := by simp only [q_up_eq, q_up_ne, q_up_ne2, q_upf_ne, q_upf_eq, not_false_eq_true, Nat.reduceEqDiff]
  have ej : ∀ j, 2 ≤ j ∧ j ≤ 11 → ¬ j = 8 → q_up (q_up (q_up (K_beg C 4 ar) 0 2 (C 0 2 + 1)) 8 (C 0 0) (C 0 2)) 15 (C 0 2) (C 0 0) j (C 0 0) = K_beg C 4 ar j (C 0 0) := by
    intro j n1 n2
    rw [q_up_ne _ _ _ _ (by omega), q_up_ne _ _ _ _ n2, q_up_ne _ _ _ _ (by omega)]
  generalize q_up (q_up (q_up (K_beg C 4 ar) 0 2 (C 0 2 + 1)) 8 (C 0 0) (C 0 2)) 15 (C 0 2) (C 0 0) = C1 at *
  refine n_54 (pl := pl) hc hT hf (fun i hi => by rw [iB.1 1 i (Or.inl rfl)]; exact p7 i hi) (by omega) k1 hs (fun C2 k2 res x2 v2 => ?_)
  generalize p_te f n pl (P (k + 1)) = Y at *
  rcases Y with y | ⟨t, y⟩
  · obtain ⟨b1, b2, rfl, b4⟩ := x2
    simp only [q_kn_v, k48_40, k48_51, k48_52, true_implies, false_implies, not_true_eq_false, not_false_eq_true, true_and, and_true, implies_true, or_true, true_or, or_false, false_or, Int.reduceEq, Int.one_ne_zero, Nat.reduceEqDiff]
    exact kk _ _ _ _ ⟨b1, b2, rfl, b4⟩ (fun A q h => by cases h)
  obtain ⟨a1, a2, rfl, rfl⟩ := x2
  obtain ⟨v2, ok1, ok2, ok3⟩ := v2 t _ rfl
  simp only [p_b_inr] at kk
  have i2 : IVC C C2 := by rw [v2]; exact IVC_test iB (Int.le_refl _)
  have d00 : C2 0 0 = C 0 0 + 1 := by rw [v2, K_test_ne (by omega), e00]
  have d01 : C2 0 1 = C 0 1 := by rw [v2, K_test_ne (by omega), e01]
  have d02 : C2 0 2 = C 0 2 + 1 := by rw [v2, K_test_ne (by omega), e02]
  have hp2 : PC C2 pl := by
    unfold PC
    refine ⟨by omega, by omega, by omega, by omega, by omega, by omega, fun i hi => ?_⟩
    rw [i2.1 1 i (Or.inl rfl)]
    exact p7 i hi
  simp only [q_kn_v, k48_40, k48_43, k48_44, k48_45, true_implies, false_implies, not_true_eq_false, not_false_eq_true, true_and, and_true, implies_true, or_true, true_or, or_false, false_or, Int.reduceEq, Int.one_ne_zero, Nat.reduceEqDiff]
  refine hB D C2 k2 (C 0 2) _ a1 a2 hp2 (fun C3 k3 ar3 res x3 v3 => ?_)
  rw [d00] at x3 v3
  generalize hYb : blk (C 0 0 + 1) (P k2) = Y at *
  rcases Y with y | ⟨A, y⟩
  · obtain ⟨b1, b2, rfl, b4⟩ := x3
    simp only [q_kn_v, k48_48, k48_51, k48_52, true_implies, false_implies, not_true_eq_false, not_false_eq_true, true_and, and_true, implies_true, or_true, true_or, or_false, false_or, Int.reduceEq, Int.one_ne_zero, Nat.reduceEqDiff]
    exact kk _ _ _ _ ⟨b1, b2, rfl, b4⟩ (fun A q h => by cases h)
  obtain ⟨f1, f2, rfl, rfl⟩ := x3
  obtain ⟨rfl, s3, c3, hp3⟩ := v3 A _ rfl
  simp only [p_b_inr] at kk
  rw [d01, d02] at s3
  have hP3 := hp3
  unfold PC at hP3
  obtain ⟨q1, q2, q3, q4, q5, q6, q7⟩ := hP3
  have i3 := s3.2.2.2.2.2.2
  have hle : C 0 0 + 1 ≤ C3 0 0 := by have := i3.2.1; omega
  have hd3 : ∀ j, 2 ≤ j → ¬ (12 ≤ j ∧ j ≤ 15) → C3 j (C 0 0) = C2 j (C 0 0) := fun j n1 n2 => i3.1 j _ (by unfold BEL; omega)
  have h9 : C3 9 (C 0 0) = ar := by rw [hd3 9 (by decide) (by omega), v2, K_test_ne (by omega), ej 9 (by omega) (by decide), K_beg_9, if_pos rfl]
  simp only [q_kn_v, k48_48, k48_51, k48_52, k48_53, k48_54, k48_55, k48_58 hc, k48_61, k48_62, k48_63, k48_66, k48_67, k48_70 hc, k48_73, k48_74, k48_75, k48_78 hc, k48_81, k48_82, k48_83, k48_86 hc, k48_89, k48_90, k48_91, k48_94 hc, k48_97, k48_98, k48_99, CS_at, CS_ar, CS_co, CS_6 hc, CS_7 hc, CS_8 hc, CSf hc, CSuf hc, CS_upat, CS_upar, c_nn, Int.toNat_natCast, c18_0, c18_1, c21_0, c21_1, qt_6, ql_6, qt_7, ql_7, qt_8, ql_8, qtc_18 hc, qlc_18 hc, qtc_21 hc, qlc_21 hc, CSg1 hc, CSu1 hc, qtc_1 hc, qlc_1 hc, CSg2 hc, CSu2 hc, qtc_2 hc, qlc_2 hc, CSg3 hc, CSu3 hc, qtc_3 hc, qlc_3 hc, CSg4 hc, CSu4 hc, qtc_4 hc, qlc_4 hc, CSg5 hc, CSu5 hc, qtc_5 hc, qlc_5 hc, CSg6 hc, CSu6 hc, qtc_6 hc, qlc_6 hc, CSg7 hc, CSu7 hc, qtc_7 hc, qlc_7 hc, CSg8 hc, CSu8 hc, qtc_8 hc, qlc_8 hc, CSg9 hc, CSu9 hc, qtc_9 hc, qlc_9 hc, CSg10 hc, CSu10 hc, qtc_10 hc, qlc_10 hc, CSg11 hc, CSu11 hc, qtc_11 hc, qlc_11 hc, CSg12 hc, CSu12 hc, qtc_12 hc, qlc_12 hc, CSg13 hc, CSu13 hc, qtc_13 hc, qlc_13 hc, CSg14 hc, CSu14 hc, qtc_14 hc, qlc_14 hc, CSg15 hc, CSu15 hc, qtc_15 hc, qlc_15 hc, CSg17 hc, CSu17 hc, qtc_17 hc, qlc_17 hc, CSg19 hc, CSu19 hc, qtc_19 hc, qlc_19 hc, CSg20 hc, CSu20 hc, qtc_20 hc, qlc_20 hc, CSg22 hc, CSu22 hc, qtc_22 hc, qlc_22 hc, CSg23 hc, CSu23 hc, qtc_23 hc, qlc_23 hc, q_up_eq, q_up_ne, q_up_ne2, q_upf_ne, q_upf_eq, not_false_eq_true, Nat.reduceEqDiff, h9, true_implies, false_implies, not_true_eq_false, not_false_eq_true, true_and, and_true, implies_true, or_true, true_or, or_false, false_or, Int.reduceEq, Int.one_ne_zero, Nat.reduceEqDiff]
  refine ⟨hs, hs, hs, ?_⟩
  have u0 : ∀ i, q_up (q_up C3 10 (C 0 0) (C3 0 0)) 11 (C 0 0) (C3 0 0) 0 i = C3 0 i := fun i => by rw [q_up_ne _ _ _ _ (by decide), q_up_ne _ _ _ _ (by decide)]
  have hx : IVX (C 0 0) C3 (q_up (q_up C3 10 (C 0 0) (C3 0 0)) 11 (C 0 0) (C3 0 0)) := by
    refine ⟨fun j i hb hn => ?_, ?_, ?_, ?_⟩
    · rw [q_up_app, if_neg (by omega), q_up_app, if_neg (by omega)]
    · rw [u0]; exact Int.le_refl _
    · rw [u0]; exact Int.le_refl _
    · rw [u0]; exact Int.le_refl _
  obtain ⟨ta1, ta2, ta3⟩ := SOKX_mono s3 hx (by omega) (by omega)
  obtain ⟨-, -, -, l1, l2, l3, -⟩ := s3
  rw [d00] at ta1 l1
  rw [d01] at ta2 l2
  rw [d02] at ta3 l3
  obtain ⟨g17, g19, g22, g20, g23⟩ := K_test_g (C := C1) (s := C 0 0) (t := t)
  have hd : ∀ j, 2 ≤ j → ¬ j = 10 → ¬ j = 11 → ¬ (12 ≤ j ∧ j ≤ 15) → q_up (q_up C3 10 (C 0 0) (C3 0 0)) 11 (C 0 0) (C3 0 0) j (C 0 0) = C2 j (C 0 0) := by
    intro j n0 n1 n2 n3
    rw [q_up_ne _ _ _ _ n2, q_up_ne _ _ _ _ n1]
    exact hd3 j n0 n3
  have iF : IVC C (q_up (q_up C3 10 (C 0 0) (C3 0 0)) 11 (C 0 0) (C3 0 0)) := IVC_up (IVC_up (IVC_trans i2 i3) (by decide) (by unfold BEL; omega)) (by decide) (by unfold BEL; omega)
  have hL : LRok (q_up (q_up C3 10 (C 0 0) (C3 0 0)) 11 (C 0 0) (C3 0 0)) (C 0 2) (C 0 0, ar) := by
    unfold LRok
    rw [q_up_ne _ _ _ _ (by decide), q_up_ne _ _ _ _ (by decide), i3.1 15 _ (by unfold BEL; omega), v2, K_test_ne (by omega), e15]
  refine kk _ _ _ _ ⟨f1, f2, rfl, rfl⟩ (fun y q h => ?_)
  cases h
  refine ⟨⟨_, _, _, hYb⟩, rfl, ⟨t, A.1, rfl, ?_⟩, by rw [u0]; exact c3, ?_, by rw [u0]; exact hle⟩
  · unfold SOK s_wh
    dsimp only
    refine ⟨⟨?_, ta1⟩, ta2, ⟨hL, ta3⟩, ?_, ?_, ?_, iF⟩
    · unfold SRok
      dsimp only
      rw [hd 2 (by decide) (by decide) (by decide) (by omega), hd 3 (by decide) (by decide) (by decide) (by omega), hd 4 (by decide) (by decide) (by decide) (by omega), hd 5 (by decide) (by decide) (by decide) (by omega), hd 6 (by decide) (by decide) (by decide) (by omega), hd 7 (by decide) (by decide) (by decide) (by omega), hd 8 (by decide) (by decide) (by decide) (by omega), hd 9 (by decide) (by decide) (by decide) (by omega), hd 17 (by decide) (by decide) (by decide) (by omega), hd 19 (by decide) (by decide) (by decide) (by omega), hd 22 (by decide) (by decide) (by decide) (by omega), hd 20 (by decide) (by decide) (by decide) (by omega), hd 23 (by decide) (by decide) (by decide) (by omega), v2, g17, g19, g22, g20, g23]
      rw [K_test_ne (by omega), K_test_ne (by omega), K_test_ne (by omega), K_test_ne (by omega), K_test_ne (by omega), K_test_ne (by omega), K_test_ne (by omega), K_test_ne (by omega), e8, ej 2 (by omega) (by decide), ej 3 (by omega) (by decide), ej 4 (by omega) (by decide), ej 5 (by omega) (by decide), ej 6 (by omega) (by decide), ej 7 (by omega) (by decide), ej 9 (by omega) (by decide)]
      simp only [q_up_eq, q_up_ne, q_up_ne2, q_upf_ne, q_upf_eq, not_false_eq_true, K_beg_0, K_beg_ne, K_beg_2, K_beg_3, K_beg_4, K_beg_5, K_beg_6, K_beg_7, K_beg_8, K_beg_9, K_beg_10, K_beg_11, Nat.reduceEqDiff, if_true, true_and]
      exact ⟨l1, l1, fun _ => trivial⟩
    · rw [u0, l1, List.length_cons]; omega
    · rw [u0, l2]
    · rw [u0, l3, List.length_cons]; omega
  · unfold PC
    rw [u0, u0, u0]
    refine ⟨q1, q2, q3, q4, q5, q6, fun i hi => ?_⟩
    rw [q_up_ne _ _ _ _ (by decide), q_up_ne _ _ _ _ (by decide)]
    exact q7 i hi
theorem k52_sw {x : Int} {ls st : List V2} {u : PU} {σ : St} (h1 : 65 ≤ x ∧ x ≤ 67 → qx sc D 52 142 ls st u bb σ Q) (h2 : x = 257 → qx sc D 52 116 ls st u bb σ Q) (h3 : x = 258 → qx sc D 52 124 ls st u bb σ Q) (h4 : x = 260 → qx sc D 52 133 ls st u bb σ Q) (h5 : ¬ (65 ≤ x ∧ x ≤ 67) → ¬ x = 257 → ¬ x = 258 → ¬ x = 260 → qx sc D 52 150 ls st u bb σ Q) : qx sc D 52 59 ls (vi x :: st) u bb σ Q := by
  rw [k52_59]
  by_cases a1 : x = 65
  · rw [if_pos a1]; exact h1 (by omega)
  rw [if_neg a1]
  by_cases a2 : x = 66
  · rw [if_pos a2]; exact h1 (by omega)
  rw [if_neg a2]
  by_cases a3 : x = 67
  · rw [if_pos a3]; exact h1 (by omega)
  rw [if_neg a3]
  by_cases a4 : x = 257
  · rw [if_pos a4]; exact h2 a4
  rw [if_neg a4]
  by_cases a5 : x = 258
  · rw [if_pos a5]; exact h3 a5
  rw [if_neg a5]
  by_cases a6 : x = 260
  · rw [if_pos a6]; exact h4 a6
  rw [if_neg a6]
  exact h5 (by omega) a4 a5 a6
theorem PC_sok {x : SB} (hp : PC C pl) (h40 : C 0 0 < 40) (hx : x.2.1 = 0 ∨ x.2.1 = 1) (hs : SOK C C' (s_b x ar (C 0 0) (C 0 1) (C 0 2))) : PC C' pl ∧ C' 0 0 = C 0 0 + 1 := by
  obtain ⟨-, -, -, l1, l2, l3, i⟩ := hs
  unfold PC at *
  obtain ⟨p1, p2, p3, p4, p5, p6, p7⟩ := hp
  unfold s_b at l1 l2 l3
  simp only [List.length_cons, List.length_nil] at l1 l3
  dsimp only at l2
  have l2' : C' 0 1 = C 0 1 ∨ C' 0 1 = C 0 1 + 1 := by
    rcases hx with h | h
    · rw [if_neg (by omega)] at l2; left; simpa using l2
    · rw [if_pos h] at l2; right; simpa using l2
  refine ⟨⟨by omega, by omega, by omega, by omega, by omega, by omega, fun j hj => ?_⟩, by omega⟩
  rw [i.1 1 j (Or.inl rfl)]
  exact p7 j hj
theorem n_52 {α β : Type} {sb : SB → α} {cp : Bool → TT → β → β → α} {e0 : β} {blk : Int → Int → PX (β × Int)} {G : β → Int → Int → Int → Int → SO} {GS : α → Int → Int → Int → Int → SO} (hB : HBC sc N bb c r P M dep pl blk G) (hG0 : ∀ ar s k l, G e0 ar s k l = ([], [], [])) (hc : q_C c) (hT : TKS r f n P M) (hf : t_by f n)
    (hsb : ∀ x ar s k l, GS (sb x) ar s k l = s_b x ar s k l) (hcp : (∃ c q A, blk c q = .inr A) → (∀ t A B ar s k l, GS (cp false t A B) ar s k l = s_if t (G A ar) (G B ar) ar s k l) ∧ (∀ t A ar s k l, GS (cp true t A e0) ar s k l = s_wh t (G A l) ar s k l)) :
    HSC sc (N + 3) bb c r P M dep pl (p_ls f n pl sb cp e0 blk 41) (fun L ar => s_seq (L.map (fun z => GS z ar))) := by
  intro D
  rw [show N + 3 + D + 2 = N + D + 5 by omega]
  have hM := hT.2.1
  have key : ∀ (m : Nat) (C : St) (k ar told : Int) (Q : QP) (l4 : V2), 41 ≤ (m : Int) + C 0 0 → told + m = 41 → 0 ≤ told → 0 ≤ k → k ≤ M → PC C pl →
    (∀ C' k' ar' res, CX P M (p_ls f n pl sb cp e0 blk m (C 0 0) (P k)) k' res → (∀ A q, p_ls f n pl sb cp e0 blk m (C 0 0) (P k) = .inr (A, q) → ar' = ar ∧ SOK C C' (s_seq (A.1.map (fun z => GS z ar)) (C 0 0) (C 0 1) (C 0 2)) ∧ C' 0 0 = A.2 ∧ PC C' pl) → Q (.inl (some (vi res))) bb (CS c C' r k' ar')) →
    qx sc (N + D + 5) 52 4 [vr 4, vi dep, vi 1, vi told, l4] [] (0, 0) bb (CS c C r k ar) Q := by
    intro m
    induction m with
    | zero =>
      intro C k ar told Q l4 hm ht _ _ _ hp
      unfold PC at hp
      omega
    | succ m ih =>
      intro C k ar told Q l4 hm ht ht0 h0 hk hp kk
      obtain ⟨-, h6, -, hpk⟩ := hT.2.2.1 k h0 hk
      have hP := hp
      unfold PC at hP
      obtain ⟨p1, p2, p3, p4, p5, p6, p7⟩ := hP
      unfold p_ls at kk
      have ht40 : ¬ 40 < told := by omega
      rw [k52_4]
      simp only [k52_5, k52_8, k52_9, k52_11, k52_14, k52_15, k52_18, k52_21, k52_22, k52_25, k52_26, k52_28, k52_30, k52_31, CS_at, CS_ar, CS_co, CS_6 hc, CS_7 hc, CS_8 hc, CSf hc, CSuf hc, CS_upat, CS_upar, c_nn, Int.toNat_natCast, c18_0, c18_1, c21_0, c21_1, qt_6, ql_6, qt_7, ql_7, qt_8, ql_8, qtc_18 hc, qlc_18 hc, qtc_21 hc, qlc_21 hc, CSg1 hc, CSu1 hc, qtc_1 hc, qlc_1 hc, CSg2 hc, CSu2 hc, qtc_2 hc, qlc_2 hc, CSg3 hc, CSu3 hc, qtc_3 hc, qlc_3 hc, CSg4 hc, CSu4 hc, qtc_4 hc, qlc_4 hc, CSg5 hc, CSu5 hc, qtc_5 hc, qlc_5 hc, CSg6 hc, CSu6 hc, qtc_6 hc, qlc_6 hc, CSg7 hc, CSu7 hc, qtc_7 hc, qlc_7 hc, CSg8 hc, CSu8 hc, qtc_8 hc, qlc_8 hc, CSg9 hc, CSu9 hc, qtc_9 hc, qlc_9 hc, CSg10 hc, CSu10 hc, qtc_10 hc, qlc_10 hc, CSg11 hc, CSu11 hc, qtc_11 hc, qlc_11 hc, CSg12 hc, CSu12 hc, qtc_12 hc, qlc_12 hc, CSg13 hc, CSu13 hc, qtc_13 hc, qlc_13 hc, CSg14 hc, CSu14 hc, qtc_14 hc, qlc_14 hc, CSg15 hc, CSu15 hc, qtc_15 hc, qlc_15 hc, CSg17 hc, CSu17 hc, qtc_17 hc, qlc_17 hc, CSg19 hc, CSu19 hc, qtc_19 hc, qlc_19 hc, CSg20 hc, CSu20 hc, qtc_20 hc, qlc_20 hc, CSg22 hc, CSu22 hc, qtc_22 hc, qlc_22 hc, CSg23 hc, CSu23 hc, qtc_23 hc, qlc_23 hc, h6, ht40, true_implies, false_implies, not_true_eq_false, not_false_eq_true, true_and, and_true, implies_true, or_true, true_or, or_false, false_or, Int.reduceEq, Int.one_ne_zero, Nat.reduceEqDiff]
      refine ⟨by omega, fun t1 => ?_, fun t1 => ?_⟩
      · rw [if_pos (Or.inl t1)] at kk
        simp only [k52_41, k52_42, true_implies, false_implies, not_true_eq_false, not_false_eq_true, true_and, and_true, implies_true, or_true, true_or, or_false, false_or, Int.reduceEq, Int.one_ne_zero, Nat.reduceEqDiff]
        refine kk _ _ _ _ ⟨h0, hk, rfl, rfl⟩ (fun A q h => ?_)
        cases h
        exact ⟨rfl, ⟨trivial, trivial, trivial, by simp [s_seq], by simp [s_seq], by simp [s_seq], IVC_refl⟩, rfl, hp⟩
      simp only [k52_34, k52_36, k52_38]
      refine ⟨fun t2 => ?_, fun t2 => ?_⟩
      · rw [if_pos (Or.inr t2)] at kk
        simp only [k52_41, k52_42, true_implies, false_implies, not_true_eq_false, not_false_eq_true, true_and, and_true, implies_true, or_true, true_or, or_false, false_or, Int.reduceEq, Int.one_ne_zero, Nat.reduceEqDiff]
        refine kk _ _ _ _ ⟨h0, hk, rfl, rfl⟩ (fun A q h => ?_)
        cases h
        exact ⟨rfl, ⟨trivial, trivial, trivial, by simp [s_seq], by simp [s_seq], by simp [s_seq], IVC_refl⟩, rfl, hp⟩
      rw [if_neg (by omega)] at kk
      simp only [k52_43, k52_44, k52_47 hc, k52_50, k52_52, CS_at, CS_ar, CS_co, CS_6 hc, CS_7 hc, CS_8 hc, CSf hc, CSuf hc, CS_upat, CS_upar, c_nn, Int.toNat_natCast, c18_0, c18_1, c21_0, c21_1, qt_6, ql_6, qt_7, ql_7, qt_8, ql_8, qtc_18 hc, qlc_18 hc, qtc_21 hc, qlc_21 hc, CSg1 hc, CSu1 hc, qtc_1 hc, qlc_1 hc, CSg2 hc, CSu2 hc, qtc_2 hc, qlc_2 hc, CSg3 hc, CSu3 hc, qtc_3 hc, qlc_3 hc, CSg4 hc, CSu4 hc, qtc_4 hc, qlc_4 hc, CSg5 hc, CSu5 hc, qtc_5 hc, qlc_5 hc, CSg6 hc, CSu6 hc, qtc_6 hc, qlc_6 hc, CSg7 hc, CSu7 hc, qtc_7 hc, qlc_7 hc, CSg8 hc, CSu8 hc, qtc_8 hc, qlc_8 hc, CSg9 hc, CSu9 hc, qtc_9 hc, qlc_9 hc, CSg10 hc, CSu10 hc, qtc_10 hc, qlc_10 hc, CSg11 hc, CSu11 hc, qtc_11 hc, qlc_11 hc, CSg12 hc, CSu12 hc, qtc_12 hc, qlc_12 hc, CSg13 hc, CSu13 hc, qtc_13 hc, qlc_13 hc, CSg14 hc, CSu14 hc, qtc_14 hc, qlc_14 hc, CSg15 hc, CSu15 hc, qtc_15 hc, qlc_15 hc, CSg17 hc, CSu17 hc, qtc_17 hc, qlc_17 hc, CSg19 hc, CSu19 hc, qtc_19 hc, qlc_19 hc, CSg20 hc, CSu20 hc, qtc_20 hc, qlc_20 hc, CSg22 hc, CSu22 hc, qtc_22 hc, qlc_22 hc, CSg23 hc, CSu23 hc, qtc_23 hc, qlc_23 hc, true_implies, false_implies, not_true_eq_false, not_false_eq_true, true_and, and_true, implies_true, or_true, true_or, or_false, false_or, Int.reduceEq, Int.one_ne_zero, Nat.reduceEqDiff]
      refine ⟨fun h40 => ?_, fun h40 => ?_⟩
      · rw [if_neg (by omega)] at kk
        -- behind a statement
        have fin : ∀ (δ : Type) (Y : PX δ) (W : δ → α × Int) (C1 : St) (k1 ar1 res : Int), CX P M Y k1 res → p_s1 f n pl sb cp e0 blk (C 0 0) (P k) = p_b Y (fun u z => .inr (W u, z)) → (∀ u z, Y = .inr (u, z) → ar1 = ar ∧ SOK C C1 (GS (W u).1 ar (C 0 0) (C 0 1) (C 0 2)) ∧ C1 0 0 = (W u).2 ∧ PC C1 pl ∧ C 0 0 + 1 ≤ C1 0 0) → qx sc (N + D + 5) 52 155 [vr 4, vi dep, vi res, vi told, vi (tk f n (P k))] [] (0, 0) bb (CS c C1 r k1 ar1) Q := by
          intro δ Y W C1 k1 ar1 res hY eY sY
          rw [eY] at kk
          simp only [k52_155, k52_158]
          refine ⟨by omega, ?_⟩
          rcases Y with y | ⟨u, z⟩
          · obtain ⟨b1, b2, rfl, b4⟩ := hY
            rw [k52_4]
            simp only [k52_5, k52_161, k52_162, true_implies, false_implies, not_true_eq_false, not_false_eq_true, true_and, and_true, implies_true, or_true, true_or, or_false, false_or, Int.reduceEq, Int.one_ne_zero, Nat.reduceEqDiff]
            exact kk _ _ _ _ ⟨b1, b2, rfl, b4⟩ (fun A q h => by cases h)
          · obtain ⟨b1, b2, rfl, rfl⟩ := hY
            obtain ⟨rfl, s1, c1, hp1, hc1⟩ := sY u _ rfl
            simp only [p_b_inr] at kk
            refine ih C1 k1 ar1 (told + 1) _ _ (by omega) (by omega) (by omega) b1 b2 hp1 (fun C' k' ar' res x' v' => ?_)
            rw [c1] at x' v'
            refine kk C' k' ar' res (CX_map.mpr x') (fun A q h => ?_)
            generalize p_ls f n pl sb cp e0 blk m (W u).2 (P k1) = Z at *
            rcases Z with Z | ⟨Z, z2⟩
            · cases h
            · cases h
              obtain ⟨rfl, s2, c2, hp2⟩ := v' Z q rfl
              rw [← c1] at s2
              exact ⟨rfl, SOK_seq p1 s1 s2, c2, hp2⟩
        have hbase : ∀ (Y : PX SB) (C1 : St) (k1 res : Int), CX P M Y k1 res → p_s1 f n pl sb cp e0 blk (C 0 0) (P k) = p_b Y (fun x p => .inr ((sb x, C 0 0 + 1), p)) → (∀ x q, Y = .inr (x, q) → SOK C C1 (s_b x ar (C 0 0) (C 0 1) (C 0 2)) ∧ (x.2.1 = 0 ∨ x.2.1 = 1)) → qx sc (N + D + 5) 52 155 [vr 4, vi dep, vi res, vi told, vi (tk f n (P k))] [] (0, 0) bb (CS c C1 r k1 ar) Q := by
          intro Y C1 k1 res hY eY sY
          refine fin SB Y (fun x => (sb x, C 0 0 + 1)) C1 k1 ar res hY eY (fun u z e => ?_)
          obtain ⟨y1, y2⟩ := sY u z e
          obtain ⟨y3, y4⟩ := PC_sok hp h40 y2 y1
          exact ⟨rfl, by rw [hsb]; exact y1, y4, y3, by omega⟩
        simp only [k52_57]
        refine k52_sw (fun t3 => ?_) (fun t3 => ?_) (fun t3 => ?_) (fun t3 => ?_) (fun a1 a2 a3 a4 => ?_)
        · simp only [k52_142, k52_143]
          refine n_53 hc hT hf p7 h0 hk ⟨p1, h40⟩ (by omega) (fun C1 k1 res x1 v1 => ?_)
          simp only [q_kn_v, k52_146, k52_147]
          refine hbase _ C1 k1 res x1 ?_ v1
          unfold p_s1
          rw [if_neg (by omega), if_neg (by omega), if_neg (by omega), if_pos t3]
        · simp only [k52_116, k52_117]
          refine n_46 hc hT hf h0 hk (by omega) ⟨p1, h40⟩ (fun C1 k1 res x1 v1 => ?_)
          simp only [q_kn_v, k52_120, k52_121]
          refine hbase _ C1 k1 res x1 ?_ v1
          unfold p_s1
          rw [if_pos t3]
        · simp only [k52_124, k52_125, k52_126]
          refine n_41 (cp := cp) (e0 := e0) hB hG0 hc hT hf h0 hk (by omega) hp h40 (fun C1 k1 ar1 res x1 v1 => ?_)
          simp only [q_kn_v, k52_129, k52_130]
          refine fin (α × Int) _ (fun u => u) C1 k1 ar1 res x1 ?_ (fun u z e => ?_)
          · unfold p_s1
            rw [if_neg (by omega), if_pos t3]
            generalize p_if f n pl cp e0 blk (C 0 0) (P k) = Z
            rcases Z with Z | ⟨Z, z⟩ <;> rfl
          · obtain ⟨hok, y1, ⟨t, A, B, y2, y3⟩, y4, y5, y6⟩ := v1 u z e
            exact ⟨y1, by rw [y2, (hcp hok).1]; exact y3, y4, y5, y6⟩
        · simp only [k52_133, k52_134, k52_135]
          refine n_48 (cp := cp) (e0 := e0) hB hc hT hf h0 hk (by omega) hp h40 (fun C1 k1 ar1 res x1 v1 => ?_)
          simp only [q_kn_v, k52_138, k52_139]
          refine fin (α × Int) _ (fun u => u) C1 k1 ar1 res x1 ?_ (fun u z e => ?_)
          · unfold p_s1
            rw [if_neg (by omega), if_neg (by omega), if_pos t3]
            generalize p_wh f n pl cp e0 blk (C 0 0) (P k) = Z
            rcases Z with Z | ⟨Z, z⟩ <;> rfl
          · obtain ⟨hok, y1, ⟨t, A, y2, y3⟩, y4, y5, y6⟩ := v1 u z e
            exact ⟨y1, by rw [y2, (hcp hok).2]; exact y3, y4, y5, y6⟩
        · simp only [k52_150, k52_151]
          refine n_39 hc hT hf p7 h0 hk ⟨p1, h40⟩ (by omega) (fun C1 k1 res x1 v1 => ?_)
          simp only [q_kn_v, k52_154]
          refine hbase _ C1 k1 res x1 ?_ v1
          unfold p_s1
          rw [if_neg a2, if_neg a3, if_neg a4, if_neg a1]
      · rw [if_pos (by omega)] at kk
        simp only [k52_55, k52_56, true_implies, false_implies, not_true_eq_false, not_false_eq_true, true_and, and_true, implies_true, or_true, true_or, or_false, false_or, Int.reduceEq, Int.one_ne_zero, Nat.reduceEqDiff]
        exact kk _ _ _ _ ⟨h0, hk, rfl, rfl⟩ (fun A q h => by cases h)
  intro C k ar Q h0 hk hp kk
  simp only [k52_0, k52_1, k52_2, k52_3]
  refine key 41 C k ar 0 Q _ ?_ (by omega) (by omega) h0 hk hp kk
  unfold PC at hp
  omega
theorem s_S_0 (x : SB) (ar s k l : Int) : s_S 0 x ar s k l = s_b x ar s k l := by
  unfold s_S
  rfl
theorem s_S_b (d : Nat) (x : SB) (ar s k l : Int) : s_S (d + 1) (Sum.inl x) ar s k l = s_b x ar s k l := by
  unfold s_S
  rfl
theorem s_S_if (d : Nat) (t : TT) (A B : List (ST d)) (ar s k l : Int) : s_S (d + 1) (Sum.inr ((false, t), A, B)) ar s k l = s_if t (s_L d A ar) (s_L d B ar) ar s k l := by
  rw [s_S]
  simp only [Bool.false_eq_true, if_false]
  rfl
theorem s_S_wh (d : Nat) (t : TT) (A B : List (ST d)) (ar s k l : Int) : s_S (d + 1) (Sum.inr ((true, t), A, B)) ar s k l = s_wh t (s_L d A l) ar s k l := by
  rw [s_S]
  simp only [if_true]
  rfl
/-- statements in the class, so many blocks within one another still allowed -/
theorem n_L (hc : q_C c) (hT : TKS r f n P M) (hf : t_by f n) : ∀ d : Nat, d ≤ 5 → HSC sc (3 * d + 3) bb c r P M (5 - d) pl (p_L f n pl d) (s_L d) := by
  intro d
  induction d with
  | zero =>
    intro _
    exact n_52 (N := 0) (dep := 5) (α := ST 0) (β := Unit) (sb := fun x => x) (cp := fun _ _ _ _ => ((0, 0, 0, 0, 0), p_no)) (e0 := ()) (GS := s_S 0) n_40z (fun _ _ _ _ => rfl) hc hT hf s_S_0 (fun ⟨c, q, A, h⟩ => by cases h)
  | succ d ih =>
    intro hd
    have h0 := ih (by omega)
    have e1 : (5 : Int) - (d : Int) = 5 - ((d + 1 : Nat) : Int) + 1 := by omega
    rw [e1] at h0
    have hb := n_40 h0 hc hT (by omega)
    have h := n_52 (N := 3 * d + 3) (α := ST (d + 1)) (β := List (ST d)) (sb := fun x => .inl x) (cp := fun w t A B => .inr ((w, t), A, B)) (e0 := []) (GS := s_S (d + 1)) hb (fun _ _ _ _ => rfl) hc hT hf (s_S_b d) (fun _ => ⟨fun t A B ar s k l => s_S_if d t A B ar s k l, fun t A ar s k l => s_S_wh d t A [] ar s k l⟩)
    rw [show 3 * d + 3 + 3 = 3 * (d + 1) + 3 by omega] at h
    exact h
end CRI
