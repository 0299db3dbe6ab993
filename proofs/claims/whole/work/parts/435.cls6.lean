/-! blocks in the class -/
/-- counts as they may be; the rows told -/
def PC (C : St) (pl : Int → Int) : Prop := 0 ≤ C 0 0 ∧ C 0 0 ≤ 40 ∧ 0 ≤ C 0 1 ∧ C 0 1 ≤ C 0 0 ∧ 0 ≤ C 0 2 ∧ C 0 2 ≤ C 0 0 ∧ ∀ i, i = 0 ∨ i = 1 ∨ i = 2 → C 1 i = pl i
/-- a block can be read -/
def HBC (sc : Nat × (Nat → Int32)) (N : Nat) (bb : Bool) (c : Nat) (r : St) (P : Int → Int) (M dep : Int) (pl : Int → Int) {β : Type} (blk : Int → Int → PX (β × Int)) (G : β → Int → Int → Int → Int → SO) : Prop :=
  ∀ (D : Nat) (C : St) (k ar : Int) (Q : QP), 0 ≤ k → k ≤ M → PC C pl →
    (∀ C' k' ar' res, CX P M (blk (C 0 0) (P k)) k' res → (∀ A q, blk (C 0 0) (P k) = .inr (A, q) → ar' = ar ∧ SOK C C' (G A.1 ar (C 0 0) (C 0 1) (C 0 2)) ∧ C' 0 0 = A.2 ∧ PC C' pl) → Q (.inl (some (vi res))) bb (CS c C' r k' ar')) →
    qx sc (N + D + 3) 40 0 [vr 4, vi dep] [] (0, 0) bb (CS c C r k ar) Q
/-- statements can be read -/
def HSC (sc : Nat × (Nat → Int32)) (N : Nat) (bb : Bool) (c : Nat) (r : St) (P : Int → Int) (M dep : Int) (pl : Int → Int) {β : Type} (g : Int → Int → PX (β × Int)) (G : β → Int → Int → Int → Int → SO) : Prop :=
  ∀ (D : Nat) (C : St) (k ar : Int) (Q : QP), 0 ≤ k → k ≤ M → PC C pl →
    (∀ C' k' ar' res, CX P M (g (C 0 0) (P k)) k' res → (∀ A q, g (C 0 0) (P k) = .inr (A, q) → ar' = ar ∧ SOK C C' (G A.1 ar (C 0 0) (C 0 1) (C 0 2)) ∧ C' 0 0 = A.2 ∧ PC C' pl) → Q (.inl (some (vi res))) bb (CS c C' r k' ar')) →
    qx sc (N + D + 2) 52 0 [vr 4, vi dep, vn, vn, vn] [] (0, 0) bb (CS c C r k ar) Q
/-- as IVC, but for two rows of a statement -/
def IVX (s : Int) (C C' : St) : Prop := (∀ j i, BEL C j i → ¬ ((j = 10 ∨ j = 11) ∧ i = s) → C' j i = C j i) ∧ C 0 0 ≤ C' 0 0 ∧ C 0 1 ≤ C' 0 1 ∧ C 0 2 ≤ C' 0 2
theorem SOKX_mono {C0 C C' : St} {s : Int} {o : SO} (h : SOK C0 C o) (hi : IVX s C C') (h0 : 0 ≤ C0 0 0) (hs : s < C0 0 0) : TAB (SRok C') (C0 0 0) o.1 ∧ TAB (KRok C') (C0 0 1) o.2.1 ∧ TAB (LRok C') (C0 0 2) o.2.2 := by
  obtain ⟨a1, a2, a3, a4, a5, a6, a7⟩ := h
  refine ⟨TAB_mono _ _ (fun j x j1 j2 hx => ?_) a1, TAB_mono _ _ (fun j x j1 j2 hx => ?_) a2, TAB_mono _ _ (fun j x j1 j2 hx => ?_) a3⟩
  · unfold SRok at *
    simp only [hi.1 2 j (by unfold BEL; omega) (by omega), hi.1 3 j (by unfold BEL; omega) (by omega), hi.1 4 j (by unfold BEL; omega) (by omega), hi.1 5 j (by unfold BEL; omega) (by omega), hi.1 6 j (by unfold BEL; omega) (by omega), hi.1 7 j (by unfold BEL; omega) (by omega), hi.1 8 j (by unfold BEL; omega) (by omega), hi.1 9 j (by unfold BEL; omega) (by omega), hi.1 10 j (by unfold BEL; omega) (by omega), hi.1 11 j (by unfold BEL; omega) (by omega), hi.1 17 j (by unfold BEL; omega) (by omega), hi.1 19 j (by unfold BEL; omega) (by omega), hi.1 20 j (by unfold BEL; omega) (by omega), hi.1 22 j (by unfold BEL; omega) (by omega), hi.1 23 j (by unfold BEL; omega) (by omega)]
    exact hx
  · unfold KRok at *
    simp only [hi.1 12 j (by unfold BEL; omega) (by omega), hi.1 13 j (by unfold BEL; omega) (by omega), hi.1 14 j (by unfold BEL; omega) (by omega)]
    exact hx
  · unfold LRok at *
    rw [hi.1 15 j (by unfold BEL; omega) (by omega)]
    exact hx
section CRH
variable {sc : Nat × (Nat → Int32)} {D N : Nat} {bb : Bool} {Q : QP} {c : Nat} {C C' r : St} {k ar n M s dep : Int} {f P pl : Int → Int}
theorem CX_map {α β : Type} {x : PX α} {h : α → β} {k' res : Int} : CX P M (p_b x (fun a q => .inr (h a, q))) k' res ↔ CX P M x k' res := by
  rcases x with x | ⟨a, x⟩ <;> exact Iff.rfl
theorem n_40z : HBC sc N bb c r P M 5 pl (β := Unit) (fun _ p => .inl p) (fun _ _ _ _ _ => ([], [], [])) := by
  intro D C k ar Q h0 hk hp kk
  simp only [k40_0, k40_1, k40_2, k40_37, k40_38, true_implies, false_implies, not_true_eq_false, not_false_eq_true, true_and, and_true, implies_true, or_true, true_or, or_false, false_or, Int.reduceEq, Int.one_ne_zero, Nat.reduceEqDiff]
  refine ⟨fun h => absurd h (by decide), fun _ => ?_⟩
  exact kk _ _ _ _ ⟨h0, hk, rfl, rfl⟩ (fun A q h => by cases h)
theorem n_40 {β : Type} {g : Int → Int → PX (β × Int)} {G : β → Int → Int → Int → Int → SO} (hS : HSC sc N bb c r P M (dep + 1) pl g G) (hc : q_C c) (hT : TKS r f n P M) (hd : 0 ≤ dep ∧ dep < 5) : HBC sc N bb c r P M dep pl (p_bk f n g) G := by
  intro D C k ar Q h0 hk hp kk
  unfold p_bk at kk
  have hd5 : dep < 5 := hd.2
  simp only [k40_0, k40_1, k40_2, k40_5, k40_6, k40_8, hd5, true_implies, false_implies, not_true_eq_false, not_false_eq_true, true_and, and_true, implies_true, or_true, true_or, or_false, false_or, Int.reduceEq, Int.one_ne_zero, Nat.reduceEqDiff]
  refine n_51 hc hT h0 hk (by decide) (fun t1 k1 e1 => ?_) (fun t1 => ?_)
  · rw [if_pos t1, ← e1] at kk
    simp only [q_kn_v, k40_11, k40_14, k40_15, k40_16, k40_17, k40_18, true_implies, false_implies, not_true_eq_false, not_false_eq_true, true_and, and_true, implies_true, or_true, true_or, or_false, false_or, Int.reduceEq, Int.one_ne_zero, Nat.reduceEqDiff]
    refine ⟨by omega, ?_⟩
    refine hS D C (k + 1) ar _ (by omega) k1 hp (fun C1 k2 ar1 res x1 v1 => ?_)
    generalize g (C 0 0) (P (k + 1)) = Y at *
    rcases Y with y | ⟨A, y⟩
    · obtain ⟨b1, b2, rfl, b4⟩ := x1
      simp only [q_kn_v, k40_21, k40_37, k40_38, true_implies, false_implies, not_true_eq_false, not_false_eq_true, true_and, and_true, implies_true, or_true, true_or, or_false, false_or, Int.reduceEq, Int.one_ne_zero, Nat.reduceEqDiff]
      exact kk _ _ _ _ ⟨b1, b2, rfl, b4⟩ (fun A q h => by cases h)
    · obtain ⟨b1, b2, rfl, rfl⟩ := x1
      have v1 := v1 A _ rfl
      simp only [p_b_inr] at kk
      simp only [q_kn_v, k40_21, k40_24, k40_25, k40_27, true_implies, false_implies, not_true_eq_false, not_false_eq_true, true_and, and_true, implies_true, or_true, true_or, or_false, false_or, Int.reduceEq, Int.one_ne_zero, Nat.reduceEqDiff]
      refine n_51 hc hT b1 b2 (by decide) (fun t2 k3 e3 => ?_) (fun t2 => ?_)
      · have x2 : p_sg f n 125 (P k2) = .inr ((), P (k2 + 1)) := by unfold p_sg; rw [if_pos t2, e3]
        rw [x2] at kk
        simp only [p_b_inr] at kk
        simp only [q_kn_v, k40_30, k40_33, k40_34, k40_38, true_implies, false_implies, not_true_eq_false, not_false_eq_true, true_and, and_true, implies_true, or_true, true_or, or_false, false_or, Int.reduceEq, Int.one_ne_zero, Nat.reduceEqDiff]
        refine kk _ _ _ _ ⟨by omega, k3, rfl, rfl⟩ (fun A' q h => ?_)
        cases h
        exact v1
      · have x2 : p_sg f n 125 (P k2) = .inl (P k2) := by unfold p_sg; rw [if_neg t2]
        rw [x2] at kk
        simp only [q_kn_v, k40_30, k40_37, k40_38, true_implies, false_implies, not_true_eq_false, not_false_eq_true, true_and, and_true, implies_true, or_true, true_or, or_false, false_or, Int.reduceEq, Int.one_ne_zero, Nat.reduceEqDiff]
        exact kk _ _ _ _ ⟨b1, b2, rfl, rfl⟩ (fun A q h => by cases h)
  · rw [if_neg t1] at kk
    simp only [q_kn_v, k40_11, k40_37, k40_38, true_implies, false_implies, not_true_eq_false, not_false_eq_true, true_and, and_true, implies_true, or_true, true_or, or_false, false_or, Int.reduceEq, Int.one_ne_zero, Nat.reduceEqDiff]
    exact kk _ _ _ _ ⟨h0, hk, rfl, rfl⟩ (fun A q h => by cases h)
theorem K_test_g {t : TT} : K_test C s t 17 s = t.1 ∧ K_test C s t 19 s = t.2.1.1 ∧ K_test C s t 22 s = t.2.1.2 ∧ K_test C s t 20 s = t.2.2.1 ∧ K_test C s t 23 s = t.2.2.2 := by
  simp only [K_test, q_up_eq, q_up_ne, q_up_ne2, q_upf_ne, q_upf_eq, not_false_eq_true, Nat.reduceEqDiff, and_self]
theorem K_test_ne {t : TT} {j : Nat} {i : Int} (h : ¬ (17 ≤ j ∧ j ≤ 23)) : K_test C s t j i = C j i := by
  unfold K_test
  rw [q_up_ne _ _ _ _ (by omega), q_up_ne _ _ _ _ (by omega), q_up_ne _ _ _ _ (by omega), q_up_ne _ _ _ _ (by omega), q_up_ne _ _ _ _ (by omega)]
theorem IVC_test {C0 : St} {t : TT} (h : IVC C0 C) (hs : C0 0 0 ≤ s) : IVC C0 (K_test C s t) := by
  unfold K_test
  refine IVC_up (IVC_up (IVC_up (IVC_up (IVC_up h ?_ ?_) ?_ ?_) ?_ ?_) ?_ ?_) ?_ ?_ <;> first | decide | (unfold BEL; omega)
theorem n_41 {α β : Type} {cp : Bool → TT → β → β → α} {e0 : β} {blk : Int → Int → PX (β × Int)} {G : β → Int → Int → Int → Int → SO} (hB : HBC sc N bb c r P M dep pl blk G) (hG0 : ∀ ar s k l, G e0 ar s k l = ([], [], [])) (hc : q_C c) (hT : TKS r f n P M) (hf : t_by f n) (h0 : 0 ≤ k) (hk : k ≤ M) (ht : ¬ tk f n (P k) = -1) (hp : PC C pl) (h40 : C 0 0 < 40)
    (kk : ∀ C' k' ar' res, CX P M (p_if f n pl cp e0 blk (C 0 0) (P k)) k' res → (∀ y q, p_if f n pl cp e0 blk (C 0 0) (P k) = .inr (y, q) → (∃ c q A, blk c q = .inr A) ∧ ar' = ar ∧ (∃ t A B, y.1 = cp false t A B ∧ SOK C C' (s_if t (G A ar) (G B ar) ar (C 0 0) (C 0 1) (C 0 2))) ∧ C' 0 0 = y.2 ∧ PC C' pl ∧ C 0 0 + 1 ≤ C' 0 0) → Q (.inl (some (vi res))) bb (CS c C' r k' ar')) :
    qx sc (N + D + 4) 41 0 [vr 4, vi dep, vn] [] (0, 0) bb (CS c C r k ar) Q := by
  obtain ⟨k1, e1, -⟩ := TKS_lt hT h0 hk ht
  have hM := hT.2.1
  have hP := hp
  unfold PC at hP
  obtain ⟨p1, p2, p3, p4, p5, p6, p7⟩ := hP
  have hs : 0 ≤ C 0 0 ∧ C 0 0 < 40 := ⟨p1, h40⟩
  unfold p_if at kk
  rw [← e1] at kk
  simp only [k41_0, k41_1, k41_4, k41_5, k41_6, k41_9 hc, CS_at, CS_ar, CS_co, CS_6 hc, CS_7 hc, CS_8 hc, CSf hc, CSuf hc, CS_upat, CS_upar, c_nn, Int.toNat_natCast, c18_0, c18_1, c21_0, c21_1, qt_6, ql_6, qt_7, ql_7, qt_8, ql_8, qtc_18 hc, qlc_18 hc, qtc_21 hc, qlc_21 hc, CSg1 hc, CSu1 hc, qtc_1 hc, qlc_1 hc, CSg2 hc, CSu2 hc, qtc_2 hc, qlc_2 hc, CSg3 hc, CSu3 hc, qtc_3 hc, qlc_3 hc, CSg4 hc, CSu4 hc, qtc_4 hc, qlc_4 hc, CSg5 hc, CSu5 hc, qtc_5 hc, qlc_5 hc, CSg6 hc, CSu6 hc, qtc_6 hc, qlc_6 hc, CSg7 hc, CSu7 hc, qtc_7 hc, qlc_7 hc, CSg8 hc, CSu8 hc, qtc_8 hc, qlc_8 hc, CSg9 hc, CSu9 hc, qtc_9 hc, qlc_9 hc, CSg10 hc, CSu10 hc, qtc_10 hc, qlc_10 hc, CSg11 hc, CSu11 hc, qtc_11 hc, qlc_11 hc, CSg12 hc, CSu12 hc, qtc_12 hc, qlc_12 hc, CSg13 hc, CSu13 hc, qtc_13 hc, qlc_13 hc, CSg14 hc, CSu14 hc, qtc_14 hc, qlc_14 hc, CSg15 hc, CSu15 hc, qtc_15 hc, qlc_15 hc, CSg17 hc, CSu17 hc, qtc_17 hc, qlc_17 hc, CSg19 hc, CSu19 hc, qtc_19 hc, qlc_19 hc, CSg20 hc, CSu20 hc, qtc_20 hc, qlc_20 hc, CSg22 hc, CSu22 hc, qtc_22 hc, qlc_22 hc, CSg23 hc, CSu23 hc, qtc_23 hc, qlc_23 hc, c12 hc hs, q_kn_v, k41_12, k41_13, k41_14, k41_15, k41_18, k41_19, k41_20, k41_23, k41_24, k41_25, true_implies, false_implies, not_true_eq_false, not_false_eq_true, true_and, and_true, implies_true, or_true, true_or, or_false, false_or, Int.reduceEq, Int.one_ne_zero, Nat.reduceEqDiff]
  refine ⟨by omega, ?_⟩
  have b00 : K_beg C 3 ar 0 0 = C 0 0 + 1 := by rw [K_beg_0, if_pos rfl]
  have b01 : K_beg C 3 ar 0 1 = C 0 1 := by rw [K_beg_0, if_neg (by decide)]
  have b02 : K_beg C 3 ar 0 2 = C 0 2 := by rw [K_beg_0, if_neg (by decide)]
  refine n_54 (pl := pl) hc hT hf (fun i hi => by rw [K_beg_ne (Or.inl rfl)]; exact p7 i hi) (by omega) k1 hs (fun C2 k2 res x2 v2 => ?_)
  generalize p_te f n pl (P (k + 1)) = Y at *
  rcases Y with y | ⟨t, y⟩
  · obtain ⟨b1, b2, rfl, b4⟩ := x2
    simp only [q_kn_v, k41_28, k41_39, k41_40, true_implies, false_implies, not_true_eq_false, not_false_eq_true, true_and, and_true, implies_true, or_true, true_or, or_false, false_or, Int.reduceEq, Int.one_ne_zero, Nat.reduceEqDiff]
    exact kk _ _ _ _ ⟨b1, b2, rfl, b4⟩ (fun A q h => by cases h)
  obtain ⟨a1, a2, rfl, rfl⟩ := x2
  obtain ⟨v2, ok1, ok2, ok3⟩ := v2 t _ rfl
  simp only [p_b_inr] at kk
  have i2 : IVC C C2 := by rw [v2]; exact IVC_test IVC_beg (Int.le_refl _)
  have d00 : C2 0 0 = C 0 0 + 1 := by rw [v2, K_test_ne (by omega), b00]
  have d01 : C2 0 1 = C 0 1 := by rw [v2, K_test_ne (by omega), b01]
  have d02 : C2 0 2 = C 0 2 := by rw [v2, K_test_ne (by omega), b02]
  have hp2 : PC C2 pl := by
    unfold PC
    refine ⟨by omega, by omega, by omega, by omega, by omega, by omega, fun i hi => ?_⟩
    rw [i2.1 1 i (Or.inl rfl)]
    exact p7 i hi
  simp only [q_kn_v, k41_28, k41_31, k41_32, k41_33, true_implies, false_implies, not_true_eq_false, not_false_eq_true, true_and, and_true, implies_true, or_true, true_or, or_false, false_or, Int.reduceEq, Int.one_ne_zero, Nat.reduceEqDiff]
  refine hB D C2 k2 ar _ a1 a2 hp2 (fun C3 k3 ar3 res x3 v3 => ?_)
  rw [d00] at x3 v3
  generalize hYb : blk (C 0 0 + 1) (P k2) = Y at *
  rcases Y with y | ⟨A, y⟩
  · obtain ⟨b1, b2, rfl, b4⟩ := x3
    simp only [q_kn_v, k41_36, k41_39, k41_40, true_implies, false_implies, not_true_eq_false, not_false_eq_true, true_and, and_true, implies_true, or_true, true_or, or_false, false_or, Int.reduceEq, Int.one_ne_zero, Nat.reduceEqDiff]
    exact kk _ _ _ _ ⟨b1, b2, rfl, b4⟩ (fun A q h => by cases h)
  obtain ⟨f1, f2, rfl, rfl⟩ := x3
  obtain ⟨rfl, s3, c3, hp3⟩ := v3 A _ rfl
  simp only [p_b_inr] at kk
  rw [d01, d02] at s3
  have hP3 := hp3
  unfold PC at hP3
  obtain ⟨q1, q2, q3, q4, q5, q6, q7⟩ := hP3
  have i3 := s3.2.2.2.2.2.2
  simp only [q_kn_v, k41_36, k41_39, k41_40, k41_41, k41_42, k41_45 hc, k41_48, k41_49, k41_50, k41_53 hc, k41_56, k41_57, k41_58, k41_61, CS_at, CS_ar, CS_co, CS_6 hc, CS_7 hc, CS_8 hc, CSf hc, CSuf hc, CS_upat, CS_upar, c_nn, Int.toNat_natCast, c18_0, c18_1, c21_0, c21_1, qt_6, ql_6, qt_7, ql_7, qt_8, ql_8, qtc_18 hc, qlc_18 hc, qtc_21 hc, qlc_21 hc, CSg1 hc, CSu1 hc, qtc_1 hc, qlc_1 hc, CSg2 hc, CSu2 hc, qtc_2 hc, qlc_2 hc, CSg3 hc, CSu3 hc, qtc_3 hc, qlc_3 hc, CSg4 hc, CSu4 hc, qtc_4 hc, qlc_4 hc, CSg5 hc, CSu5 hc, qtc_5 hc, qlc_5 hc, CSg6 hc, CSu6 hc, qtc_6 hc, qlc_6 hc, CSg7 hc, CSu7 hc, qtc_7 hc, qlc_7 hc, CSg8 hc, CSu8 hc, qtc_8 hc, qlc_8 hc, CSg9 hc, CSu9 hc, qtc_9 hc, qlc_9 hc, CSg10 hc, CSu10 hc, qtc_10 hc, qlc_10 hc, CSg11 hc, CSu11 hc, qtc_11 hc, qlc_11 hc, CSg12 hc, CSu12 hc, qtc_12 hc, qlc_12 hc, CSg13 hc, CSu13 hc, qtc_13 hc, qlc_13 hc, CSg14 hc, CSu14 hc, qtc_14 hc, qlc_14 hc, CSg15 hc, CSu15 hc, qtc_15 hc, qlc_15 hc, CSg17 hc, CSu17 hc, qtc_17 hc, qlc_17 hc, CSg19 hc, CSu19 hc, qtc_19 hc, qlc_19 hc, CSg20 hc, CSu20 hc, qtc_20 hc, qlc_20 hc, CSg22 hc, CSu22 hc, qtc_22 hc, qlc_22 hc, CSg23 hc, CSu23 hc, qtc_23 hc, qlc_23 hc, true_implies, false_implies, not_true_eq_false, not_false_eq_true, true_and, and_true, implies_true, or_true, true_or, or_false, false_or, Int.reduceEq, Int.one_ne_zero, Nat.reduceEqDiff]
  refine ⟨hs, ?_⟩
  -- the end: C5 is what there is behind the blocks
  have fin : ∀ (C5 : St) (k5 : Int) (B : β), 0 ≤ k5 → k5 ≤ M → SOK (q_up C3 10 (C 0 0) (C3 0 0)) C5 (G B ar3 (C3 0 0) (C3 0 1) (C3 0 2)) → PC C5 pl →
      (∀ C', SOK C C' (s_if t (G A.1 ar3) (G B ar3) ar3 (C 0 0) (C 0 1) (C 0 2)) → C' 0 0 = C5 0 0 → PC C' pl → Q (.inl (some (vi 1))) bb (CS c C' r k5 ar3)) →
      qx sc (N + D + 4) 41 77 [vr 4, vi dep, vi (C 0 0)] [] (0, 0) bb (CS c C5 r k5 ar3) Q := by
    intro C5 k5 B j0 j1 s5 hp5 kq
    simp only [k41_77, k41_78, k41_81 hc, k41_84, k41_85, k41_86, k41_89 hc, k41_92, k41_93, k41_94, CS_at, CS_ar, CS_co, CS_6 hc, CS_7 hc, CS_8 hc, CSf hc, CSuf hc, CS_upat, CS_upar, c_nn, Int.toNat_natCast, c18_0, c18_1, c21_0, c21_1, qt_6, ql_6, qt_7, ql_7, qt_8, ql_8, qtc_18 hc, qlc_18 hc, qtc_21 hc, qlc_21 hc, CSg1 hc, CSu1 hc, qtc_1 hc, qlc_1 hc, CSg2 hc, CSu2 hc, qtc_2 hc, qlc_2 hc, CSg3 hc, CSu3 hc, qtc_3 hc, qlc_3 hc, CSg4 hc, CSu4 hc, qtc_4 hc, qlc_4 hc, CSg5 hc, CSu5 hc, qtc_5 hc, qlc_5 hc, CSg6 hc, CSu6 hc, qtc_6 hc, qlc_6 hc, CSg7 hc, CSu7 hc, qtc_7 hc, qlc_7 hc, CSg8 hc, CSu8 hc, qtc_8 hc, qlc_8 hc, CSg9 hc, CSu9 hc, qtc_9 hc, qlc_9 hc, CSg10 hc, CSu10 hc, qtc_10 hc, qlc_10 hc, CSg11 hc, CSu11 hc, qtc_11 hc, qlc_11 hc, CSg12 hc, CSu12 hc, qtc_12 hc, qlc_12 hc, CSg13 hc, CSu13 hc, qtc_13 hc, qlc_13 hc, CSg14 hc, CSu14 hc, qtc_14 hc, qlc_14 hc, CSg15 hc, CSu15 hc, qtc_15 hc, qlc_15 hc, CSg17 hc, CSu17 hc, qtc_17 hc, qlc_17 hc, CSg19 hc, CSu19 hc, qtc_19 hc, qlc_19 hc, CSg20 hc, CSu20 hc, qtc_20 hc, qlc_20 hc, CSg22 hc, CSu22 hc, qtc_22 hc, qlc_22 hc, CSg23 hc, CSu23 hc, qtc_23 hc, qlc_23 hc, true_implies, false_implies, not_true_eq_false, not_false_eq_true, true_and, and_true, implies_true, or_true, true_or, or_false, false_or, Int.reduceEq, Int.one_ne_zero, Nat.reduceEqDiff]
    refine ⟨hs, ?_⟩
    have m00 : q_up C3 10 (C 0 0) (C3 0 0) 0 0 = C3 0 0 := q_up_ne _ _ _ _ (by decide)
    have m01 : q_up C3 10 (C 0 0) (C3 0 0) 0 1 = C3 0 1 := q_up_ne _ _ _ _ (by decide)
    have m02 : q_up C3 10 (C 0 0) (C3 0 0) 0 2 = C3 0 2 := q_up_ne _ _ _ _ (by decide)
    obtain ⟨z1, z2, z3, z4⟩ := s5.2.2.2.2.2.2
    rw [m00] at z2
    rw [m01] at z3
    rw [m02] at z4
    have w5 : ∀ j i, BEL C3 j i → ¬ (j = 10 ∧ i = C 0 0) → ¬ (j = 11 ∧ i = C 0 0) → q_up C5 11 (C 0 0) (C5 0 0) j i = C3 j i := by
      intro j i hb n1 n2
      rw [q_up_app, if_neg n2, z1 j i (by unfold BEL at hb ⊢; rw [m00, m01, m02]; exact hb), q_up_app, if_neg n1]
    have u0 : ∀ i, q_up C5 11 (C 0 0) (C5 0 0) 0 i = C5 0 i := fun i => q_up_ne _ _ _ _ (by decide)
    have hx : IVX (C 0 0) C3 (q_up C5 11 (C 0 0) (C5 0 0)) := by
      refine ⟨fun j i hb hn => w5 j i hb (by omega) (by omega), ?_, ?_, ?_⟩
      · rw [u0]; exact z2
      · rw [u0]; exact z3
      · rw [u0]; exact z4
    have hx5 : IVX (C 0 0) C5 (q_up C5 11 (C 0 0) (C5 0 0)) := by
      refine ⟨fun j i hb hn => ?_, ?_, ?_, ?_⟩
      · rw [q_up_app, if_neg (by omega)]
      · rw [u0]; exact Int.le_refl _
      · rw [u0]; exact Int.le_refl _
      · rw [u0]; exact Int.le_refl _
    obtain ⟨ta1, ta2, ta3⟩ := SOKX_mono s3 hx (by omega) (by omega)
    obtain ⟨tb1, tb2, tb3⟩ := SOKX_mono s5 hx5 (by rw [m00]; omega) (by rw [m00]; have := i3.2.1; omega)
    obtain ⟨-, -, -, l1, l2, l3, -⟩ := s3
    obtain ⟨-, -, -, l4, l5, l6, -⟩ := s5
    rw [d00] at ta1 l1
    rw [d01] at ta2 l2
    rw [d02] at ta3 l3
    rw [m00] at tb1 l4
    rw [m01] at tb2 l5
    rw [m02] at tb3 l6
    rw [l1, l2, l3] at tb1 tb2 tb3 l4 l5 l6
    -- the statement's own row
    have hd : ∀ j, 2 ≤ j → ¬ j = 10 → ¬ j = 11 → ¬ (12 ≤ j ∧ j ≤ 15) → q_up C5 11 (C 0 0) (C5 0 0) j (C 0 0) = C2 j (C 0 0) := by
      intro j n0 n1 n2 n3
      rw [w5 j _ (by unfold BEL; omega) (by omega) (by omega)]
      exact i3.1 j _ (by unfold BEL; omega)
    have h10 : q_up C5 11 (C 0 0) (C5 0 0) 10 (C 0 0) = C3 0 0 := by
      rw [q_up_ne _ _ _ _ (by decide), z1 10 _ (by unfold BEL; rw [m00]; omega), q_up_eq]
    have h11 : q_up C5 11 (C 0 0) (C5 0 0) 11 (C 0 0) = C5 0 0 := q_up_eq _ _ _ _
    obtain ⟨g17, g19, g22, g20, g23⟩ := K_test_g (C := K_beg C 3 ar3) (s := C 0 0) (t := t)
    have iF : IVC C (q_up C5 11 (C 0 0) (C5 0 0)) := by
      refine IVC_up (IVC_trans (IVC_up (IVC_trans i2 i3) (by decide) (by unfold BEL; omega)) ⟨z1, by rw [m00]; exact z2, by rw [m01]; exact z3, by rw [m02]; exact z4⟩) (by decide) (by unfold BEL; omega)
    refine kq _ ?_ (u0 0) ?_
    · unfold SOK s_if
      dsimp only
      refine ⟨⟨?_, (TAB_app _ _ _).mpr ⟨ta1, tb1⟩⟩, (TAB_app _ _ _).mpr ⟨ta2, tb2⟩, (TAB_app _ _ _).mpr ⟨ta3, tb3⟩, ?_, ?_, ?_, iF⟩
      · unfold SRok
        dsimp only
        rw [hd 2 (by decide) (by decide) (by decide) (by omega), hd 3 (by decide) (by decide) (by decide) (by omega), hd 4 (by decide) (by decide) (by decide) (by omega), hd 5 (by decide) (by decide) (by decide) (by omega), hd 6 (by decide) (by decide) (by decide) (by omega), hd 7 (by decide) (by decide) (by decide) (by omega), hd 8 (by decide) (by decide) (by decide) (by omega), hd 9 (by decide) (by decide) (by decide) (by omega), hd 17 (by decide) (by decide) (by decide) (by omega), hd 19 (by decide) (by decide) (by decide) (by omega), hd 22 (by decide) (by decide) (by decide) (by omega), hd 20 (by decide) (by decide) (by decide) (by omega), hd 23 (by decide) (by decide) (by decide) (by omega), h10, h11, v2, g17, g19, g22, g20, g23]
        rw [K_test_ne (by omega), K_test_ne (by omega), K_test_ne (by omega), K_test_ne (by omega), K_test_ne (by omega), K_test_ne (by omega), K_test_ne (by omega), K_test_ne (by omega)]
        simp only [K_beg_0, K_beg_ne, K_beg_2, K_beg_3, K_beg_4, K_beg_5, K_beg_6, K_beg_7, K_beg_8, K_beg_9, K_beg_10, K_beg_11, if_true, true_and]
        exact ⟨l1, l4, fun _ => trivial⟩
      · rw [u0, l4, List.length_cons, List.length_append]; omega
      · rw [u0, l5, List.length_append]; omega
      · rw [u0, l6, List.length_append]; omega
    · unfold PC at hp5 ⊢
      rw [u0, u0, u0]
      refine ⟨hp5.1, hp5.2.1, hp5.2.2.1, hp5.2.2.2.1, hp5.2.2.2.2.1, hp5.2.2.2.2.2.1, fun i hi => ?_⟩
      rw [q_up_ne _ _ _ _ (by decide)]
      exact hp5.2.2.2.2.2.2 i hi
  have hp4 : PC (q_up C3 10 (C 0 0) (C3 0 0)) pl := by
    unfold PC
    simp only [q_up_eq, q_up_ne, q_up_ne2, q_upf_ne, q_upf_eq, not_false_eq_true, Nat.reduceEqDiff]
    exact ⟨q1, q2, q3, q4, q5, q6, q7⟩
  have hle : C 0 0 + 1 ≤ C3 0 0 := by have := i3.2.1; omega
  refine n_51 hc hT f1 f2 (by decide) (fun t4 k4 e4 => ?_) (fun t4 => ?_)
  · rw [if_pos t4, ← e4, ← c3] at kk
    simp only [q_kn_v, k41_64, k41_67, k41_68, k41_69, true_implies, false_implies, not_true_eq_false, not_false_eq_true, true_and, and_true, implies_true, or_true, true_or, or_false, false_or, Int.reduceEq, Int.one_ne_zero, Nat.reduceEqDiff]
    refine hB D _ (k3 + 1) ar3 _ (by omega) k4 hp4 (fun C5 k5 ar5 res x5 v5 => ?_)
    simp only [q_up_ne _ _ _ _ (show ¬ 0 = 10 by decide)] at x5 v5
    generalize blk (C3 0 0) (P (k3 + 1)) = Y at *
    rcases Y with y | ⟨B, y⟩
    · obtain ⟨b1, b2, rfl, b4⟩ := x5
      simp only [q_kn_v, k41_72, k41_75, k41_76, true_implies, false_implies, not_true_eq_false, not_false_eq_true, true_and, and_true, implies_true, or_true, true_or, or_false, false_or, Int.reduceEq, Int.one_ne_zero, Nat.reduceEqDiff]
      exact kk _ _ _ _ ⟨b1, b2, rfl, b4⟩ (fun A q h => by cases h)
    · obtain ⟨g1, g2, rfl, rfl⟩ := x5
      obtain ⟨rfl, s5, c5, hp5⟩ := v5 B _ rfl
      simp only [p_b_inr] at kk
      simp only [q_kn_v, k41_72, true_implies, false_implies, not_true_eq_false, not_false_eq_true, true_and, and_true, implies_true, or_true, true_or, or_false, false_or, Int.reduceEq, Int.one_ne_zero, Nat.reduceEqDiff]
      refine fin C5 k5 B.1 g1 g2 s5 hp5 (fun C' h1 h2 h3 => ?_)
      refine kk _ _ _ _ ⟨g1, g2, rfl, rfl⟩ (fun y q h => ?_)
      cases h
      have hle5 : C3 0 0 ≤ C5 0 0 := by
        have := s5.2.2.2.2.2.2.2.1
        rw [q_up_ne _ _ _ _ (by decide)] at this
        exact this
      exact ⟨⟨_, _, _, hYb⟩, rfl, ⟨t, A.1, B.1, rfl, h1⟩, by rw [h2]; exact c5, h3, by omega⟩
  · rw [if_neg t4] at kk
    simp only [q_kn_v, k41_64, true_implies, false_implies, not_true_eq_false, not_false_eq_true, true_and, and_true, implies_true, or_true, true_or, or_false, false_or, Int.reduceEq, Int.one_ne_zero, Nat.reduceEqDiff]
    have s0 : SOK (q_up C3 10 (C 0 0) (C3 0 0)) (q_up C3 10 (C 0 0) (C3 0 0)) (G e0 ar3 (C3 0 0) (C3 0 1) (C3 0 2)) := by
      rw [hG0]
      exact ⟨trivial, trivial, trivial, by simp, by simp, by simp, IVC_refl⟩
    refine fin _ k3 e0 f1 f2 s0 hp4 (fun C' h1 h2 h3 => ?_)
    refine kk _ _ _ _ ⟨f1, f2, rfl, rfl⟩ (fun y q h => ?_)
    cases h
    rw [q_up_ne _ _ _ _ (by decide)] at h2
    exact ⟨⟨_, _, _, hYb⟩, rfl, ⟨t, A.1, e0, rfl, h1⟩, by rw [h2]; exact c3, h3, by omega⟩
end CRH
