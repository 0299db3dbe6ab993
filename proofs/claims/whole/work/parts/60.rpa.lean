/-! the reference's answers -/
def RIX (a : Nat) (i : Int) : Prop := (a = 136 ∧ ((13 ≤ i ∧ i ≤ 18) ∨ i = 54 ∨ i = 2 ∨ i = 7 ∨ i = 52)) ∨ a = 137 ∨ a = 140 ∨ (141 ≤ a ∧ a ≤ 170) ∨ (173 ≤ a ∧ a ≤ 179) ∨ a = 181 ∨ a = 182
section RPA
variable {sc : Nat × (Nat → Int32)} {D : Nat} {bb : Bool} {Q : QP} {σ σ' : St} {m : Int} {L : List (ST 5)} {pl f inp len : Int → Int} {n ft a b x y k w v l s ab lo hi e : Int} {O : OC}
theorem RI_of (h : RI σ L pl n f ft inp len) (he : ∀ a i, RIX a i → σ' a i = σ a i) : RI σ' L pl n f ft inp len := by
  obtain ⟨h1, ⟨k1, k2, k3, k4, k5⟩, h3, h4, h5, h6⟩ := h
  have e137 : σ' 137 = σ 137 := funext (fun i => he 137 i (by unfold RIX; omega))
  have e140 : σ' 140 = σ 140 := funext (fun i => he 140 i (by unfold RIX; omega))
  refine ⟨h1, ⟨RK_of k1 (fun a i ha => he a i (by unfold RIX; omega)), BALL_of k2 (fun i => he 173 i (by unfold RIX; omega)), fun w hw => ?_, fun j j0 j1 => ?_, ?_⟩, ?_, ?_, ?_, fun d d0 d1 => ?_⟩
  · rw [he 174 w (by unfold RIX; omega), he 175 w (by unfold RIX; omega)]; exact k3 w hw
  · rw [he 178 j (by unfold RIX; omega), he 179 j (by unfold RIX; omega), he 176 j (by unfold RIX; omega), he 177 j (by unfold RIX; omega)]; exact k4 j j0 j1
  · rw [he 136 54 (by unfold RIX; omega)]; exact k5
  · rw [he 136 2 (by unfold RIX; omega), e137]; exact h3
  · rw [he 136 7 (by unfold RIX; omega), e140]; exact h4
  · rw [he 136 52 (by unfold RIX; omega)]; exact h5
  · rw [he 182 d (by unfold RIX; omega), he 181 d (by unfold RIX; omega)]; exact h6 d d0 d1
theorem RPO_q (hI : RI σ L pl n f ft inp len) (kk : RPO Q bb σ O L pl n f ft inp len) (he : ∀ a i, ¬ (a = 136 ∧ i = 0) → σ' a i = σ a i) (h0 : σ' 136 0 = oct O) : Q (.inl (some (vi (ocx O)))) bb σ' :=
  kk σ' (RI_of hI (fun a i ha => he a i (by unfold RIX at ha; omega))) h0 (fun a i ha => he a i (by omega))
theorem u0_ne {x : Int} (a : Nat) (i : Int) (h : ¬ (a = 136 ∧ i = 0)) : q_up σ 136 0 x a i = σ a i := by rw [q_up_app, if_neg h]
theorem u00_ne {x y : Int} (a : Nat) (i : Int) (h : ¬ (a = 136 ∧ i = 0)) : q_up (q_up σ 136 0 x) 136 0 y a i = σ a i := by rw [q_up_app, if_neg h, q_up_app, if_neg h]
theorem e157_y (h : lo ≤ x ∧ x ≤ hi) : qx sc D 157 0 [vi x, vi lo, vi hi] [] (0, 0) bb σ Q ↔ Q (.inl (some (vi 1))) bb σ := by
  have n1 : ¬ x < lo := by omega
  have n2 : ¬ hi < x := by omega
  simp only [k157_0, k157_1, k157_2, k157_5, k157_6, k157_7, k157_10, k157_11, k157_14, k157_15, n1, n2, true_implies, false_implies, not_true_eq_false, not_false_eq_true, true_and, and_true, implies_true, or_true, true_or, or_false, false_or, Int.reduceEq, Int.one_ne_zero, Nat.reduceEqDiff]
theorem e157_n (h : ¬ (lo ≤ x ∧ x ≤ hi)) : qx sc D 157 0 [vi x, vi lo, vi hi] [] (0, 0) bb σ Q ↔ Q (.inl (some (vi 0))) bb σ := by
  by_cases n1 : x < lo
  · simp only [k157_0, k157_1, k157_2, k157_5, k157_6, k157_7, k157_10, k157_11, k157_14, k157_15, n1, true_implies, false_implies, not_true_eq_false, not_false_eq_true, true_and, and_true, implies_true, or_true, true_or, or_false, false_or, Int.reduceEq, Int.one_ne_zero, Nat.reduceEqDiff]
  · have n2 : hi < x := by omega
    simp only [k157_0, k157_1, k157_2, k157_5, k157_6, k157_7, k157_10, k157_11, k157_14, k157_15, n1, n2, true_implies, false_implies, not_true_eq_false, not_false_eq_true, true_and, and_true, implies_true, or_true, true_or, or_false, false_or, Int.reduceEq, Int.one_ne_zero, Nat.reduceEqDiff]
theorem e224_0 : qx sc D 224 0 [vr 136, vi 0, vi e] [] (0, 0) bb σ Q ↔ Q (.inl (some (vi 0))) bb σ := by
  simp only [k224_0, k224_1, k224_4, k224_5, k224_6, k224_9, k224_10, true_implies, false_implies, not_true_eq_false, not_false_eq_true, true_and, and_true, implies_true, or_true, true_or, or_false, false_or, Int.reduceEq, Int.one_ne_zero, Nat.reduceEqDiff]
theorem e224_1 : qx sc D 224 0 [vr 136, vi 1, vi e] [] (0, 0) bb σ Q ↔ Q (.inl (some (vi 1))) bb (q_up σ 136 0 e) := by
  simp only [k224_0, k224_1, k224_4, k224_5, k224_6, k224_9, k224_10, true_implies, false_implies, not_true_eq_false, not_false_eq_true, true_and, and_true, implies_true, or_true, true_or, or_false, false_or, Int.reduceEq, Int.one_ne_zero, Nat.reduceEqDiff]
/-- noHow -/
theorem e185_y (h : 0 ≤ x ∧ x < 3) : qx sc (D + 1) 185 0 [vr 136, vi x] [] (0, 0) bb σ Q ↔ Q (.inl (some (vi 0))) bb σ := by
  have h' : 0 ≤ x ∧ x ≤ 2 := by omega
  simp only [k185_0, k185_1, k185_2, k185_3, k185_4, k185_7, k185_10, k185_11, k185_14, k185_15, k185_16, k185_19, e157_y h', q_kn_v, e224_0, true_implies, false_implies, not_true_eq_false, not_false_eq_true, true_and, and_true, implies_true, or_true, true_or, or_false, false_or, Int.reduceEq, Int.one_ne_zero, Nat.reduceEqDiff]
theorem e185_n (h : ¬ (0 ≤ x ∧ x < 3)) : qx sc (D + 1) 185 0 [vr 136, vi x] [] (0, 0) bb σ Q ↔ Q (.inl (some (vi 1))) bb (q_up σ 136 0 1) := by
  have h' : ¬ (0 ≤ x ∧ x ≤ 2) := by omega
  simp only [k185_0, k185_1, k185_2, k185_3, k185_4, k185_7, k185_10, k185_11, k185_14, k185_15, k185_16, k185_19, e157_n h', q_kn_v, e224_1, true_implies, false_implies, not_true_eq_false, not_false_eq_true, true_and, and_true, implies_true, or_true, true_or, or_false, false_or, Int.reduceEq, Int.one_ne_zero, Nat.reduceEqDiff]
/-- noRow -/
theorem e186_y (h : 0 ≤ x ∧ x < 3) : qx sc (D + 1) 186 0 [vr 136, vi x] [] (0, 0) bb σ Q ↔ Q (.inl (some (vi 0))) bb σ := by
  have h' : 0 ≤ x ∧ x ≤ 2 := by omega
  simp only [k186_0, k186_1, k186_2, k186_3, k186_4, k186_7, k186_10, k186_11, k186_14, k186_15, k186_16, k186_19, e157_y h', q_kn_v, e224_0, true_implies, false_implies, not_true_eq_false, not_false_eq_true, true_and, and_true, implies_true, or_true, true_or, or_false, false_or, Int.reduceEq, Int.one_ne_zero, Nat.reduceEqDiff]
theorem e186_n (h : ¬ (0 ≤ x ∧ x < 3)) : qx sc (D + 1) 186 0 [vr 136, vi x] [] (0, 0) bb σ Q ↔ Q (.inl (some (vi 1))) bb (q_up σ 136 0 1) := by
  have h' : ¬ (0 ≤ x ∧ x ≤ 2) := by omega
  simp only [k186_0, k186_1, k186_2, k186_3, k186_4, k186_7, k186_10, k186_11, k186_14, k186_15, k186_16, k186_19, e157_n h', q_kn_v, e224_1, true_implies, false_implies, not_true_eq_false, not_false_eq_true, true_and, and_true, implies_true, or_true, true_or, or_false, false_or, Int.reduceEq, Int.one_ne_zero, Nat.reduceEqDiff]
/-- noCheck -/
theorem e184_y {M : Nat} (hM : σ 136 16 = M) (hM2 : M ≤ 1000) (h : 0 ≤ x ∧ x < M) : qx sc (D + 1) 184 0 [vr 136, vi x] [] (0, 0) bb σ Q ↔ Q (.inl (some (vi 0))) bb σ := by
  have h' : 0 ≤ x ∧ x ≤ (M : Int) - 1 := by omega
  have R : q_R ((M : Int) - 1) = True := eq_true (by unfold q_R; omega)
  simp only [k184_0, k184_1, k184_2, k184_3, k184_4, k184_7, k184_8, k184_9, k184_12, k184_15, k184_16, k184_19, k184_20, k184_21, k184_24, hM, R, e157_y h', q_kn_v, e224_0, true_implies, false_implies, not_true_eq_false, not_false_eq_true, true_and, and_true, implies_true, or_true, true_or, or_false, false_or, Int.reduceEq, Int.one_ne_zero, Nat.reduceEqDiff]
theorem e184_n {M : Nat} (hM : σ 136 16 = M) (hM2 : M ≤ 1000) (h : ¬ (0 ≤ x ∧ x < M)) : qx sc (D + 1) 184 0 [vr 136, vi x] [] (0, 0) bb σ Q ↔ Q (.inl (some (vi 1))) bb (q_up σ 136 0 1) := by
  have h' : ¬ (0 ≤ x ∧ x ≤ (M : Int) - 1) := by omega
  have R : q_R ((M : Int) - 1) = True := eq_true (by unfold q_R; omega)
  simp only [k184_0, k184_1, k184_2, k184_3, k184_4, k184_7, k184_8, k184_9, k184_12, k184_15, k184_16, k184_19, k184_20, k184_21, k184_24, hM, R, e157_n h', q_kn_v, e224_1, true_implies, false_implies, not_true_eq_false, not_false_eq_true, true_and, and_true, implies_true, or_true, true_or, or_false, false_or, Int.reduceEq, Int.one_ne_zero, Nat.reduceEqDiff]
/-- noVersion -/
theorem e187_y {M : Nat} (hM : σ 136 15 = M) (hM2 : M ≤ 1000) (h : 0 ≤ x ∧ x < M) : qx sc (D + 1) 187 0 [vr 136, vi x] [] (0, 0) bb σ Q ↔ Q (.inl (some (vi 0))) bb σ := by
  have h' : 0 ≤ x ∧ x ≤ (M : Int) - 1 := by omega
  have R : q_R ((M : Int) - 1) = True := eq_true (by unfold q_R; omega)
  simp only [k187_0, k187_1, k187_2, k187_3, k187_4, k187_7, k187_8, k187_9, k187_12, k187_15, k187_16, k187_19, k187_20, k187_21, k187_24, hM, R, e157_y h', q_kn_v, e224_0, true_implies, false_implies, not_true_eq_false, not_false_eq_true, true_and, and_true, implies_true, or_true, true_or, or_false, false_or, Int.reduceEq, Int.one_ne_zero, Nat.reduceEqDiff]
theorem e187_n {M : Nat} (hM : σ 136 15 = M) (hM2 : M ≤ 1000) (h : ¬ (0 ≤ x ∧ x < M)) : qx sc (D + 1) 187 0 [vr 136, vi x] [] (0, 0) bb σ Q ↔ Q (.inl (some (vi 1))) bb (q_up σ 136 0 1) := by
  have h' : ¬ (0 ≤ x ∧ x ≤ (M : Int) - 1) := by omega
  have R : q_R ((M : Int) - 1) = True := eq_true (by unfold q_R; omega)
  simp only [k187_0, k187_1, k187_2, k187_3, k187_4, k187_7, k187_8, k187_9, k187_12, k187_15, k187_16, k187_19, k187_20, k187_21, k187_24, hM, R, e157_n h', q_kn_v, e224_1, true_implies, false_implies, not_true_eq_false, not_false_eq_true, true_and, and_true, implies_true, or_true, true_or, or_false, false_or, Int.reduceEq, Int.one_ne_zero, Nat.reduceEqDiff]
/-- told -/
theorem e225 {o : Option Int} (h3 : ∀ z, o = some z → -200000 ≤ z ∧ z ≤ 90000) (kk : Q (.inl (some (vi (if b = 3 then ngC (enC o) else enC o)))) bb σ) : qx sc D 225 0 [vi (enR b o)] [] (0, 0) bb σ Q := by
  unfold enR
  cases o with
  | none =>
    have e1 : ngC (enC none) = 99999 := rfl
    have e2 : enC none = 99999 := rfl
    rw [e1, e2] at kk
    by_cases hb : b = 3
    · rw [if_pos hb] at kk
      simp only [k225_0, k225_1, k225_4, k225_7, k225_8, k225_11, k225_14, k225_17, k225_20, k225_21, if_pos hb, true_implies, false_implies, not_true_eq_false, not_false_eq_true, true_and, and_true, implies_true, or_true, true_or, or_false, false_or, Int.reduceEq, Int.one_ne_zero, Nat.reduceEqDiff]
      exact kk
    · rw [if_neg hb] at kk
      simp only [k225_0, k225_1, k225_4, k225_7, k225_8, k225_11, k225_14, k225_17, k225_20, k225_21, if_neg hb, true_implies, false_implies, not_true_eq_false, not_false_eq_true, true_and, and_true, implies_true, or_true, true_or, or_false, false_or, Int.reduceEq, Int.one_ne_zero, Nat.reduceEqDiff]
      exact kk
  | some z =>
    have hz := h3 z rfl
    have e2 : enC (some z) = z := rfl
    rw [e2] at kk
    unfold ngC at kk
    by_cases hb : b = 3
    · rw [if_pos hb, if_neg (by omega)] at kk
      simp only [if_pos hb]
      have n1 : ¬ -z = 268435456 := by omega
      have n2 : ¬ -z = -268435456 := by omega
      simp only [k225_0, k225_1, k225_4, k225_7, k225_8, k225_11, k225_14, k225_17, k225_20, k225_21, n1, n2, true_implies, false_implies, not_true_eq_false, not_false_eq_true, true_and, and_true, implies_true, or_true, true_or, or_false, false_or, Int.reduceEq, Int.one_ne_zero, Nat.reduceEqDiff]
      exact kk
    · rw [if_neg hb] at kk
      simp only [if_neg hb]
      have n1 : ¬ z = 268435456 := by omega
      have n2 : ¬ z = -268435456 := by omega
      simp only [k225_0, k225_1, k225_4, k225_7, k225_8, k225_11, k225_14, k225_17, k225_20, k225_21, n1, n2, true_implies, false_implies, not_true_eq_false, not_false_eq_true, true_and, and_true, implies_true, or_true, true_or, or_false, false_or, Int.reduceEq, Int.one_ne_zero, Nat.reduceEqDiff]
      exact kk
theorem e223 (kk : Q (.inl (some (vi (σ 136 0)))) bb σ) : qx sc D 223 0 [vr 136] [] (0, 0) bb σ Q := by
  simp only [k223_0, k223_1, k223_4]
  exact kk
theorem RI_fs (hI : RI σ L pl n f ft inp len) : (σ 136 13 = bitsOf pl ∧ σ 136 14 = nS L ∧ σ 136 15 = nV L ∧ σ 136 16 = nK L ∧ σ 136 17 = nL L) ∧ PRO (GG L) pl (nV L) (nS L) (nK L) (nL L) ∧ (8 ≤ nV L ∧ nV L ≤ 240 ∧ nS L ≤ 40 ∧ nK L ≤ nS L ∧ nL L ≤ nS L) ∧ RK σ (GG L) pl (nV L) (nS L) (nK L) (nL L) (nD L) :=
  ⟨⟨hI.2.1.1.1.1, hI.2.1.1.1.2.1, hI.2.1.1.1.2.2.1, hI.2.1.1.1.2.2.2.1, hI.2.1.1.1.2.2.2.2.1⟩, hI.1.2.1, hI.1.2.1.2.1, hI.2.1.1⟩
/-- above -/
theorem s126 (hI : RI σ L pl n f ft inp len) (kk : RPO Q bb σ (o_ab L pl a b) L pl n f ft inp len) : qx sc (D + 40) 126 0 [vr 136, vi a, vi b] [] (0, 0) bb σ Q := by
  obtain ⟨⟨h13, h14, h15, h16, h17⟩, hp, hb, hk⟩ := RI_fs hI
  unfold o_ab at kk
  simp only [k126_0, k126_1, k126_2, k126_5, k126_6, k126_7]
  by_cases ha : 0 ≤ a ∧ a < 3
  · rw [o_in_y ha] at kk
    simp only [e186_y ha, q_kn_v, k126_10, k126_13, k126_14, k126_15, true_implies, false_implies, not_true_eq_false, not_false_eq_true, true_and, and_true, implies_true, or_true, true_or, or_false, false_or, Int.reduceEq, Int.one_ne_zero, Nat.reduceEqDiff]
    have hv15 : q_up σ 136 0 0 136 15 = nV L := by rw [u0_ne _ _ (by decide)]; exact h15
    by_cases hv : 0 ≤ b ∧ b < nV L
    · rw [o_in_y hv] at kk
      have hbit := bit_of (pl := pl) (k := a) (by omega)
      unfold q_bit at hbit
      have e13 : q_up σ 136 0 0 136 13 = bitsOf pl := by rw [u0_ne _ _ (by decide)]; exact h13
      simp only [e187_y hv15 (by omega) hv, q_kn_v, k126_18, k126_21, k126_22, k126_23, k126_26, k126_27, k126_28, k126_29, k126_30, true_implies, false_implies, not_true_eq_false, not_false_eq_true, true_and, and_true, implies_true, or_true, true_or, or_false, false_or, Int.reduceEq, Int.one_ne_zero, Nat.reduceEqDiff, e13, hbit]
      by_cases hm : pl a = -1
      · rw [if_pos hm] at kk
        simp only [if_pos hm, true_implies, false_implies, not_true_eq_false, not_false_eq_true, true_and, and_true, implies_true, or_true, true_or, or_false, false_or, Int.reduceEq, Int.one_ne_zero, Nat.reduceEqDiff, k126_33, k126_34, k126_37, k126_38, k126_39, e224_1, q_kn_v, k126_42, k126_45, k126_46]
        exact RPO_q hI kk u00_ne (q_up_eq _ _ _ _)
      · rw [if_neg hm] at kk
        have B0 := hI.2.1.2.1 a.toNat (by omega) b.toNat (by omega)
        rw [Int.toNat_of_nonneg ha.1, Int.toNat_of_nonneg hv.1] at B0
        have B1 : q_up σ 136 0 0 173 (700 * a + b) = enR a (l_L (E_G (GG L) (q_of pl) a (-1)) (nV L) b.toNat) := by rw [u0_ne _ _ (by omega)]; exact B0
        simp only [if_neg hm, true_implies, false_implies, not_true_eq_false, not_false_eq_true, true_and, and_true, implies_true, or_true, true_or, or_false, false_or, Int.reduceEq, Int.one_ne_zero, Nat.reduceEqDiff, k126_33, k126_34, k126_37, k126_38, k126_39, e224_0, q_kn_v, k126_42, k126_45, k126_46, k126_47, k126_48, k126_49, k126_50]
        refine m133 (by omega) hv.1 (by omega) ?_
        rw [B1]
        simp only [q_kn_v, k126_53]
        refine e225 (fun z hz => L_small hp (by omega) b.toNat (by omega) z hz) ?_
        rw [if_neg (by omega), q_kn_v, k126_56]
        exact RPO_q hI kk u0_ne (q_up_eq _ _ _ _)
    · rw [o_in_n hv] at kk
      simp only [e187_n hv15 (by omega) hv, q_kn_v, k126_18, k126_45, k126_46, true_implies, false_implies, not_true_eq_false, not_false_eq_true, true_and, and_true, implies_true, or_true, true_or, or_false, false_or, Int.reduceEq, Int.one_ne_zero, Nat.reduceEqDiff]
      exact RPO_q hI kk u00_ne (q_up_eq _ _ _ _)
  · rw [o_in_n ha] at kk
    simp only [e186_n ha, q_kn_v, k126_10, k126_45, k126_46, true_implies, false_implies, not_true_eq_false, not_false_eq_true, true_and, and_true, implies_true, or_true, true_or, or_false, false_or, Int.reduceEq, Int.one_ne_zero, Nat.reduceEqDiff]
    exact RPO_q hI kk u00_ne (q_up_eq _ _ _ _)
/-- below -/
theorem s129 (hI : RI σ L pl n f ft inp len) (kk : RPO Q bb σ (o_be L pl b) L pl n f ft inp len) : qx sc (D + 40) 129 0 [vr 136, vi b] [] (0, 0) bb σ Q := by
  obtain ⟨⟨h13, h14, h15, h16, h17⟩, hp, hb, hk⟩ := RI_fs hI
  unfold o_be at kk
  have hv15 : q_up σ 136 0 0 136 15 = nV L := by rw [u0_ne _ _ (by decide)]; exact h15
  simp only [k129_0, k129_1, k129_2, k129_5, k129_6, k129_7]
  by_cases hv : 0 ≤ b ∧ b < nV L
  · rw [o_in_y hv] at kk
    have B0 := hI.2.1.2.1 3 (by omega) b.toNat (by omega)
    rw [Int.toNat_of_nonneg hv.1] at B0
    have B1 : q_up σ 136 0 0 173 (700 * 3 + b) = enR 3 (l_L (E_G (GG L) (q_of pl) 3 (-1)) (nV L) b.toNat) := by rw [u0_ne _ _ (by omega)]; exact B0
    simp only [e187_y hv15 (by omega) hv, q_kn_v, k129_10, k129_17, k129_18, k129_19, k129_20, true_implies, false_implies, not_true_eq_false, not_false_eq_true, true_and, and_true, implies_true, or_true, true_or, or_false, false_or, Int.reduceEq, Int.one_ne_zero, Nat.reduceEqDiff]
    refine m133 (by omega) hv.1 (by omega) ?_
    rw [B1]
    simp only [q_kn_v, k129_23]
    refine e225 (fun z hz => L_small hp (by decide) b.toNat (by omega) z hz) ?_
    rw [if_pos rfl, q_kn_v, k129_26]
    exact RPO_q hI kk u0_ne (q_up_eq _ _ _ _)
  · rw [o_in_n hv] at kk
    simp only [e187_n hv15 (by omega) hv, q_kn_v, k129_10, k129_13, k129_14, k129_26, true_implies, false_implies, not_true_eq_false, not_false_eq_true, true_and, and_true, implies_true, or_true, true_or, or_false, false_or, Int.reduceEq, Int.one_ne_zero, Nat.reduceEqDiff]
    exact RPO_q hI kk u00_ne (q_up_eq _ _ _ _)
/-- fault -/
theorem s149 (hI : RI σ L pl n f ft inp len) (kk : RPO Q bb σ (.inl ft) L pl n f ft inp len) : qx sc (D + 40) 149 0 [vr 136] [] (0, 0) bb σ Q := by
  have h52 : q_up σ 136 0 0 136 52 = ft := by rw [u0_ne _ _ (by decide)]; exact hI.2.2.2.2.1
  simp only [k149_0, k149_1, k149_2, k149_5, k149_6, k149_9, h52]
  exact RPO_q hI kk u0_ne (q_up_eq _ _ _ _)
/-- stands -/
theorem s215 (hI : RI σ L pl n f ft inp len) (kk : RPO Q bb σ (o_sd L b w) L pl n f ft inp len) : qx sc (D + 40) 215 0 [vr 136, vi b, vi w] [] (0, 0) bb σ Q := by
  obtain ⟨⟨h13, h14, h15, h16, h17⟩, hp, hb, hk⟩ := RI_fs hI
  unfold o_sd at kk
  have hv15 : q_up σ 136 0 0 136 15 = nV L := by rw [u0_ne _ _ (by decide)]; exact h15
  simp only [k215_0, k215_1, k215_2, k215_5, k215_6, k215_7]
  by_cases hv : 0 ≤ b ∧ b < nV L
  · rw [o_in_y hv] at kk
    have b700 : b < 700 := by omega
    obtain ⟨e1, e2⟩ := hI.2.1.2.2.1 b.toNat (by omega)
    rw [Int.toNat_of_nonneg hv.1] at e1 e2
    have e174 : q_up σ 136 0 0 174 b = (RT (GG L) b).1 := by rw [u0_ne _ _ (by omega)]; exact e1
    have e175 : q_up σ 136 0 0 175 b = (RT (GG L) b).2 := by rw [u0_ne _ _ (by omega)]; exact e2
    by_cases hw : w = 0
    · rw [if_pos hw] at kk
      simp only [e187_y hv15 (by omega) hv, q_kn_v, k215_10, k215_17, k215_18, k215_21, k215_22, k215_25, k215_26, k215_27, k215_30, k215_31, k215_34, k215_35, k215_36, qt_1, ql_1, qt_2, ql_2, qt_3, ql_3, qt_6, ql_6, qt_7, ql_7, qt_8, ql_8, qt_10, ql_10, qt_11, ql_11, qt_12, ql_12, qt_13, ql_13, qt_14, ql_14, qt_15, ql_15, qt_16, ql_16, qt_17, ql_17, qt_18, ql_18, qt_19, ql_19, qt_20, ql_20, qt_21, ql_21, qt_22, ql_22, qt_23, ql_23, qt_24, ql_24, qt_25, ql_25, qt_26, ql_26, qt_28, ql_28, qt_29, ql_29, qt_30, ql_30, qt_31, ql_31, qt_32, ql_32, qt_33, ql_33, qt_34, ql_34, qt_35, ql_35, qt_36, ql_36, qt_37, ql_37, qt_38, ql_38, qt_40, ql_40, qt_41, ql_41, qt_42, ql_42, qt_43, ql_43, qt_44, ql_44, qt_45, ql_45, qt_46, ql_46, qt_47, ql_47, qt_48, ql_48, qt_49, ql_49, qt_50, ql_50, qt_51, ql_51, qt_52, ql_52, qt_53, ql_53, qt_54, ql_54, qt_56, ql_56, qt_57, ql_57, qt_58, ql_58, qt_59, ql_59, qt_60, ql_60, qt_61, ql_61, qt_62, ql_62, qt_63, ql_63, qt_64, ql_64, qt_65, ql_65, qt_67, ql_67, qt_68, ql_68, qt_69, ql_69, qt_70, ql_70, qt_71, ql_71, qt_73, ql_73, qt_74, ql_74, qt_75, ql_75, qt_76, ql_76, qt_78, ql_78, qt_79, ql_79, qt_80, ql_80, qt_81, ql_81, qt_82, ql_82, qt_83, ql_83, qt_84, ql_84, qt_85, ql_85, qt_86, ql_86, qt_87, ql_87, qt_89, ql_89, qt_90, ql_90, qt_91, ql_91, qt_92, ql_92, qt_93, ql_93, qt_94, ql_94, qt_95, ql_95, qt_96, ql_96, qt_97, ql_97, qt_98, ql_98, qt_99, ql_99, qt_100, ql_100, qt_101, ql_101, qt_102, ql_102, qt_103, ql_103, qt_105, ql_105, qt_106, ql_106, qt_107, ql_107, qt_108, ql_108, qt_109, ql_109, qt_110, ql_110, qt_111, ql_111, qt_113, ql_113, qt_114, ql_114, qt_115, ql_115, qt_116, ql_116, qt_117, ql_117, qt_118, ql_118, qt_119, ql_119, qt_120, ql_120, qt_121, ql_121, qt_122, ql_122, qt_123, ql_123, qt_124, ql_124, qt_125, ql_125, qt_126, ql_126, qt_127, ql_127, qt_129, ql_129, qt_130, ql_130, qt_131, ql_131, qt_132, ql_132, qt_133, ql_133, qt_134, ql_134, qt_135, ql_135, qt_137, ql_137, qt_138, ql_138, qt_139, ql_139, qt_140, ql_140, qt_141, ql_141, qt_142, ql_142, qt_143, ql_143, qt_144, ql_144, qt_145, ql_145, qt_146, ql_146, qt_147, ql_147, qt_148, ql_148, qt_149, ql_149, qt_150, ql_150, qt_151, ql_151, qt_152, ql_152, qt_153, ql_153, qt_154, ql_154, qt_155, ql_155, qt_156, ql_156, qt_157, ql_157, qt_158, ql_158, qt_159, ql_159, qt_160, ql_160, qt_161, ql_161, qt_162, ql_162, qt_163, ql_163, qt_164, ql_164, qt_165, ql_165, qt_166, ql_166, qt_167, ql_167, qt_168, ql_168, qt_169, ql_169, qt_170, ql_170, qt_171, ql_171, qt_172, ql_172, qt_173, ql_173, qt_174, ql_174, qt_175, ql_175, qt_176, ql_176, qt_177, ql_177, qt_178, ql_178, qt_179, ql_179, qt_180, ql_180, qt_181, ql_181, qt_182, ql_182, qt_183, ql_183, qt_184, ql_184, qt_185, ql_185, qt_186, ql_186, qt_187, ql_187, qt_188, ql_188, true_implies, false_implies, not_true_eq_false, not_false_eq_true, true_and, and_true, implies_true, or_true, true_or, or_false, false_or, Int.reduceEq, Int.one_ne_zero, Nat.reduceEqDiff, hw, hv.1, b700, e174]
      exact RPO_q hI kk u0_ne (q_up_eq _ _ _ _)
    · rw [if_neg hw] at kk
      simp only [e187_y hv15 (by omega) hv, q_kn_v, k215_10, k215_17, k215_18, k215_21, k215_22, k215_25, k215_26, k215_27, k215_30, k215_31, k215_34, k215_35, k215_36, qt_1, ql_1, qt_2, ql_2, qt_3, ql_3, qt_6, ql_6, qt_7, ql_7, qt_8, ql_8, qt_10, ql_10, qt_11, ql_11, qt_12, ql_12, qt_13, ql_13, qt_14, ql_14, qt_15, ql_15, qt_16, ql_16, qt_17, ql_17, qt_18, ql_18, qt_19, ql_19, qt_20, ql_20, qt_21, ql_21, qt_22, ql_22, qt_23, ql_23, qt_24, ql_24, qt_25, ql_25, qt_26, ql_26, qt_28, ql_28, qt_29, ql_29, qt_30, ql_30, qt_31, ql_31, qt_32, ql_32, qt_33, ql_33, qt_34, ql_34, qt_35, ql_35, qt_36, ql_36, qt_37, ql_37, qt_38, ql_38, qt_40, ql_40, qt_41, ql_41, qt_42, ql_42, qt_43, ql_43, qt_44, ql_44, qt_45, ql_45, qt_46, ql_46, qt_47, ql_47, qt_48, ql_48, qt_49, ql_49, qt_50, ql_50, qt_51, ql_51, qt_52, ql_52, qt_53, ql_53, qt_54, ql_54, qt_56, ql_56, qt_57, ql_57, qt_58, ql_58, qt_59, ql_59, qt_60, ql_60, qt_61, ql_61, qt_62, ql_62, qt_63, ql_63, qt_64, ql_64, qt_65, ql_65, qt_67, ql_67, qt_68, ql_68, qt_69, ql_69, qt_70, ql_70, qt_71, ql_71, qt_73, ql_73, qt_74, ql_74, qt_75, ql_75, qt_76, ql_76, qt_78, ql_78, qt_79, ql_79, qt_80, ql_80, qt_81, ql_81, qt_82, ql_82, qt_83, ql_83, qt_84, ql_84, qt_85, ql_85, qt_86, ql_86, qt_87, ql_87, qt_89, ql_89, qt_90, ql_90, qt_91, ql_91, qt_92, ql_92, qt_93, ql_93, qt_94, ql_94, qt_95, ql_95, qt_96, ql_96, qt_97, ql_97, qt_98, ql_98, qt_99, ql_99, qt_100, ql_100, qt_101, ql_101, qt_102, ql_102, qt_103, ql_103, qt_105, ql_105, qt_106, ql_106, qt_107, ql_107, qt_108, ql_108, qt_109, ql_109, qt_110, ql_110, qt_111, ql_111, qt_113, ql_113, qt_114, ql_114, qt_115, ql_115, qt_116, ql_116, qt_117, ql_117, qt_118, ql_118, qt_119, ql_119, qt_120, ql_120, qt_121, ql_121, qt_122, ql_122, qt_123, ql_123, qt_124, ql_124, qt_125, ql_125, qt_126, ql_126, qt_127, ql_127, qt_129, ql_129, qt_130, ql_130, qt_131, ql_131, qt_132, ql_132, qt_133, ql_133, qt_134, ql_134, qt_135, ql_135, qt_137, ql_137, qt_138, ql_138, qt_139, ql_139, qt_140, ql_140, qt_141, ql_141, qt_142, ql_142, qt_143, ql_143, qt_144, ql_144, qt_145, ql_145, qt_146, ql_146, qt_147, ql_147, qt_148, ql_148, qt_149, ql_149, qt_150, ql_150, qt_151, ql_151, qt_152, ql_152, qt_153, ql_153, qt_154, ql_154, qt_155, ql_155, qt_156, ql_156, qt_157, ql_157, qt_158, ql_158, qt_159, ql_159, qt_160, ql_160, qt_161, ql_161, qt_162, ql_162, qt_163, ql_163, qt_164, ql_164, qt_165, ql_165, qt_166, ql_166, qt_167, ql_167, qt_168, ql_168, qt_169, ql_169, qt_170, ql_170, qt_171, ql_171, qt_172, ql_172, qt_173, ql_173, qt_174, ql_174, qt_175, ql_175, qt_176, ql_176, qt_177, ql_177, qt_178, ql_178, qt_179, ql_179, qt_180, ql_180, qt_181, ql_181, qt_182, ql_182, qt_183, ql_183, qt_184, ql_184, qt_185, ql_185, qt_186, ql_186, qt_187, ql_187, qt_188, ql_188, true_implies, false_implies, not_true_eq_false, not_false_eq_true, true_and, and_true, implies_true, or_true, true_or, or_false, false_or, Int.reduceEq, Int.one_ne_zero, Nat.reduceEqDiff, hw, hv.1, b700, e175]
      exact RPO_q hI kk u0_ne (q_up_eq _ _ _ _)
  · rw [o_in_n hv] at kk
    simp only [e187_n hv15 (by omega) hv, q_kn_v, k215_10, k215_13, k215_14, k215_36, true_implies, false_implies, not_true_eq_false, not_false_eq_true, true_and, and_true, implies_true, or_true, true_or, or_false, false_or, Int.reduceEq, Int.one_ne_zero, Nat.reduceEqDiff]
    exact RPO_q hI kk u00_ne (q_up_eq _ _ _ _)
end RPA
