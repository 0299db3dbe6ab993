/-! the class' answers: counts, chains, and what is told -/
def iup (g : Int → Int) (a x : Int) : Int → Int := fun d => if d = a then x else g d
def o_inp (inp : Int → Int) (a x : Int) : OC := if (0 ≤ a ∧ a < 3) ∧ (-99 ≤ x ∧ x ≤ 99) then .inl (inp a) else .inr (0, 1)
def inpU (inp : Int → Int) (a x : Int) : Int → Int := if (0 ≤ a ∧ a < 3) ∧ (-99 ≤ x ∧ x ≤ 99) then iup inp a x else inp
def o_len (len : Int → Int) (a x : Int) : OC := o_in a 3 (if 0 ≤ x ∧ x ≤ 40 then .inl (len a) else .inr (0, 2))
def lenU (len : Int → Int) (a x : Int) : Int → Int := if (0 ≤ a ∧ a < 3) ∧ (0 ≤ x ∧ x ≤ 40) then iup len a x else len
def o_end (n x : Int) : OC := .inl (if 0 ≤ x ∧ x ≤ n then 1 else 0)
def endU (n x : Int) : Int := if 0 ≤ x ∧ x ≤ n then x else n
section CPC
variable {sc : Nat × (Nat → Int32)} {D : Nat} {bb : Bool} {Q : QP} {c : Nat} {C r r' σ : St} {m : Int} {L : List (ST 5)} {pl f f' inp len inp' len' : Int → Int} {n n' ft ft' a b x y k w v l s ab : Int} {O : OC}
theorem CI_gen (h : CI c C r m L pl n f ft inp len) (he : ∀ a i, CSX a i ∨ (a = 0 ∧ (i = 11 ∨ i = 12)) ∨ (a = 66 ∧ i = 5) ∨ a = 67 ∨ a = 68 → r' a i = r a i) (h7 : r' 0 13 = n' ∧ 0 ≤ n' ∧ n' ≤ 400 ∧ BYT f' (r' 1) n') (h8 : r' 0 14 = ft') (h9 : ∀ d, 0 ≤ d → d ≤ 2 → (r' 2 d = inp' d ∧ r' 3 d = len' d) ∧ (-99 ≤ inp' d ∧ inp' d ≤ 99) ∧ (0 ≤ len' d ∧ len' d ≤ 40)) : CI c C r' m L pl n' f' ft' inp' len' := by
  obtain ⟨h1, h2, h3, h4, h5, h6, -⟩ := h
  refine ⟨h1, h2, CST_of h3 (fun a i ha => he a i (Or.inl ha)), ?_, ?_, ?_, h7, h8, h9⟩
  · rw [he 0 11 (by omega), he 0 12 (by omega)]; exact h4
  · rw [he 66 5 (by omega)]
    exact ⟨h5.1, fun w w0 w1 => by rw [he 67 w (by omega)]; exact h5.2 w w0 w1⟩
  · intro k k0 k1; rw [he 68 k (by omega)]; exact h6 k k0 k1
theorem NS_hi (hc : q_C c) {a : Nat} {i : Int} (ha : 136 ≤ a) : NS c C r a i = r a i := by
  unfold NS
  rw [if_neg (by omega), if_neg (by unfold q_C at hc; omega)]
/-- rowBits -/
theorem p14 (hc : q_C c) (hC : ∀ k, k = 0 ∨ k = 1 ∨ k = 2 → C 1 k = pl k) (kk : Q (.inl (some (vi (bitsOf pl)))) bb (NS c C r)) : qx sc D 14 0 [vr c, vn, vn] [] (0, 0) bb (NS c C r) Q := by
  have h0 := hC 0 (by omega)
  have h1 := hC 1 (by omega)
  have h2 := hC 2 (by omega)
  unfold bitsOf at kk
  simp only [k14_0, k14_1, k14_2, k14_3]
  rw [k14_4]
  simp only [k14_5, k14_6, k14_9, k14_10 hc, k14_13, k14_14, k14_15, k14_16, NS_lo hc, NS_g hc, NS_f hc, NS_u hc, NS_uf hc, Nat.reduceLT, Nat.reduceLeDiff, Nat.reduceEqDiff, not_false_eq_true, qtc_1 hc, qlc_1 hc, qtc_2 hc, qlc_2 hc, qtc_3 hc, qlc_3 hc, qtc_4 hc, qlc_4 hc, qtc_5 hc, qlc_5 hc, qtc_6 hc, qlc_6 hc, qtc_7 hc, qlc_7 hc, qtc_8 hc, qlc_8 hc, qtc_9 hc, qlc_9 hc, qtc_10 hc, qlc_10 hc, qtc_11 hc, qlc_11 hc, qtc_12 hc, qlc_12 hc, qtc_13 hc, qlc_13 hc, qtc_14 hc, qlc_14 hc, qtc_15 hc, qlc_15 hc, qtc_17 hc, qlc_17 hc, qtc_19 hc, qlc_19 hc, qtc_20 hc, qlc_20 hc, qtc_22 hc, qlc_22 hc, qtc_23 hc, qlc_23 hc, qtc_18 hc, qlc_18 hc, qtc_21 hc, qlc_21 hc, c18_0, c18_1, c21_0, c21_1, true_implies, false_implies, not_true_eq_false, not_false_eq_true, true_and, and_true, implies_true, or_true, true_or, or_false, false_or, Int.reduceEq, Int.one_ne_zero, Nat.reduceEqDiff, Int.reduceLT, Int.reduceLE, h0]
  have st : ∀ (x i : Int), (0 ≤ i ∧ i < 3) → (∀ x', (pl i = -1 → x' = x) → (¬ pl i = -1 → x' = (q_I x ||| q_I (q_I 1 <<< (q_I i &&& 31)).toInt).toInt) → qx sc D 14 4 [vr c, vi x', vi (i + 1)] [] (0, 0) bb (NS c C r) Q) → (pl i = -1 → qx sc D 14 25 [vr c, vi x, vi i] [] (0, 0) bb (NS c C r) Q) ∧ (¬ pl i = -1 → qx sc D 14 19 [vr c, vi x, vi i] [] (0, 0) bb (NS c C r) Q) := by
    intro x i hi hk
    have R : q_R (i + 1) = True := eq_true (by unfold q_R; omega)
    refine ⟨fun g => ?_, fun g => ?_⟩
    · simp only [k14_25, k14_28, R, true_implies, false_implies, not_true_eq_false, not_false_eq_true, true_and, and_true, implies_true, or_true, true_or, or_false, false_or, Int.reduceEq, Int.one_ne_zero, Nat.reduceEqDiff]
      exact hk x (fun _ => rfl) (fun q => absurd g q)
    · simp only [k14_19, k14_20, k14_21, k14_22, k14_23, k14_24, k14_25, k14_28, R, true_implies, false_implies, not_true_eq_false, not_false_eq_true, true_and, and_true, implies_true, or_true, true_or, or_false, false_or, Int.reduceEq, Int.one_ne_zero, Nat.reduceEqDiff]
      exact hk _ (fun q => absurd q g) (fun _ => rfl)
  refine st 0 0 (by decide) (fun x0 a0 b0 => ?_)
  rw [k14_4]
  simp only [k14_5, k14_6, k14_9, k14_10 hc, k14_13, k14_14, k14_15, k14_16, NS_lo hc, NS_g hc, NS_f hc, NS_u hc, NS_uf hc, Nat.reduceLT, Nat.reduceLeDiff, Nat.reduceEqDiff, not_false_eq_true, qtc_1 hc, qlc_1 hc, qtc_2 hc, qlc_2 hc, qtc_3 hc, qlc_3 hc, qtc_4 hc, qlc_4 hc, qtc_5 hc, qlc_5 hc, qtc_6 hc, qlc_6 hc, qtc_7 hc, qlc_7 hc, qtc_8 hc, qlc_8 hc, qtc_9 hc, qlc_9 hc, qtc_10 hc, qlc_10 hc, qtc_11 hc, qlc_11 hc, qtc_12 hc, qlc_12 hc, qtc_13 hc, qlc_13 hc, qtc_14 hc, qlc_14 hc, qtc_15 hc, qlc_15 hc, qtc_17 hc, qlc_17 hc, qtc_19 hc, qlc_19 hc, qtc_20 hc, qlc_20 hc, qtc_22 hc, qlc_22 hc, qtc_23 hc, qlc_23 hc, qtc_18 hc, qlc_18 hc, qtc_21 hc, qlc_21 hc, c18_0, c18_1, c21_0, c21_1, true_implies, false_implies, not_true_eq_false, not_false_eq_true, true_and, and_true, implies_true, or_true, true_or, or_false, false_or, Int.reduceEq, Int.one_ne_zero, Nat.reduceEqDiff, Int.reduceLT, Int.reduceLE, Int.reduceAdd, h1]
  refine st x0 1 (by decide) (fun x1 a1 b1 => ?_)
  rw [k14_4]
  simp only [k14_5, k14_6, k14_9, k14_10 hc, k14_13, k14_14, k14_15, k14_16, NS_lo hc, NS_g hc, NS_f hc, NS_u hc, NS_uf hc, Nat.reduceLT, Nat.reduceLeDiff, Nat.reduceEqDiff, not_false_eq_true, qtc_1 hc, qlc_1 hc, qtc_2 hc, qlc_2 hc, qtc_3 hc, qlc_3 hc, qtc_4 hc, qlc_4 hc, qtc_5 hc, qlc_5 hc, qtc_6 hc, qlc_6 hc, qtc_7 hc, qlc_7 hc, qtc_8 hc, qlc_8 hc, qtc_9 hc, qlc_9 hc, qtc_10 hc, qlc_10 hc, qtc_11 hc, qlc_11 hc, qtc_12 hc, qlc_12 hc, qtc_13 hc, qlc_13 hc, qtc_14 hc, qlc_14 hc, qtc_15 hc, qlc_15 hc, qtc_17 hc, qlc_17 hc, qtc_19 hc, qlc_19 hc, qtc_20 hc, qlc_20 hc, qtc_22 hc, qlc_22 hc, qtc_23 hc, qlc_23 hc, qtc_18 hc, qlc_18 hc, qtc_21 hc, qlc_21 hc, c18_0, c18_1, c21_0, c21_1, true_implies, false_implies, not_true_eq_false, not_false_eq_true, true_and, and_true, implies_true, or_true, true_or, or_false, false_or, Int.reduceEq, Int.one_ne_zero, Nat.reduceEqDiff, Int.reduceLT, Int.reduceLE, Int.reduceAdd, h2]
  refine st x1 2 (by decide) (fun x2 a2 b2 => ?_)
  rw [k14_4]
  simp only [k14_5, k14_6, k14_31, k14_32, true_implies, false_implies, not_true_eq_false, not_false_eq_true, true_and, and_true, implies_true, or_true, true_or, or_false, false_or, Int.reduceEq, Int.one_ne_zero, Nat.reduceEqDiff, Int.reduceLT, Int.reduceAdd]
  have e : x2 = (if pl 0 = -1 then 0 else 1) + (if pl 1 = -1 then 0 else 2) + (if pl 2 = -1 then 0 else 4) := by
    by_cases g0 : pl 0 = -1
    · rw [a0 g0] at a1 b1
      by_cases g1 : pl 1 = -1
      · rw [a1 g1] at a2 b2
        by_cases g2 : pl 2 = -1
        · rw [a2 g2, if_pos g0, if_pos g1, if_pos g2]; rfl
        · rw [b2 g2, if_pos g0, if_pos g1, if_neg g2]; rfl
      · rw [b1 g1] at a2 b2
        by_cases g2 : pl 2 = -1
        · rw [a2 g2, if_pos g0, if_neg g1, if_pos g2]; rfl
        · rw [b2 g2, if_pos g0, if_neg g1, if_neg g2]; rfl
    · rw [b0 g0] at a1 b1
      by_cases g1 : pl 1 = -1
      · rw [a1 g1] at a2 b2
        by_cases g2 : pl 2 = -1
        · rw [a2 g2, if_neg g0, if_pos g1, if_pos g2]; rfl
        · rw [b2 g2, if_neg g0, if_pos g1, if_neg g2]; rfl
      · rw [b1 g1] at a2 b2
        by_cases g2 : pl 2 = -1
        · rw [a2 g2, if_neg g0, if_neg g1, if_pos g2]; rfl
        · rw [b2 g2, if_neg g0, if_neg g1, if_neg g2]; rfl
  rw [e]
  exact kk
/-- count -/
theorem p99 (hI : CI c C r m L pl n f ft inp len) (kk : CPO Q bb (NS c C r) (.inl (o_co L pl w)) m L pl n f ft inp len) : qx sc (D + 30) 99 0 [vr 0, vi w] [] (0, 0) bb (NS c C r) Q := by
  have kq := CPO_s hI kk
  have hc := hI.1
  obtain ⟨h11, h9, ⟨hS, hK, hL⟩, hpl, hb⟩ := CI_fs hI
  obtain ⟨e8, e9'⟩ := hI.2.2.1.2.2.2.2.2.1
  have e72 : r 72 8 = l_sm (fun j => if (gdr (GG L) pl (nV L) j).1 = -1 then 0 else 1) (nK L) := hI.2.2.1.2.2.2.2.2.2.2.2.1
  have p0 := (hpl 0 (by omega)).1
  have p1 := (hpl 1 (by omega)).1
  have p2 := (hpl 2 (by omega)).1
  have R0 : q_R 0 = True := eq_true (by unfold q_R; decide)
  have R1 : q_R 1 = True := eq_true (by unfold q_R; decide)
  have R2 : q_R 2 = True := eq_true (by unfold q_R; decide)
  unfold o_co at kq
  simp only [k99_0, k99_1]
  rcases (show (w < 0 ∨ 10 < w) ∨ w = 0 ∨ w = 1 ∨ w = 2 ∨ w = 3 ∨ w = 4 ∨ w = 5 ∨ w = 6 ∨ w = 7 ∨ w = 8 ∨ w = 9 ∨ w = 10 by omega) with h | rfl | rfl | rfl | rfl | rfl | rfl | rfl | rfl | rfl | rfl | rfl
  · rw [if_neg (by omega), if_neg (by omega), if_neg (by omega), if_neg (by omega), if_neg (by omega), if_neg (by omega), if_neg (by omega), if_neg (by omega), if_neg (by omega)] at kq
    rw [if_pos h]
    simp only [k99_137, k99_138]
    exact kq
  · simp only [Int.reduceLT, or_self, or_true, true_or, ↓reduceIte, Int.reduceSub, Int.reduceToNat, List.getD_cons_zero, List.getD_cons_succ, k99_60, k99_61, k99_64 hc, k99_67, NS_lo hc, NS_g hc, NS_f hc, NS_u hc, NS_uf hc, Nat.reduceLT, Nat.reduceLeDiff, Nat.reduceEqDiff, not_false_eq_true, true_implies, false_implies, not_true_eq_false, not_false_eq_true, true_and, and_true, implies_true, or_true, true_or, or_false, false_or, Int.reduceEq, Int.one_ne_zero, Nat.reduceEqDiff, h11, c_nn, Int.toNat_natCast, hS]
    exact kq
  · simp only [Int.reduceLT, or_self, or_true, true_or, ↓reduceIte, Int.reduceSub, Int.reduceToNat, List.getD_cons_zero, List.getD_cons_succ, k99_68, k99_69, k99_72, k99_75, NS_lo hc, NS_g hc, NS_f hc, NS_u hc, NS_uf hc, Nat.reduceLT, Nat.reduceLeDiff, Nat.reduceEqDiff, not_false_eq_true, true_implies, false_implies, not_true_eq_false, not_false_eq_true, true_and, and_true, implies_true, or_true, true_or, or_false, false_or, Int.reduceEq, Int.one_ne_zero, Nat.reduceEqDiff, h11, c_nn, Int.toNat_natCast, h9]
    exact kq
  · simp only [Int.reduceLT, or_self, or_true, true_or, ↓reduceIte, Int.reduceSub, Int.reduceToNat, List.getD_cons_zero, List.getD_cons_succ, k99_76, k99_77, k99_80 hc, k99_83, NS_lo hc, NS_g hc, NS_f hc, NS_u hc, NS_uf hc, Nat.reduceLT, Nat.reduceLeDiff, Nat.reduceEqDiff, not_false_eq_true, true_implies, false_implies, not_true_eq_false, not_false_eq_true, true_and, and_true, implies_true, or_true, true_or, or_false, false_or, Int.reduceEq, Int.one_ne_zero, Nat.reduceEqDiff, h11, c_nn, Int.toNat_natCast, hK]
    exact kq
  · simp only [Int.reduceLT, or_self, or_true, true_or, ↓reduceIte, Int.reduceSub, Int.reduceToNat, List.getD_cons_zero, List.getD_cons_succ, k99_84, k99_85, k99_88 hc, k99_91, NS_lo hc, NS_g hc, NS_f hc, NS_u hc, NS_uf hc, Nat.reduceLT, Nat.reduceLeDiff, Nat.reduceEqDiff, not_false_eq_true, true_implies, false_implies, not_true_eq_false, not_false_eq_true, true_and, and_true, implies_true, or_true, true_or, or_false, false_or, Int.reduceEq, Int.one_ne_zero, Nat.reduceEqDiff, h11, c_nn, Int.toNat_natCast, hL]
    exact kq
  · simp only [Int.reduceLT, or_self, or_true, true_or, ↓reduceIte, Int.reduceSub, Int.reduceToNat, List.getD_cons_zero, List.getD_cons_succ, k99_92, k99_93, k99_96, k99_99, NS_lo hc, NS_g hc, NS_f hc, NS_u hc, NS_uf hc, Nat.reduceLT, Nat.reduceLeDiff, Nat.reduceEqDiff, not_false_eq_true, true_implies, false_implies, not_true_eq_false, not_false_eq_true, true_and, and_true, implies_true, or_true, true_or, or_false, false_or, Int.reduceEq, Int.one_ne_zero, Nat.reduceEqDiff, h11, c_nn, Int.toNat_natCast, e8]
    exact kq
  · simp only [Int.reduceLT, or_self, or_true, true_or, ↓reduceIte, Int.reduceSub, Int.reduceToNat, List.getD_cons_zero, List.getD_cons_succ, k99_100, k99_101, k99_104, k99_107, NS_lo hc, NS_g hc, NS_f hc, NS_u hc, NS_uf hc, Nat.reduceLT, Nat.reduceLeDiff, Nat.reduceEqDiff, not_false_eq_true, true_implies, false_implies, not_true_eq_false, not_false_eq_true, true_and, and_true, implies_true, or_true, true_or, or_false, false_or, Int.reduceEq, Int.one_ne_zero, Nat.reduceEqDiff, h11, c_nn, Int.toNat_natCast, e9']
    exact kq
  · simp only [Int.reduceLT, or_self, or_true, true_or, ↓reduceIte, Int.reduceSub, Int.reduceToNat, List.getD_cons_zero, List.getD_cons_succ, k99_108, k99_109, k99_112, k99_115, NS_lo hc, NS_g hc, NS_f hc, NS_u hc, NS_uf hc, Nat.reduceLT, Nat.reduceLeDiff, Nat.reduceEqDiff, not_false_eq_true, true_implies, false_implies, not_true_eq_false, not_false_eq_true, true_and, and_true, implies_true, or_true, true_or, or_false, false_or, Int.reduceEq, Int.one_ne_zero, Nat.reduceEqDiff, h11, c_nn, Int.toNat_natCast, e72]
    exact kq
  · simp only [Int.reduceLT, or_self, or_true, true_or, ↓reduceIte, Int.reduceSub, Int.reduceToNat, List.getD_cons_zero, List.getD_cons_succ, k99_116, k99_117, k99_120 hc, NS_lo hc, NS_g hc, NS_f hc, NS_u hc, NS_uf hc, Nat.reduceLT, Nat.reduceLeDiff, Nat.reduceEqDiff, not_false_eq_true, true_implies, false_implies, not_true_eq_false, not_false_eq_true, true_and, and_true, implies_true, or_true, true_or, or_false, false_or, Int.reduceEq, Int.one_ne_zero, Nat.reduceEqDiff, h11, c_nn, Int.toNat_natCast]
    refine p14 hc (fun k hk => (hpl k hk).1) ?_
    rw [q_kn_v, k99_123]
    exact kq
  · simp only [Int.reduceLT, or_self, or_true, true_or, ↓reduceIte, Int.reduceSub, Int.reduceToNat, List.getD_cons_zero, List.getD_cons_succ, k99_124, k99_125, k99_128 hc, k99_131, k99_132, k99_134, k99_135, k99_136, NS_lo hc, NS_g hc, NS_f hc, NS_u hc, NS_uf hc, Nat.reduceLT, Nat.reduceLeDiff, Nat.reduceEqDiff, not_false_eq_true, qtc_1 hc, qlc_1 hc, qtc_2 hc, qlc_2 hc, qtc_3 hc, qlc_3 hc, qtc_4 hc, qlc_4 hc, qtc_5 hc, qlc_5 hc, qtc_6 hc, qlc_6 hc, qtc_7 hc, qlc_7 hc, qtc_8 hc, qlc_8 hc, qtc_9 hc, qlc_9 hc, qtc_10 hc, qlc_10 hc, qtc_11 hc, qlc_11 hc, qtc_12 hc, qlc_12 hc, qtc_13 hc, qlc_13 hc, qtc_14 hc, qlc_14 hc, qtc_15 hc, qlc_15 hc, qtc_17 hc, qlc_17 hc, qtc_19 hc, qlc_19 hc, qtc_20 hc, qlc_20 hc, qtc_22 hc, qlc_22 hc, qtc_23 hc, qlc_23 hc, qtc_18 hc, qlc_18 hc, qtc_21 hc, qlc_21 hc, c18_0, c18_1, c21_0, c21_1, true_implies, false_implies, not_true_eq_false, not_false_eq_true, true_and, and_true, implies_true, or_true, true_or, or_false, false_or, Int.reduceEq, Int.one_ne_zero, Nat.reduceEqDiff, h11, c_nn, Int.toNat_natCast, Int.reduceLE, R0, p0]
    exact kq
  · simp only [Int.reduceLT, or_self, or_true, true_or, ↓reduceIte, Int.reduceSub, Int.reduceToNat, List.getD_cons_zero, List.getD_cons_succ, k99_124, k99_125, k99_128 hc, k99_131, k99_132, k99_134, k99_135, k99_136, NS_lo hc, NS_g hc, NS_f hc, NS_u hc, NS_uf hc, Nat.reduceLT, Nat.reduceLeDiff, Nat.reduceEqDiff, not_false_eq_true, qtc_1 hc, qlc_1 hc, qtc_2 hc, qlc_2 hc, qtc_3 hc, qlc_3 hc, qtc_4 hc, qlc_4 hc, qtc_5 hc, qlc_5 hc, qtc_6 hc, qlc_6 hc, qtc_7 hc, qlc_7 hc, qtc_8 hc, qlc_8 hc, qtc_9 hc, qlc_9 hc, qtc_10 hc, qlc_10 hc, qtc_11 hc, qlc_11 hc, qtc_12 hc, qlc_12 hc, qtc_13 hc, qlc_13 hc, qtc_14 hc, qlc_14 hc, qtc_15 hc, qlc_15 hc, qtc_17 hc, qlc_17 hc, qtc_19 hc, qlc_19 hc, qtc_20 hc, qlc_20 hc, qtc_22 hc, qlc_22 hc, qtc_23 hc, qlc_23 hc, qtc_18 hc, qlc_18 hc, qtc_21 hc, qlc_21 hc, c18_0, c18_1, c21_0, c21_1, true_implies, false_implies, not_true_eq_false, not_false_eq_true, true_and, and_true, implies_true, or_true, true_or, or_false, false_or, Int.reduceEq, Int.one_ne_zero, Nat.reduceEqDiff, h11, c_nn, Int.toNat_natCast, Int.reduceLE, R1, p1]
    exact kq
  · simp only [Int.reduceLT, or_self, or_true, true_or, ↓reduceIte, Int.reduceSub, Int.reduceToNat, List.getD_cons_zero, List.getD_cons_succ, k99_124, k99_125, k99_128 hc, k99_131, k99_132, k99_134, k99_135, k99_136, NS_lo hc, NS_g hc, NS_f hc, NS_u hc, NS_uf hc, Nat.reduceLT, Nat.reduceLeDiff, Nat.reduceEqDiff, not_false_eq_true, qtc_1 hc, qlc_1 hc, qtc_2 hc, qlc_2 hc, qtc_3 hc, qlc_3 hc, qtc_4 hc, qlc_4 hc, qtc_5 hc, qlc_5 hc, qtc_6 hc, qlc_6 hc, qtc_7 hc, qlc_7 hc, qtc_8 hc, qlc_8 hc, qtc_9 hc, qlc_9 hc, qtc_10 hc, qlc_10 hc, qtc_11 hc, qlc_11 hc, qtc_12 hc, qlc_12 hc, qtc_13 hc, qlc_13 hc, qtc_14 hc, qlc_14 hc, qtc_15 hc, qlc_15 hc, qtc_17 hc, qlc_17 hc, qtc_19 hc, qlc_19 hc, qtc_20 hc, qlc_20 hc, qtc_22 hc, qlc_22 hc, qtc_23 hc, qlc_23 hc, qtc_18 hc, qlc_18 hc, qtc_21 hc, qlc_21 hc, c18_0, c18_1, c21_0, c21_1, true_implies, false_implies, not_true_eq_false, not_false_eq_true, true_and, and_true, implies_true, or_true, true_or, or_false, false_or, Int.reduceEq, Int.one_ne_zero, Nat.reduceEqDiff, h11, c_nn, Int.toNat_natCast, Int.reduceLE, R2, p2]
    exact kq
/-- chain -/
theorem p97 (hI : CI c C r m L pl n f ft inp len) (hm : m ≤ 100000) (hab : ab = 0 ∨ ab = 1) (kk : CPO Q bb (NS c C r) (o_cn L pl k ab x) (m + 1) L pl n f ft inp len) : qx sc (D + 30) 97 0 [vr 0, vi k, vi ab, vi x] [] (0, 0) bb (NS c C r) Q := by
  have hc := hI.1
  obtain ⟨h11, h9, ⟨-, hK, -⟩, hpl, hb⟩ := CI_fs hI
  have kq := fun (h : CI c C r (m + 1) L pl n f ft inp len) => CPO_s h kk
  replace kq := kq (CI_m hI (by omega))
  unfold o_cn at kk kq
  by_cases hv : 0 ≤ k ∧ k < nK L
  · rw [o_in_y hv] at kk kq
    have hv' : 0 ≤ k ∧ k < C 0 1 := by rw [hK]; exact hv
    have k40 : k < 40 := by omega
    obtain ⟨e70, e71⟩ := hI.2.2.1.2.2.2.2.1 k hv.1 hv.2
    have z0 : (0 : Int).toNat = 0 := rfl
    have z1 : (1 : Int).toNat = 1 := rfl
    have fin : (if ab = 0 then shD (GG L) pl (nV L) (-1) k else shU (GG L) pl (nV L) (-1) k) = 1 → qx sc (D + 30) 97 37 [vr 0, vi k, vi ab, vi x] [] (1, 6) bb (NS c C r) Q := by
      intro h1
      rw [h1, if_neg (by decide)] at kk
      simp only [k97_37, k97_38, k97_41, k97_42, k97_43, k97_44, true_implies, false_implies, not_true_eq_false, not_false_eq_true, true_and, and_true, implies_true, or_true, true_or, or_false, false_or, Int.reduceEq, Int.one_ne_zero, Nat.reduceEqDiff]
      refine n34 (D := D + 26) hc hI.2.2.1 hv.1 hv.2 hab (fun e => ?_) (fun e => ?_) ⟨hI.2.2.2.2.1.1.1, by have := hI.2.2.2.2.1.1.2; omega⟩ hI.2.2.2.2.1.2 (fun r1 g1 g2 g3 => ?_)
      · rw [if_neg (by omega)] at h1; exact h1
      · rw [if_pos e] at h1; exact h1
      · simp only [q_kn_v, k97_47]
        have e : (if ab = 1 then (gK (GG L) k).2.1 else 3) = (if ab = 0 then 3 else (gK (GG L) k).2.1) := by
          rcases hab with h | h
          · rw [if_neg (by omega), if_pos h]
          · rw [if_pos h, if_neg (by omega)]
        rw [e]
        refine kk c C r1 ?_ (fun a i ha => by rw [NS_hi hc ha, NS_hi hc ha]; exact g1 a i (by omega) (by omega))
        obtain ⟨h1, h2, h3, h4, h5, h6, h7, h8, h9⟩ := hI
        have lo : ∀ a i, ¬ a = 66 → ¬ a = 67 → r1 a i = r a i := fun a i n1 n2 => g1 a i n2 (by omega)
        refine ⟨h1, h2, CST_of h3 (fun a i ha => g1 a i (by unfold CSX at ha; omega) (by unfold CSX at ha; omega)), ?_, ?_, fun j j0 j1 => ?_, ?_, ?_, fun d d0 d1 => ?_⟩
        · rw [lo 0 11 (by decide) (by decide), lo 0 12 (by decide) (by decide)]; exact h4
        · exact ⟨by omega, g2⟩
        · rw [lo 68 j (by decide) (by decide)]; exact h6 j j0 j1
        · rw [lo 0 13 (by decide) (by decide), show r1 1 = r 1 from funext (fun i => lo 1 i (by decide) (by decide))]; exact h7
        · rw [lo 0 14 (by decide) (by decide)]; exact h8
        · rw [lo 2 d (by decide) (by decide), lo 3 d (by decide) (by decide)]; exact h9 d d0 d1
    simp only [k97_0, k97_1, k97_2, k97_5, k97_6, k97_9, k97_12, k97_13, d107_y hc h11 hv', q_kn_n, true_implies, false_implies, not_true_eq_false, not_false_eq_true, true_and, and_true, implies_true, or_true, true_or, or_false, false_or, Int.reduceEq, Int.one_ne_zero, Nat.reduceEqDiff]
    rcases hab with rfl | rfl
    · rw [if_pos rfl] at kq fin
      simp only [true_implies, false_implies, not_true_eq_false, not_false_eq_true, true_and, and_true, implies_true, or_true, true_or, or_false, false_or, Int.reduceEq, Int.one_ne_zero, Nat.reduceEqDiff, k97_16, k97_17, k97_20, k97_21, k97_22, k97_23, k97_24, NS_lo hc, NS_g hc, NS_f hc, NS_u hc, NS_uf hc, Nat.reduceLT, Nat.reduceLeDiff, Nat.reduceEqDiff, not_false_eq_true, qt_1, ql_1, qt_2, ql_2, qt_3, ql_3, qt_6, ql_6, qt_7, ql_7, qt_8, ql_8, qt_10, ql_10, qt_11, ql_11, qt_12, ql_12, qt_13, ql_13, qt_14, ql_14, qt_15, ql_15, qt_16, ql_16, qt_17, ql_17, qt_18, ql_18, qt_19, ql_19, qt_20, ql_20, qt_21, ql_21, qt_22, ql_22, qt_23, ql_23, qt_24, ql_24, qt_25, ql_25, qt_26, ql_26, qt_28, ql_28, qt_29, ql_29, qt_30, ql_30, qt_31, ql_31, qt_32, ql_32, qt_33, ql_33, qt_34, ql_34, qt_35, ql_35, qt_36, ql_36, qt_37, ql_37, qt_38, ql_38, qt_40, ql_40, qt_41, ql_41, qt_42, ql_42, qt_43, ql_43, qt_44, ql_44, qt_45, ql_45, qt_46, ql_46, qt_47, ql_47, qt_48, ql_48, qt_49, ql_49, qt_50, ql_50, qt_51, ql_51, qt_52, ql_52, qt_53, ql_53, qt_54, ql_54, qt_56, ql_56, qt_57, ql_57, qt_58, ql_58, qt_59, ql_59, qt_60, ql_60, qt_61, ql_61, qt_62, ql_62, qt_63, ql_63, qt_64, ql_64, qt_65, ql_65, qt_67, ql_67, qt_68, ql_68, qt_69, ql_69, qt_70, ql_70, qt_71, ql_71, qt_73, ql_73, qt_74, ql_74, qt_75, ql_75, qt_76, ql_76, qt_78, ql_78, qt_79, ql_79, qt_80, ql_80, qt_81, ql_81, qt_82, ql_82, qt_83, ql_83, qt_84, ql_84, qt_85, ql_85, qt_86, ql_86, qt_87, ql_87, qt_89, ql_89, qt_90, ql_90, qt_91, ql_91, qt_92, ql_92, qt_93, ql_93, qt_94, ql_94, qt_95, ql_95, qt_96, ql_96, qt_97, ql_97, qt_98, ql_98, qt_99, ql_99, qt_100, ql_100, qt_101, ql_101, qt_102, ql_102, qt_103, ql_103, qt_105, ql_105, qt_106, ql_106, qt_107, ql_107, qt_108, ql_108, qt_109, ql_109, qt_110, ql_110, qt_111, ql_111, qt_113, ql_113, qt_114, ql_114, qt_115, ql_115, qt_116, ql_116, qt_117, ql_117, qt_118, ql_118, qt_119, ql_119, qt_120, ql_120, qt_121, ql_121, qt_122, ql_122, qt_123, ql_123, qt_124, ql_124, qt_125, ql_125, qt_126, ql_126, qt_127, ql_127, qt_129, ql_129, qt_130, ql_130, qt_131, ql_131, qt_132, ql_132, qt_133, ql_133, qt_134, ql_134, qt_135, ql_135, qt_137, ql_137, qt_138, ql_138, qt_139, ql_139, qt_140, ql_140, qt_141, ql_141, qt_142, ql_142, qt_143, ql_143, qt_144, ql_144, qt_145, ql_145, qt_146, ql_146, qt_147, ql_147, qt_148, ql_148, qt_149, ql_149, qt_150, ql_150, qt_151, ql_151, qt_152, ql_152, qt_153, ql_153, qt_154, ql_154, qt_155, ql_155, qt_156, ql_156, qt_157, ql_157, qt_158, ql_158, qt_159, ql_159, qt_160, ql_160, qt_161, ql_161, qt_162, ql_162, qt_163, ql_163, qt_164, ql_164, qt_165, ql_165, qt_166, ql_166, qt_167, ql_167, qt_168, ql_168, qt_169, ql_169, qt_170, ql_170, qt_171, ql_171, qt_172, ql_172, qt_173, ql_173, qt_174, ql_174, qt_175, ql_175, qt_176, ql_176, qt_177, ql_177, qt_178, ql_178, qt_179, ql_179, qt_180, ql_180, qt_181, ql_181, qt_182, ql_182, qt_183, ql_183, qt_184, ql_184, qt_185, ql_185, qt_186, ql_186, qt_187, ql_187, qt_188, ql_188, z0, z1, Nat.reduceAdd, Int.reduceLE, Int.reduceLT, hv.1, k40, e71]
      rcases shD_01 (G := GG L) (pl := pl) (V := nV L) (wo := -1) (k := k) with h | h
      · rw [h, if_pos rfl] at kq
        simp only [h, true_implies, false_implies, not_true_eq_false, not_false_eq_true, true_and, and_true, implies_true, or_true, true_or, or_false, false_or, Int.reduceEq, Int.one_ne_zero, Nat.reduceEqDiff, k97_27]
        exact kq
      · simp only [h, true_implies, false_implies, not_true_eq_false, not_false_eq_true, true_and, and_true, implies_true, or_true, true_or, or_false, false_or, Int.reduceEq, Int.one_ne_zero, Nat.reduceEqDiff]
        exact fin h
    · rw [if_neg (show ¬ (1 : Int) = 0 by decide)] at kq fin
      simp only [true_implies, false_implies, not_true_eq_false, not_false_eq_true, true_and, and_true, implies_true, or_true, true_or, or_false, false_or, Int.reduceEq, Int.one_ne_zero, Nat.reduceEqDiff, k97_16, k97_17, k97_20, k97_21, k97_22, k97_23, k97_24, NS_lo hc, NS_g hc, NS_f hc, NS_u hc, NS_uf hc, Nat.reduceLT, Nat.reduceLeDiff, Nat.reduceEqDiff, not_false_eq_true, qt_1, ql_1, qt_2, ql_2, qt_3, ql_3, qt_6, ql_6, qt_7, ql_7, qt_8, ql_8, qt_10, ql_10, qt_11, ql_11, qt_12, ql_12, qt_13, ql_13, qt_14, ql_14, qt_15, ql_15, qt_16, ql_16, qt_17, ql_17, qt_18, ql_18, qt_19, ql_19, qt_20, ql_20, qt_21, ql_21, qt_22, ql_22, qt_23, ql_23, qt_24, ql_24, qt_25, ql_25, qt_26, ql_26, qt_28, ql_28, qt_29, ql_29, qt_30, ql_30, qt_31, ql_31, qt_32, ql_32, qt_33, ql_33, qt_34, ql_34, qt_35, ql_35, qt_36, ql_36, qt_37, ql_37, qt_38, ql_38, qt_40, ql_40, qt_41, ql_41, qt_42, ql_42, qt_43, ql_43, qt_44, ql_44, qt_45, ql_45, qt_46, ql_46, qt_47, ql_47, qt_48, ql_48, qt_49, ql_49, qt_50, ql_50, qt_51, ql_51, qt_52, ql_52, qt_53, ql_53, qt_54, ql_54, qt_56, ql_56, qt_57, ql_57, qt_58, ql_58, qt_59, ql_59, qt_60, ql_60, qt_61, ql_61, qt_62, ql_62, qt_63, ql_63, qt_64, ql_64, qt_65, ql_65, qt_67, ql_67, qt_68, ql_68, qt_69, ql_69, qt_70, ql_70, qt_71, ql_71, qt_73, ql_73, qt_74, ql_74, qt_75, ql_75, qt_76, ql_76, qt_78, ql_78, qt_79, ql_79, qt_80, ql_80, qt_81, ql_81, qt_82, ql_82, qt_83, ql_83, qt_84, ql_84, qt_85, ql_85, qt_86, ql_86, qt_87, ql_87, qt_89, ql_89, qt_90, ql_90, qt_91, ql_91, qt_92, ql_92, qt_93, ql_93, qt_94, ql_94, qt_95, ql_95, qt_96, ql_96, qt_97, ql_97, qt_98, ql_98, qt_99, ql_99, qt_100, ql_100, qt_101, ql_101, qt_102, ql_102, qt_103, ql_103, qt_105, ql_105, qt_106, ql_106, qt_107, ql_107, qt_108, ql_108, qt_109, ql_109, qt_110, ql_110, qt_111, ql_111, qt_113, ql_113, qt_114, ql_114, qt_115, ql_115, qt_116, ql_116, qt_117, ql_117, qt_118, ql_118, qt_119, ql_119, qt_120, ql_120, qt_121, ql_121, qt_122, ql_122, qt_123, ql_123, qt_124, ql_124, qt_125, ql_125, qt_126, ql_126, qt_127, ql_127, qt_129, ql_129, qt_130, ql_130, qt_131, ql_131, qt_132, ql_132, qt_133, ql_133, qt_134, ql_134, qt_135, ql_135, qt_137, ql_137, qt_138, ql_138, qt_139, ql_139, qt_140, ql_140, qt_141, ql_141, qt_142, ql_142, qt_143, ql_143, qt_144, ql_144, qt_145, ql_145, qt_146, ql_146, qt_147, ql_147, qt_148, ql_148, qt_149, ql_149, qt_150, ql_150, qt_151, ql_151, qt_152, ql_152, qt_153, ql_153, qt_154, ql_154, qt_155, ql_155, qt_156, ql_156, qt_157, ql_157, qt_158, ql_158, qt_159, ql_159, qt_160, ql_160, qt_161, ql_161, qt_162, ql_162, qt_163, ql_163, qt_164, ql_164, qt_165, ql_165, qt_166, ql_166, qt_167, ql_167, qt_168, ql_168, qt_169, ql_169, qt_170, ql_170, qt_171, ql_171, qt_172, ql_172, qt_173, ql_173, qt_174, ql_174, qt_175, ql_175, qt_176, ql_176, qt_177, ql_177, qt_178, ql_178, qt_179, ql_179, qt_180, ql_180, qt_181, ql_181, qt_182, ql_182, qt_183, ql_183, qt_184, ql_184, qt_185, ql_185, qt_186, ql_186, qt_187, ql_187, qt_188, ql_188, z0, z1, Nat.reduceAdd, Int.reduceLE, Int.reduceLT, hv.1, k40, e70]
      rcases shU_01 (G := GG L) (pl := pl) (V := nV L) (wo := -1) (k := k) with h | h
      · rw [h, if_pos rfl] at kq
        simp only [h, true_implies, false_implies, not_true_eq_false, not_false_eq_true, true_and, and_true, implies_true, or_true, true_or, or_false, false_or, Int.reduceEq, Int.one_ne_zero, Nat.reduceEqDiff, k97_27]
        exact kq
      · simp only [h, true_implies, false_implies, not_true_eq_false, not_false_eq_true, true_and, and_true, implies_true, or_true, true_or, or_false, false_or, Int.reduceEq, Int.one_ne_zero, Nat.reduceEqDiff]
        exact fin h
  · rw [o_in_n hv] at kq
    have hv' : ¬ (0 ≤ k ∧ k < C 0 1) := by rw [hK]; exact hv
    simp only [k97_0, k97_1, k97_2, d107_n hc h11 hv', q_kn_e]
    exact kq
/-- end -/
theorem p100 (hI : CI c C r m L pl n f ft inp len) (kk : CPO Q bb (NS c C r) (o_end n x) m L pl (endU n x) f ft inp len) : qx sc (D + 30) 100 0 [vr 0, vi x] [] (0, 0) bb (NS c C r) Q := by
  have hc := hI.1
  obtain ⟨h13, n0, n4, hB⟩ := hI.2.2.2.2.2.2.1
  have h9 := hI.2.2.2.2.2.2.2.2
  have h14 := hI.2.2.2.2.2.2.2.1
  unfold o_end endU at kk
  by_cases h : 0 ≤ x ∧ x ≤ n
  · rw [if_pos h, if_pos h] at kk
    have n1 : ¬ x < 0 := by omega
    have n2 : ¬ n < x := by omega
    simp only [k100_0, k100_1, k100_4, k100_5, k100_6, k100_9, k100_12, k100_13, k100_14, k100_15, k100_16, k100_19, k100_20, NS_lo hc, NS_g hc, NS_f hc, NS_u hc, NS_uf hc, Nat.reduceLT, Nat.reduceLeDiff, Nat.reduceEqDiff, not_false_eq_true, true_implies, false_implies, not_true_eq_false, not_false_eq_true, true_and, and_true, implies_true, or_true, true_or, or_false, false_or, Int.reduceEq, Int.one_ne_zero, Nat.reduceEqDiff, h13, n1, n2]
    refine kk c C (q_up r 0 13 x) (CI_gen hI (fun a i ha => ?_) ⟨q_up_eq _ _ _ _, h.1, by omega, fun i i0 i1 => ?_⟩ ?_ (fun d d0 d1 => ?_)) (fun a i ha => ?_)
    · rw [q_up_app, if_neg (by unfold CSX at ha; omega)]
    · rw [q_up_ne _ _ _ _ (by decide)]; exact hB i i0 (by omega)
    · rw [q_up_ne2 _ _ _ (by decide)]; exact h14
    · rw [q_up_ne _ _ _ _ (by decide), q_up_ne _ _ _ _ (by decide)]; exact h9 d d0 d1
    · rw [NS_hi hc ha, NS_hi hc ha, q_up_ne _ _ _ _ (by omega)]
  · rw [if_neg h, if_neg h] at kk
    have kq := CPO_s hI kk
    by_cases n1 : x < 0
    · simp only [k100_0, k100_1, k100_4, k100_5, k100_6, k100_9, k100_12, k100_13, n1, true_implies, false_implies, not_true_eq_false, not_false_eq_true, true_and, and_true, implies_true, or_true, true_or, or_false, false_or, Int.reduceEq, Int.one_ne_zero, Nat.reduceEqDiff]
      exact kq
    · have n2 : n < x := by omega
      simp only [k100_0, k100_1, k100_4, k100_5, k100_6, k100_9, k100_12, k100_13, NS_lo hc, NS_g hc, NS_f hc, NS_u hc, NS_uf hc, Nat.reduceLT, Nat.reduceLeDiff, Nat.reduceEqDiff, not_false_eq_true, h13, n1, n2, true_implies, false_implies, not_true_eq_false, not_false_eq_true, true_and, and_true, implies_true, or_true, true_or, or_false, false_or, Int.reduceEq, Int.one_ne_zero, Nat.reduceEqDiff]
      exact kq
/-- input -/
theorem p104 (hI : CI c C r m L pl n f ft inp len) (kk : CPO Q bb (NS c C r) (o_inp inp a x) m L pl n f ft (inpU inp a x) len) : qx sc (D + 30) 104 0 [vr 0, vi a, vi x, vn] [] (0, 0) bb (NS c C r) Q := by
  have hc := hI.1
  have h7 := hI.2.2.2.2.2.2.1
  have h9 := hI.2.2.2.2.2.2.2.2
  have h14 := hI.2.2.2.2.2.2.2.1
  unfold o_inp inpU at kk
  by_cases ha : 0 ≤ a ∧ a < 3
  · by_cases hx : -99 ≤ x ∧ x ≤ 99
    · rw [if_pos ⟨ha, hx⟩, if_pos ⟨ha, hx⟩] at kk
      have e2 := (h9 a ha.1 (by omega)).1.1
      simp only [k104_0, k104_1, k104_2, k104_5, k104_6, k104_7, k104_10, k104_11, k104_14, k104_15, k104_16, k104_17, k104_18, k104_21, k104_22, k104_23, k104_24, k104_25, d109_y ha, d110_y hx, q_kn_n, NS_lo hc, NS_g hc, NS_f hc, NS_u hc, NS_uf hc, Nat.reduceLT, Nat.reduceLeDiff, Nat.reduceEqDiff, not_false_eq_true, qt_1, ql_1, qt_2, ql_2, qt_3, ql_3, qt_6, ql_6, qt_7, ql_7, qt_8, ql_8, qt_10, ql_10, qt_11, ql_11, qt_12, ql_12, qt_13, ql_13, qt_14, ql_14, qt_15, ql_15, qt_16, ql_16, qt_17, ql_17, qt_18, ql_18, qt_19, ql_19, qt_20, ql_20, qt_21, ql_21, qt_22, ql_22, qt_23, ql_23, qt_24, ql_24, qt_25, ql_25, qt_26, ql_26, qt_28, ql_28, qt_29, ql_29, qt_30, ql_30, qt_31, ql_31, qt_32, ql_32, qt_33, ql_33, qt_34, ql_34, qt_35, ql_35, qt_36, ql_36, qt_37, ql_37, qt_38, ql_38, qt_40, ql_40, qt_41, ql_41, qt_42, ql_42, qt_43, ql_43, qt_44, ql_44, qt_45, ql_45, qt_46, ql_46, qt_47, ql_47, qt_48, ql_48, qt_49, ql_49, qt_50, ql_50, qt_51, ql_51, qt_52, ql_52, qt_53, ql_53, qt_54, ql_54, qt_56, ql_56, qt_57, ql_57, qt_58, ql_58, qt_59, ql_59, qt_60, ql_60, qt_61, ql_61, qt_62, ql_62, qt_63, ql_63, qt_64, ql_64, qt_65, ql_65, qt_67, ql_67, qt_68, ql_68, qt_69, ql_69, qt_70, ql_70, qt_71, ql_71, qt_73, ql_73, qt_74, ql_74, qt_75, ql_75, qt_76, ql_76, qt_78, ql_78, qt_79, ql_79, qt_80, ql_80, qt_81, ql_81, qt_82, ql_82, qt_83, ql_83, qt_84, ql_84, qt_85, ql_85, qt_86, ql_86, qt_87, ql_87, qt_89, ql_89, qt_90, ql_90, qt_91, ql_91, qt_92, ql_92, qt_93, ql_93, qt_94, ql_94, qt_95, ql_95, qt_96, ql_96, qt_97, ql_97, qt_98, ql_98, qt_99, ql_99, qt_100, ql_100, qt_101, ql_101, qt_102, ql_102, qt_103, ql_103, qt_105, ql_105, qt_106, ql_106, qt_107, ql_107, qt_108, ql_108, qt_109, ql_109, qt_110, ql_110, qt_111, ql_111, qt_113, ql_113, qt_114, ql_114, qt_115, ql_115, qt_116, ql_116, qt_117, ql_117, qt_118, ql_118, qt_119, ql_119, qt_120, ql_120, qt_121, ql_121, qt_122, ql_122, qt_123, ql_123, qt_124, ql_124, qt_125, ql_125, qt_126, ql_126, qt_127, ql_127, qt_129, ql_129, qt_130, ql_130, qt_131, ql_131, qt_132, ql_132, qt_133, ql_133, qt_134, ql_134, qt_135, ql_135, qt_137, ql_137, qt_138, ql_138, qt_139, ql_139, qt_140, ql_140, qt_141, ql_141, qt_142, ql_142, qt_143, ql_143, qt_144, ql_144, qt_145, ql_145, qt_146, ql_146, qt_147, ql_147, qt_148, ql_148, qt_149, ql_149, qt_150, ql_150, qt_151, ql_151, qt_152, ql_152, qt_153, ql_153, qt_154, ql_154, qt_155, ql_155, qt_156, ql_156, qt_157, ql_157, qt_158, ql_158, qt_159, ql_159, qt_160, ql_160, qt_161, ql_161, qt_162, ql_162, qt_163, ql_163, qt_164, ql_164, qt_165, ql_165, qt_166, ql_166, qt_167, ql_167, qt_168, ql_168, qt_169, ql_169, qt_170, ql_170, qt_171, ql_171, qt_172, ql_172, qt_173, ql_173, qt_174, ql_174, qt_175, ql_175, qt_176, ql_176, qt_177, ql_177, qt_178, ql_178, qt_179, ql_179, qt_180, ql_180, qt_181, ql_181, qt_182, ql_182, qt_183, ql_183, qt_184, ql_184, qt_185, ql_185, qt_186, ql_186, qt_187, ql_187, qt_188, ql_188, true_implies, false_implies, not_true_eq_false, not_false_eq_true, true_and, and_true, implies_true, or_true, true_or, or_false, false_or, Int.reduceEq, Int.one_ne_zero, Nat.reduceEqDiff, ha.1, ha.2, e2]
      refine kk c C (q_up r 2 a x) (CI_gen hI (fun a' i ha' => ?_) ?_ ?_ (fun d d0 d1 => ?_)) (fun a' i ha' => ?_)
      · rw [q_up_app, if_neg (by unfold CSX at ha'; omega)]
      · rw [q_up_ne _ _ _ _ (by decide), show q_up r 2 a x 1 = r 1 from funext (fun i => q_up_ne _ _ _ _ (by decide))]; exact h7
      · rw [q_up_ne _ _ _ _ (by decide)]; exact h14
      · have g := h9 d d0 d1
        rw [q_up_ne _ _ _ _ (show ¬ 3 = 2 by decide), q_up_app]
        unfold iup
        by_cases e : d = a
        · rw [if_pos ⟨rfl, e⟩, if_pos e]; exact ⟨⟨rfl, g.1.2⟩, hx, g.2.2⟩
        · rw [if_neg (by omega), if_neg e]; exact g
      · rw [NS_hi hc ha', NS_hi hc ha', q_up_ne _ _ _ _ (by omega)]
    · rw [if_neg (by omega), if_neg (by omega)] at kk
      have kq := CPO_s hI kk
      simp only [k104_0, k104_1, k104_2, k104_5, k104_6, k104_7, d109_y ha, d110_n hx, q_kn_n, q_kn_e]
      exact kq
  · rw [if_neg (by omega), if_neg (by omega)] at kk
    have kq := CPO_s hI kk
    simp only [k104_0, k104_1, k104_2, d109_n ha, q_kn_e]
    exact kq
/-- length -/
theorem p105 (hI : CI c C r m L pl n f ft inp len) (kk : CPO Q bb (NS c C r) (o_len len a x) m L pl n f ft inp (lenU len a x)) : qx sc (D + 30) 105 0 [vr 0, vi a, vi x, vn] [] (0, 0) bb (NS c C r) Q := by
  have hc := hI.1
  have h7 := hI.2.2.2.2.2.2.1
  have h9 := hI.2.2.2.2.2.2.2.2
  have h14 := hI.2.2.2.2.2.2.2.1
  unfold o_len lenU at kk
  by_cases ha : 0 ≤ a ∧ a < 3
  · rw [o_in_y ha] at kk
    by_cases hx : 0 ≤ x ∧ x ≤ 40
    · rw [if_pos hx, if_pos ⟨ha, hx⟩] at kk
      have e2 := (h9 a ha.1 (by omega)).1.2
      have n1 : ¬ x < 0 := by omega
      have n2 : ¬ 40 < x := by omega
      simp only [k105_0, k105_1, k105_2, k105_5, k105_6, k105_9, k105_10, k105_12, k105_25, k105_26, k105_29, k105_30, k105_31, k105_32, k105_33, k105_36, k105_37, k105_38, k105_39, k105_40, d112_y ha, q_kn_n, NS_lo hc, NS_g hc, NS_f hc, NS_u hc, NS_uf hc, Nat.reduceLT, Nat.reduceLeDiff, Nat.reduceEqDiff, not_false_eq_true, qt_1, ql_1, qt_2, ql_2, qt_3, ql_3, qt_6, ql_6, qt_7, ql_7, qt_8, ql_8, qt_10, ql_10, qt_11, ql_11, qt_12, ql_12, qt_13, ql_13, qt_14, ql_14, qt_15, ql_15, qt_16, ql_16, qt_17, ql_17, qt_18, ql_18, qt_19, ql_19, qt_20, ql_20, qt_21, ql_21, qt_22, ql_22, qt_23, ql_23, qt_24, ql_24, qt_25, ql_25, qt_26, ql_26, qt_28, ql_28, qt_29, ql_29, qt_30, ql_30, qt_31, ql_31, qt_32, ql_32, qt_33, ql_33, qt_34, ql_34, qt_35, ql_35, qt_36, ql_36, qt_37, ql_37, qt_38, ql_38, qt_40, ql_40, qt_41, ql_41, qt_42, ql_42, qt_43, ql_43, qt_44, ql_44, qt_45, ql_45, qt_46, ql_46, qt_47, ql_47, qt_48, ql_48, qt_49, ql_49, qt_50, ql_50, qt_51, ql_51, qt_52, ql_52, qt_53, ql_53, qt_54, ql_54, qt_56, ql_56, qt_57, ql_57, qt_58, ql_58, qt_59, ql_59, qt_60, ql_60, qt_61, ql_61, qt_62, ql_62, qt_63, ql_63, qt_64, ql_64, qt_65, ql_65, qt_67, ql_67, qt_68, ql_68, qt_69, ql_69, qt_70, ql_70, qt_71, ql_71, qt_73, ql_73, qt_74, ql_74, qt_75, ql_75, qt_76, ql_76, qt_78, ql_78, qt_79, ql_79, qt_80, ql_80, qt_81, ql_81, qt_82, ql_82, qt_83, ql_83, qt_84, ql_84, qt_85, ql_85, qt_86, ql_86, qt_87, ql_87, qt_89, ql_89, qt_90, ql_90, qt_91, ql_91, qt_92, ql_92, qt_93, ql_93, qt_94, ql_94, qt_95, ql_95, qt_96, ql_96, qt_97, ql_97, qt_98, ql_98, qt_99, ql_99, qt_100, ql_100, qt_101, ql_101, qt_102, ql_102, qt_103, ql_103, qt_105, ql_105, qt_106, ql_106, qt_107, ql_107, qt_108, ql_108, qt_109, ql_109, qt_110, ql_110, qt_111, ql_111, qt_113, ql_113, qt_114, ql_114, qt_115, ql_115, qt_116, ql_116, qt_117, ql_117, qt_118, ql_118, qt_119, ql_119, qt_120, ql_120, qt_121, ql_121, qt_122, ql_122, qt_123, ql_123, qt_124, ql_124, qt_125, ql_125, qt_126, ql_126, qt_127, ql_127, qt_129, ql_129, qt_130, ql_130, qt_131, ql_131, qt_132, ql_132, qt_133, ql_133, qt_134, ql_134, qt_135, ql_135, qt_137, ql_137, qt_138, ql_138, qt_139, ql_139, qt_140, ql_140, qt_141, ql_141, qt_142, ql_142, qt_143, ql_143, qt_144, ql_144, qt_145, ql_145, qt_146, ql_146, qt_147, ql_147, qt_148, ql_148, qt_149, ql_149, qt_150, ql_150, qt_151, ql_151, qt_152, ql_152, qt_153, ql_153, qt_154, ql_154, qt_155, ql_155, qt_156, ql_156, qt_157, ql_157, qt_158, ql_158, qt_159, ql_159, qt_160, ql_160, qt_161, ql_161, qt_162, ql_162, qt_163, ql_163, qt_164, ql_164, qt_165, ql_165, qt_166, ql_166, qt_167, ql_167, qt_168, ql_168, qt_169, ql_169, qt_170, ql_170, qt_171, ql_171, qt_172, ql_172, qt_173, ql_173, qt_174, ql_174, qt_175, ql_175, qt_176, ql_176, qt_177, ql_177, qt_178, ql_178, qt_179, ql_179, qt_180, ql_180, qt_181, ql_181, qt_182, ql_182, qt_183, ql_183, qt_184, ql_184, qt_185, ql_185, qt_186, ql_186, qt_187, ql_187, qt_188, ql_188, true_implies, false_implies, not_true_eq_false, not_false_eq_true, true_and, and_true, implies_true, or_true, true_or, or_false, false_or, Int.reduceEq, Int.one_ne_zero, Nat.reduceEqDiff, ha.1, ha.2, e2, n1, n2]
      refine kk c C (q_up r 3 a x) (CI_gen hI (fun a' i ha' => ?_) ?_ ?_ (fun d d0 d1 => ?_)) (fun a' i ha' => ?_)
      · rw [q_up_app, if_neg (by unfold CSX at ha'; omega)]
      · rw [q_up_ne _ _ _ _ (by decide), show q_up r 3 a x 1 = r 1 from funext (fun i => q_up_ne _ _ _ _ (by decide))]; exact h7
      · rw [q_up_ne _ _ _ _ (by decide)]; exact h14
      · have g := h9 d d0 d1
        rw [q_up_ne _ _ _ _ (show ¬ 2 = 3 by decide), q_up_app]
        unfold iup
        by_cases e : d = a
        · rw [if_pos ⟨rfl, e⟩, if_pos e]; exact ⟨⟨g.1.1, rfl⟩, g.2.1, hx⟩
        · rw [if_neg (by omega), if_neg e]; exact g
      · rw [NS_hi hc ha', NS_hi hc ha', q_up_ne _ _ _ _ (by omega)]
    · rw [if_neg hx, if_neg (by omega)] at kk
      have kq := CPO_s hI kk
      by_cases n1 : x < 0
      · simp only [k105_0, k105_1, k105_2, k105_5, k105_6, k105_9, k105_10, k105_12, k105_15, d112_y ha, q_kn_n, n1, true_implies, false_implies, not_true_eq_false, not_false_eq_true, true_and, and_true, implies_true, or_true, true_or, or_false, false_or, Int.reduceEq, Int.one_ne_zero, Nat.reduceEqDiff]
        exact kq
      · have n2 : 40 < x := by omega
        simp only [k105_0, k105_1, k105_2, k105_5, k105_6, k105_9, k105_10, k105_12, k105_15, d112_y ha, q_kn_n, n1, n2, true_implies, false_implies, not_true_eq_false, not_false_eq_true, true_and, and_true, implies_true, or_true, true_or, or_false, false_or, Int.reduceEq, Int.one_ne_zero, Nat.reduceEqDiff]
        exact kq
  · rw [o_in_n ha, if_neg (by omega)] at kk
    have kq := CPO_s hI kk
    simp only [k105_0, k105_1, k105_2, d112_n ha, q_kn_e]
    exact kq
end CPC
