/-! what both sides stand for, and the class' answers -/
abbrev OC : Type := Int ⊕ (Nat × Int)
def ocv : OC → (Option V2 ⊕ Nat)
  | .inl x => .inl (some (vi x))
  | .inr e => .inr e.1
def ocb (bb : Bool) : OC → Bool
  | .inl _ => bb
  | .inr _ => false
def ocx : OC → Int
  | .inl x => x
  | .inr _ => 0
def oct : OC → Int
  | .inl _ => 0
  | .inr e => e.2
/-- the class stands for this -/
def CI (c : Nat) (C r : St) (m : Int) (L : List (ST 5)) (pl : Int → Int) (n : Int) (f : Int → Int) (ft : Int) (inp len : Int → Int) : Prop :=
  q_C c ∧ VALl (VALS pl 5) L ∧ CST c C r (GG L) pl (nV L) (nS L) (nK L) (nL L) ∧ (r 0 11 = c ∧ r 0 12 = ((200 - c : Nat) : Int)) ∧ ((0 ≤ r 66 5 ∧ r 66 5 ≤ m) ∧ ∀ w, 0 ≤ w → w < 240 → r 67 w ≤ r 66 5) ∧ (∀ k : Int, 0 ≤ k → k < nK L → r 68 k = -1 ∨ r 68 k = LST (GG L) pl (nV L) (nK L) (gC (GG L) k).2.1) ∧
  (r 0 13 = n ∧ 0 ≤ n ∧ n ≤ 400 ∧ BYT f (r 1) n) ∧ r 0 14 = ft ∧ (∀ d, 0 ≤ d → d ≤ 2 → (r 2 d = inp d ∧ r 3 d = len d) ∧ (-99 ≤ inp d ∧ inp d ≤ 99) ∧ (0 ≤ len d ∧ len d ≤ 40))
def CPO (Q : QP) (bb : Bool) (σ : St) (O : OC) (m : Int) (L : List (ST 5)) (pl : Int → Int) (n : Int) (f : Int → Int) (ft : Int) (inp len : Int → Int) : Prop :=
  ∀ c' C' r', CI c' C' r' m L pl n f ft inp len → (∀ a i, 136 ≤ a → NS c' C' r' a i = σ a i) → Q (ocv O) (ocb bb O) (NS c' C' r')
/-- the reference stands for this -/
def RI (σ : St) (L : List (ST 5)) (pl : Int → Int) (n : Int) (f : Int → Int) (ft : Int) (inp len : Int → Int) : Prop :=
  PRD pl L ∧ RST σ L pl ∧ (σ 136 2 = n ∧ 0 ≤ n ∧ n ≤ 400 ∧ AGR (σ 137) f n ∧ t_by f n) ∧ (0 ≤ σ 136 7 ∧ σ 136 7 ≤ 400 ∧ t_by (σ 140) (σ 136 7) ∧ ∃ cnt z, p_P (σ 140) (σ 136 7) = .inr ((pl, L, cnt), z)) ∧ σ 136 52 = ft ∧ (∀ d, 0 ≤ d → d ≤ 2 → (σ 182 d = inp d ∧ σ 181 d = len d) ∧ (-99 ≤ inp d ∧ inp d ≤ 99) ∧ (0 ≤ len d ∧ len d ≤ 40))
def RPO (Q : QP) (bb : Bool) (σ : St) (O : OC) (L : List (ST 5)) (pl : Int → Int) (n : Int) (f : Int → Int) (ft : Int) (inp len : Int → Int) : Prop :=
  ∀ σ', RI σ' L pl n f ft inp len → σ' 136 0 = oct O → (∀ a i, a < 136 ∨ a = 188 → σ' a i = σ a i) → Q (.inl (some (vi (ocx O)))) bb σ'
/-! answers -/
def o_in (x m : Int) (O : OC) : OC := if 0 ≤ x ∧ x < m then O else .inr (1, 1)
noncomputable def o_ab (L : List (ST 5)) (pl : Int → Int) (a b : Int) : OC := o_in a 3 (o_in b (nV L) (if pl a = -1 then .inr (3, 2) else .inl (enC (l_L (E_G (GG L) (q_of pl) a (-1)) (nV L) b.toNat))))
def ngC (x : Int) : Int := if x = 99999 then 99999 else -x
noncomputable def o_be (L : List (ST 5)) (pl : Int → Int) (b : Int) : OC := o_in b (nV L) (.inl (ngC (enC (l_L (E_G (GG L) (q_of pl) 3 (-1)) (nV L) b.toNat))))
def o_wh (w m : Int) (x : Int) : OC := if 0 ≤ w ∧ w ≤ m then .inl x else .inr (2, 2)
def o_st (L : List (ST 5)) (s w : Int) : OC := o_in s (nS L) (o_wh w 4 (if w = 0 then (gR (GG L) s).1.1 else if w = 1 then (gR (GG L) s).1.2.1 else if w = 2 then (gR (GG L) s).2.1.1 else if w = 3 then (gR (GG L) s).2.1.2.1 else (gR (GG L) s).2.1.2.2.1))
def o_ve (L : List (ST 5)) (v w : Int) : OC := o_in v (nV L) (o_wh w 4 (if w = 0 then (gV (GG L) v).1.1 else if w = 1 then (gV (GG L) v).1.2.1 else if w = 2 then (gV (GG L) v).1.2.2.1 else if w = 3 then (gV (GG L) v).1.2.2.2.1 else (gV (GG L) v).1.2.2.2.2))
noncomputable def o_ch (L : List (ST 5)) (pl : Int → Int) (k w : Int) : OC := o_in k (nK L) (o_wh w 8 (if w = 0 then (gK (GG L) k).1 else if w = 1 then (gK (GG L) k).2.1 else if w = 2 then (gC (GG L) k).1 else if w = 3 then shD (GG L) pl (nV L) (-1) k else if w = 4 then shU (GG L) pl (nV L) (-1) k else if w = 5 then (gdr (GG L) pl (nV L) k).1 else if w = 6 then (gdr (GG L) pl (nV L) k).2 else if w = 7 then (RT (GG L) (gC (GG L) k).1).1 else (RT (GG L) (gC (GG L) k).1).2))
noncomputable def o_lo (L : List (ST 5)) (pl : Int → Int) (l w : Int) : OC := o_in l (nL L) (o_wh w 4 (if w = 0 then (gL (GG L) l).1 else if w = 1 then (gL (GG L) l).2 else if w = 2 then l_sm (gdp (GG L) pl (nV L) l 0) (nK L) else if w = 3 then (gP (GG L) l).2 else l_sm (gdp (GG L) pl (nV L) l 1) (nK L)))
noncomputable def o_sd (L : List (ST 5)) (v w : Int) : OC := o_in v (nV L) (.inl (if w = 0 then (RT (GG L) v).1 else (RT (GG L) v).2))
noncomputable def o_ha (L : List (ST 5)) (pl : Int → Int) (k : Int) : OC := o_in k (nK L) (.inl (LST (GG L) pl (nV L) (nK L) (gC (GG L) k).2.1))
noncomputable def o_cn (L : List (ST 5)) (pl : Int → Int) (k ab x : Int) : OC := o_in k (nK L) (if (if ab = 0 then shD (GG L) pl (nV L) (-1) k else shU (GG L) pl (nV L) (-1) k) = 0 then .inr (3, 2) else .inl (chA (GG L) pl (nV L) (if ab = 0 then 3 else (gK (GG L) k).2.1) (gC (GG L) k).1 x))
noncomputable def o_co (L : List (ST 5)) (pl : Int → Int) (w : Int) : Int := if w = 0 then nS L else if w = 1 then nV L else if w = 2 then nK L else if w = 3 then nL L else if w = 4 then SHN (GG L) pl (nV L) (nK L) (-1) else if w = 5 then l_sm (fun j => shU (GG L) pl (nV L) (-1) j * shD (GG L) pl (nV L) (-1) j) (nK L) else if w = 6 then l_sm (fun j => if (gdr (GG L) pl (nV L) j).1 = -1 then 0 else 1) (nK L) else if w = 7 then bitsOf pl else if w = 8 ∨ w = 9 ∨ w = 10 then pl (w - 8) else -1
section ABS
variable {sc : Nat × (Nat → Int32)} {D : Nat} {bb : Bool} {Q : QP} {c : Nat} {C r r' σ : St} {m : Int} {L : List (ST 5)} {pl f inp len : Int → Int} {n ft a b x y k w v l s ab : Int} {O : OC}
theorem CI_low (h : CI c C r m L pl n f ft inp len) (he : ∀ a i, a < 88 → ¬ a = 39 → r' a i = r a i) : CI c C r' m L pl n f ft inp len := by
  obtain ⟨h1, h2, h3, h4, h5, h6, h7, h8, h9⟩ := h
  have e1 : ∀ i, r' 1 i = r 1 i := fun i => he 1 i (by decide) (by decide)
  refine ⟨h1, h2, CST_of h3 (fun a i ha => he a i (by unfold CSX at ha; omega) (by unfold CSX at ha; omega)), ?_, ?_, ?_, ?_, ?_, ?_⟩
  · rw [he 0 11 (by decide) (by decide), he 0 12 (by decide) (by decide)]; exact h4
  · rw [he 66 5 (by decide) (by decide)]
    exact ⟨h5.1, fun w w0 w1 => by rw [he 67 w (by decide) (by decide)]; exact h5.2 w w0 w1⟩
  · intro k k0 k1; rw [he 68 k (by decide) (by decide)]; exact h6 k k0 k1
  · rw [he 0 13 (by decide) (by decide), show r' 1 = r 1 from funext e1]; exact h7
  · rw [he 0 14 (by decide) (by decide)]; exact h8
  · intro d d0 d1; rw [he 2 d (by decide) (by decide), he 3 d (by decide) (by decide)]; exact h9 d d0 d1
theorem CI_m (h : CI c C r m L pl n f ft inp len) {m' : Int} (hm : m ≤ m') : CI c C r m' L pl n f ft inp len := by
  obtain ⟨h1, h2, h3, h4, ⟨⟨a1, a2⟩, a3⟩, h6⟩ := h
  exact ⟨h1, h2, h3, h4, ⟨⟨a1, by omega⟩, a3⟩, h6⟩
theorem CPO_s (h : CI c C r m L pl n f ft inp len) (kk : CPO Q bb (NS c C r) O m L pl n f ft inp len) : Q (ocv O) (ocb bb O) (NS c C r) := kk c C r h (fun _ _ _ => rfl)
/-! what may not be -/
theorem d112_y (h : 0 ≤ x ∧ x < 3) : qx sc D 112 0 [vr 0, vi x] [] (0, 0) bb σ Q ↔ Q (.inl none) bb σ := by
  have n1 : ¬ x < 0 := by omega
  simp only [k112_0, k112_1, k112_4, k112_5, k112_6, k112_9, k112_20, n1, h.2, true_implies, false_implies, not_true_eq_false, not_false_eq_true, true_and, and_true, implies_true, or_true, true_or, or_false, false_or, Int.reduceEq, Int.one_ne_zero, Nat.reduceEqDiff]
theorem d112_n (h : ¬ (0 ≤ x ∧ x < 3)) : qx sc D 112 0 [vr 0, vi x] [] (0, 0) bb σ Q ↔ Q (.inr 1) false σ := by
  by_cases h1 : x < 0
  · simp only [k112_0, k112_1, k112_4, k112_5, k112_6, k112_9, k112_20, h1, true_implies, false_implies, not_true_eq_false, not_false_eq_true, true_and, and_true, implies_true, or_true, true_or, or_false, false_or, Int.reduceEq, Int.one_ne_zero, Nat.reduceEqDiff]
  · have n1 : ¬ x < 3 := by omega
    simp only [k112_0, k112_1, k112_4, k112_5, k112_6, k112_9, k112_20, h1, n1, true_implies, false_implies, not_true_eq_false, not_false_eq_true, true_and, and_true, implies_true, or_true, true_or, or_false, false_or, Int.reduceEq, Int.one_ne_zero, Nat.reduceEqDiff]
theorem d108_y (h : 0 ≤ x ∧ x < 3) : qx sc D 108 0 [vr 0, vi x] [] (0, 0) bb σ Q ↔ Q (.inl none) bb σ := by
  have n1 : ¬ x < 0 := by omega
  have n2 : ¬ 2 < x := by omega
  simp only [k108_0, k108_1, k108_4, k108_5, k108_6, k108_9, k108_20, n1, n2, true_implies, false_implies, not_true_eq_false, not_false_eq_true, true_and, and_true, implies_true, or_true, true_or, or_false, false_or, Int.reduceEq, Int.one_ne_zero, Nat.reduceEqDiff]
theorem d108_n (h : ¬ (0 ≤ x ∧ x < 3)) : qx sc D 108 0 [vr 0, vi x] [] (0, 0) bb σ Q ↔ Q (.inr 0) false σ := by
  by_cases h1 : x < 0
  · simp only [k108_0, k108_1, k108_4, k108_5, k108_6, k108_9, k108_20, h1, true_implies, false_implies, not_true_eq_false, not_false_eq_true, true_and, and_true, implies_true, or_true, true_or, or_false, false_or, Int.reduceEq, Int.one_ne_zero, Nat.reduceEqDiff]
  · have n1 : 2 < x := by omega
    simp only [k108_0, k108_1, k108_4, k108_5, k108_6, k108_9, k108_20, h1, n1, true_implies, false_implies, not_true_eq_false, not_false_eq_true, true_and, and_true, implies_true, or_true, true_or, or_false, false_or, Int.reduceEq, Int.one_ne_zero, Nat.reduceEqDiff]
theorem d109_y (h : 0 ≤ x ∧ x < 3) : qx sc D 109 0 [vr 0, vi x] [] (0, 0) bb σ Q ↔ Q (.inl none) bb σ := by
  have n1 : ¬ x < 0 := by omega
  simp only [k109_0, k109_1, k109_4, k109_5, k109_6, k109_9, k109_20, n1, h.2, true_implies, false_implies, not_true_eq_false, not_false_eq_true, true_and, and_true, implies_true, or_true, true_or, or_false, false_or, Int.reduceEq, Int.one_ne_zero, Nat.reduceEqDiff]
theorem d109_n (h : ¬ (0 ≤ x ∧ x < 3)) : qx sc D 109 0 [vr 0, vi x] [] (0, 0) bb σ Q ↔ Q (.inr 0) false σ := by
  by_cases h1 : x < 0
  · simp only [k109_0, k109_1, k109_4, k109_5, k109_6, k109_9, k109_20, h1, true_implies, false_implies, not_true_eq_false, not_false_eq_true, true_and, and_true, implies_true, or_true, true_or, or_false, false_or, Int.reduceEq, Int.one_ne_zero, Nat.reduceEqDiff]
  · have n1 : ¬ x < 3 := by omega
    simp only [k109_0, k109_1, k109_4, k109_5, k109_6, k109_9, k109_20, h1, n1, true_implies, false_implies, not_true_eq_false, not_false_eq_true, true_and, and_true, implies_true, or_true, true_or, or_false, false_or, Int.reduceEq, Int.one_ne_zero, Nat.reduceEqDiff]
theorem d110_y (h : -99 ≤ x ∧ x ≤ 99) : qx sc D 110 0 [vr 0, vi x] [] (0, 0) bb σ Q ↔ Q (.inl none) bb σ := by
  have n1 : ¬ x < -99 := by omega
  have n2 : ¬ 99 < x := by omega
  simp only [k110_0, k110_1, k110_3, k110_6, k110_7, k110_9, k110_12, k110_23, n1, n2, true_implies, false_implies, not_true_eq_false, not_false_eq_true, true_and, and_true, implies_true, or_true, true_or, or_false, false_or, Int.reduceEq, Int.one_ne_zero, Nat.reduceEqDiff]
theorem d110_n (h : ¬ (-99 ≤ x ∧ x ≤ 99)) : qx sc D 110 0 [vr 0, vi x] [] (0, 0) bb σ Q ↔ Q (.inr 0) false σ := by
  by_cases h1 : x < -99
  · simp only [k110_0, k110_1, k110_3, k110_6, k110_7, k110_9, k110_12, k110_23, h1, true_implies, false_implies, not_true_eq_false, not_false_eq_true, true_and, and_true, implies_true, or_true, true_or, or_false, false_or, Int.reduceEq, Int.one_ne_zero, Nat.reduceEqDiff]
  · have n1 : 99 < x := by omega
    simp only [k110_0, k110_1, k110_3, k110_6, k110_7, k110_9, k110_12, k110_23, h1, n1, true_implies, false_implies, not_true_eq_false, not_false_eq_true, true_and, and_true, implies_true, or_true, true_or, or_false, false_or, Int.reduceEq, Int.one_ne_zero, Nat.reduceEqDiff]
theorem d114_y (hc : q_C c) (h : 0 ≤ x ∧ x < r 9 0) : qx sc D 114 0 [vr 0, vi x] [] (0, 0) bb (NS c C r) Q ↔ Q (.inl none) bb (NS c C r) := by
  have n1 : ¬ x < 0 := by omega
  simp only [k114_0, k114_1, k114_4, k114_5, k114_6, k114_9, k114_12, k114_15, k114_26, NS_lo hc, NS_g hc, NS_f hc, NS_u hc, NS_uf hc, Nat.reduceLT, Nat.reduceLeDiff, Nat.reduceEqDiff, not_false_eq_true, n1, h.2, true_implies, false_implies, not_true_eq_false, not_false_eq_true, true_and, and_true, implies_true, or_true, true_or, or_false, false_or, Int.reduceEq, Int.one_ne_zero, Nat.reduceEqDiff]
theorem d114_n (hc : q_C c) (h : ¬ (0 ≤ x ∧ x < r 9 0)) : qx sc D 114 0 [vr 0, vi x] [] (0, 0) bb (NS c C r) Q ↔ Q (.inr 1) false (NS c C r) := by
  by_cases h1 : x < 0
  · simp only [k114_0, k114_1, k114_4, k114_5, k114_6, k114_9, k114_12, k114_15, k114_26, NS_lo hc, NS_g hc, NS_f hc, NS_u hc, NS_uf hc, Nat.reduceLT, Nat.reduceLeDiff, Nat.reduceEqDiff, not_false_eq_true, h1, true_implies, false_implies, not_true_eq_false, not_false_eq_true, true_and, and_true, implies_true, or_true, true_or, or_false, false_or, Int.reduceEq, Int.one_ne_zero, Nat.reduceEqDiff]
  · have n1 : ¬ x < r 9 0 := by omega
    simp only [k114_0, k114_1, k114_4, k114_5, k114_6, k114_9, k114_12, k114_15, k114_26, NS_lo hc, NS_g hc, NS_f hc, NS_u hc, NS_uf hc, Nat.reduceLT, Nat.reduceLeDiff, Nat.reduceEqDiff, not_false_eq_true, h1, n1, true_implies, false_implies, not_true_eq_false, not_false_eq_true, true_and, and_true, implies_true, or_true, true_or, or_false, false_or, Int.reduceEq, Int.one_ne_zero, Nat.reduceEqDiff]
theorem d113_y (hc : q_C c) (h11 : r 0 11 = c) (h : 0 ≤ x ∧ x < C 0 0) : qx sc D 113 0 [vr 0, vi x] [] (0, 0) bb (NS c C r) Q ↔ Q (.inl none) bb (NS c C r) := by
  have n1 : ¬ x < 0 := by omega
  simp only [k113_0, k113_1, k113_4, k113_5, k113_6, k113_9 hc, k113_12, k113_15, k113_26, NS_lo hc, NS_g hc, NS_f hc, NS_u hc, NS_uf hc, Nat.reduceLT, Nat.reduceLeDiff, Nat.reduceEqDiff, not_false_eq_true, h11, c_nn, Int.toNat_natCast, n1, h.2, true_implies, false_implies, not_true_eq_false, not_false_eq_true, true_and, and_true, implies_true, or_true, true_or, or_false, false_or, Int.reduceEq, Int.one_ne_zero, Nat.reduceEqDiff]
theorem d113_n (hc : q_C c) (h11 : r 0 11 = c) (h : ¬ (0 ≤ x ∧ x < C 0 0)) : qx sc D 113 0 [vr 0, vi x] [] (0, 0) bb (NS c C r) Q ↔ Q (.inr 1) false (NS c C r) := by
  by_cases h1 : x < 0
  · simp only [k113_0, k113_1, k113_4, k113_5, k113_6, k113_9 hc, k113_12, k113_15, k113_26, NS_lo hc, NS_g hc, NS_f hc, NS_u hc, NS_uf hc, Nat.reduceLT, Nat.reduceLeDiff, Nat.reduceEqDiff, not_false_eq_true, h1, true_implies, false_implies, not_true_eq_false, not_false_eq_true, true_and, and_true, implies_true, or_true, true_or, or_false, false_or, Int.reduceEq, Int.one_ne_zero, Nat.reduceEqDiff]
  · have n1 : ¬ x < C 0 0 := by omega
    simp only [k113_0, k113_1, k113_4, k113_5, k113_6, k113_9 hc, k113_12, k113_15, k113_26, NS_lo hc, NS_g hc, NS_f hc, NS_u hc, NS_uf hc, Nat.reduceLT, Nat.reduceLeDiff, Nat.reduceEqDiff, not_false_eq_true, h11, c_nn, Int.toNat_natCast, h1, n1, true_implies, false_implies, not_true_eq_false, not_false_eq_true, true_and, and_true, implies_true, or_true, true_or, or_false, false_or, Int.reduceEq, Int.one_ne_zero, Nat.reduceEqDiff]
theorem d107_y (hc : q_C c) (h11 : r 0 11 = c) (h : 0 ≤ x ∧ x < C 0 1) : qx sc D 107 0 [vr 0, vi x] [] (0, 0) bb (NS c C r) Q ↔ Q (.inl none) bb (NS c C r) := by
  have n1 : ¬ x < 0 := by omega
  simp only [k107_0, k107_1, k107_4, k107_5, k107_6, k107_9 hc, k107_12, k107_15, k107_26, NS_lo hc, NS_g hc, NS_f hc, NS_u hc, NS_uf hc, Nat.reduceLT, Nat.reduceLeDiff, Nat.reduceEqDiff, not_false_eq_true, h11, c_nn, Int.toNat_natCast, n1, h.2, true_implies, false_implies, not_true_eq_false, not_false_eq_true, true_and, and_true, implies_true, or_true, true_or, or_false, false_or, Int.reduceEq, Int.one_ne_zero, Nat.reduceEqDiff]
theorem d107_n (hc : q_C c) (h11 : r 0 11 = c) (h : ¬ (0 ≤ x ∧ x < C 0 1)) : qx sc D 107 0 [vr 0, vi x] [] (0, 0) bb (NS c C r) Q ↔ Q (.inr 1) false (NS c C r) := by
  by_cases h1 : x < 0
  · simp only [k107_0, k107_1, k107_4, k107_5, k107_6, k107_9 hc, k107_12, k107_15, k107_26, NS_lo hc, NS_g hc, NS_f hc, NS_u hc, NS_uf hc, Nat.reduceLT, Nat.reduceLeDiff, Nat.reduceEqDiff, not_false_eq_true, h1, true_implies, false_implies, not_true_eq_false, not_false_eq_true, true_and, and_true, implies_true, or_true, true_or, or_false, false_or, Int.reduceEq, Int.one_ne_zero, Nat.reduceEqDiff]
  · have n1 : ¬ x < C 0 1 := by omega
    simp only [k107_0, k107_1, k107_4, k107_5, k107_6, k107_9 hc, k107_12, k107_15, k107_26, NS_lo hc, NS_g hc, NS_f hc, NS_u hc, NS_uf hc, Nat.reduceLT, Nat.reduceLeDiff, Nat.reduceEqDiff, not_false_eq_true, h11, c_nn, Int.toNat_natCast, h1, n1, true_implies, false_implies, not_true_eq_false, not_false_eq_true, true_and, and_true, implies_true, or_true, true_or, or_false, false_or, Int.reduceEq, Int.one_ne_zero, Nat.reduceEqDiff]
theorem d111_y (hc : q_C c) (h11 : r 0 11 = c) (h : 0 ≤ x ∧ x < C 0 2) : qx sc D 111 0 [vr 0, vi x] [] (0, 0) bb (NS c C r) Q ↔ Q (.inl none) bb (NS c C r) := by
  have n1 : ¬ x < 0 := by omega
  simp only [k111_0, k111_1, k111_4, k111_5, k111_6, k111_9 hc, k111_12, k111_15, k111_26, NS_lo hc, NS_g hc, NS_f hc, NS_u hc, NS_uf hc, Nat.reduceLT, Nat.reduceLeDiff, Nat.reduceEqDiff, not_false_eq_true, h11, c_nn, Int.toNat_natCast, n1, h.2, true_implies, false_implies, not_true_eq_false, not_false_eq_true, true_and, and_true, implies_true, or_true, true_or, or_false, false_or, Int.reduceEq, Int.one_ne_zero, Nat.reduceEqDiff]
theorem d111_n (hc : q_C c) (h11 : r 0 11 = c) (h : ¬ (0 ≤ x ∧ x < C 0 2)) : qx sc D 111 0 [vr 0, vi x] [] (0, 0) bb (NS c C r) Q ↔ Q (.inr 1) false (NS c C r) := by
  by_cases h1 : x < 0
  · simp only [k111_0, k111_1, k111_4, k111_5, k111_6, k111_9 hc, k111_12, k111_15, k111_26, NS_lo hc, NS_g hc, NS_f hc, NS_u hc, NS_uf hc, Nat.reduceLT, Nat.reduceLeDiff, Nat.reduceEqDiff, not_false_eq_true, h1, true_implies, false_implies, not_true_eq_false, not_false_eq_true, true_and, and_true, implies_true, or_true, true_or, or_false, false_or, Int.reduceEq, Int.one_ne_zero, Nat.reduceEqDiff]
  · have n1 : ¬ x < C 0 2 := by omega
    simp only [k111_0, k111_1, k111_4, k111_5, k111_6, k111_9 hc, k111_12, k111_15, k111_26, NS_lo hc, NS_g hc, NS_f hc, NS_u hc, NS_uf hc, Nat.reduceLT, Nat.reduceLeDiff, Nat.reduceEqDiff, not_false_eq_true, h11, c_nn, Int.toNat_natCast, h1, n1, true_implies, false_implies, not_true_eq_false, not_false_eq_true, true_and, and_true, implies_true, or_true, true_or, or_false, false_or, Int.reduceEq, Int.one_ne_zero, Nat.reduceEqDiff]
end ABS
