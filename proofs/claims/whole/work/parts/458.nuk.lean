section NUI
variable {sc : Nat × (Nat → Int32)} {D : Nat} {bb : Bool} {Q : QP} {c : Nat} {C r r' r1 r2 : St} {i v s k l x n fr how ar cc af : Int} {dep a : Nat} {pl : Int → Int} {lf le ld : V2}
theorem VOC_app' {v' s' k' : Int} {o o' : NO} (h1 : VOC r r1 v s k dep o) (h2 : VOC r1 r2 v' s' k' dep o') (hv : v' = v + o.2.1.length) (hs : s' = s + o.2.2.1.length) (hk : k' = k + o.2.2.2.1.length) : VOC r r2 v s k dep (o_app o o') := by
  subst hv hs hk
  exact VOC_app h1 h2
/-- from a statement to the next -/
theorem n28_e (hc : q_C c) (s0 : 0 ≤ s) (s1 : s < 40) (ha : C 11 s = af) (h1 : s + 1 ≤ af) (kk : qx sc D 28 9 [vr 39, lf, le, ld, vi af] [] (0, 0) bb (NS c C r) Q) : qx sc D 28 112 [vr 39, lf, le, ld, vi s] [] (0, 0) bb (NS c C r) Q := by
  have hm : max (s + 1) af = af := by omega
  simp only [k28_112, k28_114, k28_115, k28_116, k28_117, k28_120 hc, k28_123, k28_125, k28_126, k28_129, k28_131, NS_co, c_nn, Int.toNat_natCast, true_implies, false_implies, not_true_eq_false, not_false_eq_true, true_and, and_true, implies_true, or_true, true_or, or_false, false_or, Int.reduceEq, Int.one_ne_zero, Nat.reduceEqDiff, qtc_11 hc, qlc_11 hc, NS_g (j := 11) hc (by decide), ha, s0, s1, hm]
  exact ⟨by omega, kk⟩
theorem n28_nc (hc : q_C c) (s0 : 0 ≤ s) (s1 : s < 40) (ha : C 7 s = -1) (kk : qx sc D 28 45 [vr 39, lf, le, ld, vi s] [] (0, 0) bb (NS c C r) Q) : qx sc D 28 15 [vr 39, lf, le, ld, vi s] [] (0, 0) bb (NS c C r) Q := by
  simp only [k28_15, k28_16, k28_19 hc, k28_22, k28_24, k28_25, k28_26, NS_co, c_nn, Int.toNat_natCast, true_implies, false_implies, not_true_eq_false, not_false_eq_true, true_and, and_true, implies_true, or_true, true_or, or_false, false_or, Int.reduceEq, Int.one_ne_zero, Nat.reduceEqDiff, qtc_7 hc, qlc_7 hc, NS_g (j := 7) hc (by decide), ha, s0, s1]
  exact kk
theorem n28_ck (hc : q_C c) (hi : INN r v) (h1 : v < 240) (s0 : 0 ≤ s) (s1 : s < 40) (ha : C 7 s = k) (hk0 : 0 ≤ k) (hk1 : k < 40) (hx0 : 0 ≤ C 14 k) (hx1 : C 14 k ≤ 7) (kk : qx sc (D + 3) 28 45 [vr 39, lf, le, ld, vi s] [] (0, 0) bb (NS c C (C_chk C r v s k)) Q) : qx sc (D + 3) 28 15 [vr 39, lf, le, ld, vi s] [] (0, 0) bb (NS c C r) Q := by
  have hkn : ¬ k = -1 := by omega
  obtain ⟨b1, b2, b3, b4⟩ := hi
  obtain ⟨c1, c2⟩ := b3 _ hx0 hx1
  have := b4 _ c1 c2
  simp only [k28_15, k28_16, k28_19 hc, k28_22, k28_24, k28_25, k28_26, k28_29, k28_30, k28_32, k28_33, k28_36 hc, k28_39, k28_41, k28_42, NS_co, c_nn, Int.toNat_natCast, true_implies, false_implies, not_true_eq_false, not_false_eq_true, true_and, and_true, implies_true, or_true, true_or, or_false, false_or, Int.reduceEq, Int.one_ne_zero, Nat.reduceEqDiff, qtc_7 hc, qlc_7 hc, NS_g (j := 7) hc (by decide), ha, s0, s1, hkn]
  refine n24 hc b1 (by omega) h1 hk0 hk1 hx0 (by omega) c1 c2 (by omega) ?_
  simp only [q_kn_n]
  exact kk
theorem n28_va (hc : q_C c) (hi : INN r v) (h1 : v < 240) (s0 : 0 ≤ s) (s1 : s < 40) (hk : C 2 s = 0) (hx0 : 0 ≤ C 3 s) (hx1 : C 3 s ≤ 7) (hf : C 4 s = 3 → (0 ≤ C 5 s ∧ C 5 s ≤ 7) ∧ -99 ≤ C 6 s ∧ C 6 s ≤ 99) (ha : C 11 s = af) (haf : s + 1 ≤ af) (kk : qx sc (D + 3) 28 9 [vr 39, lf, le, ld, vi af] [] (0, 0) bb (NS c C (C_val C r v s)) Q) : qx sc (D + 3) 28 45 [vr 39, lf, le, ld, vi s] [] (0, 0) bb (NS c C r) Q := by
  obtain ⟨b1, b2, b3, b4⟩ := hi
  simp only [k28_45, k28_46, k28_49 hc, k28_52, k28_54, k28_55, k28_58, k28_59, k28_61, NS_co, c_nn, Int.toNat_natCast, true_implies, false_implies, not_true_eq_false, not_false_eq_true, true_and, and_true, implies_true, or_true, true_or, or_false, false_or, Int.reduceEq, Int.one_ne_zero, Nat.reduceEqDiff, qtc_2 hc, qlc_2 hc, NS_g (j := 2) hc (by decide), hk, s0, s1]
  refine n26 hc b1 (by omega) h1 s0 s1 hx0 (by omega) (fun g => ?_) ?_
  · obtain ⟨⟨f1, f2⟩, f3, f4⟩ := hf g
    obtain ⟨c1, c2⟩ := b3 _ f1 f2
    have := b4 _ c1 c2
    exact ⟨⟨f1, by omega⟩, c1, c2, by omega, by omega, by omega⟩
  · simp only [q_kn_n, k28_64]
    exact n28_e hc s0 s1 ha haf kk
theorem n28_no (hc : q_C c) (s0 : 0 ≤ s) (s1 : s < 40) (hk : C 2 s = 1 ∨ C 2 s = 2) (ha : C 11 s = af) (haf : s + 1 ≤ af) (kk : qx sc D 28 9 [vr 39, lf, le, ld, vi af] [] (0, 0) bb (NS c C r) Q) : qx sc D 28 45 [vr 39, lf, le, ld, vi s] [] (0, 0) bb (NS c C r) Q := by
  rcases hk with hk | hk <;>
  · simp only [k28_45, k28_46, k28_49 hc, k28_52, k28_54, k28_55, k28_67, k28_68, k28_71 hc, k28_74, k28_76, k28_77, k28_78, k28_91, k28_92, k28_95 hc, k28_98, k28_100, k28_101, k28_102, NS_co, c_nn, Int.toNat_natCast, true_implies, false_implies, not_true_eq_false, not_false_eq_true, true_and, and_true, implies_true, or_true, true_or, or_false, false_or, Int.reduceEq, Int.one_ne_zero, Nat.reduceEqDiff, qtc_2 hc, qlc_2 hc, NS_g (j := 2) hc (by decide), hk, s0, s1]
    exact n28_e hc s0 s1 ha haf kk
theorem w_b {y : SB} (hc : q_C c) (hx : VALb pl y) (hi : INN r v) (s0 : 0 ≤ s) (s1 : s < 40) (hk0 : 0 ≤ k) (hk1 : k + (s_b y ar s k l).2.1.length ≤ 40) (hv : v + (n_b y s k l v cc ar (nz (r 40))).2.1.length ≤ 240) (ht : TAB (SRok C) s (s_b y ar s k l).1) (hkr : TAB (KRok C) k (s_b y ar s k l).2.1)
    (kk : ∀ r', VOC r r' v s k dep (n_b y s k l v cc ar (nz (r 40))) → qx sc (D + 3) 28 9 [vr 39, lf, le, ld, vi (s + 1)] [] (0, 0) bb (NS c C r') Q) : qx sc (D + 3) 28 15 [vr 39, lf, le, ld, vi s] [] (0, 0) bb (NS c C r) Q := by
  unfold s_b at ht hkr hk1
  dsimp only at ht hkr hk1
  obtain ⟨⟨t2, t3, t4, t5, t6, t7, t8, t9, t10, t11, -⟩, -⟩ := ht
  dsimp only at t2 t3 t4 t5 t6 t7 t8 t9 t10 t11
  obtain ⟨⟨x0, x1⟩, hx⟩ := hx
  rcases hx with ⟨g, hx⟩ | ⟨g, hx⟩ | ⟨g, hx⟩
  · by_cases g4 : y.1.2.2.1 = 4
    · have h4 : y.2.1 = 1 ∧ 0 ≤ y.2.2.2 ∧ y.2.2.2 ≤ 7 := by omega
      obtain ⟨h41, h42, h43⟩ := h4
      rw [if_pos h41] at t7 hkr hk1
      obtain ⟨⟨u1, u2, u3⟩, -⟩ := hkr
      dsimp only at u1 u2 u3
      have en : n_b y s k l v cc ar (nz (r 40)) = (un (un (nz (r 40)) y.2.2.2 v) y.1.2.1 (v + 1), [v_chk y.2.2.2 s (nz (r 40) y.2.2.2) y.2.2.1, v_val y s (-1) k], [(v + 1, m_no.2)], [(nz (r 40) y.2.2.2, v, ar)], [], [(0, s, 0), (1, k, 0), (6, v, 0), (2, v + 1, 0)]) := by
        unfold n_b
        rw [if_pos g, if_pos g4]
      rw [en] at hv kk
      simp only [List.length_cons, List.length_nil] at hv hk1
      have k1 := VOC_chk (C := C) (s := s) (dep := dep) (ar := ar) (l := []) (cd := [(0, s, 0), (1, k, 0), (6, v, 0), (2, v + 1, 0)]) (M := []) (k := k) hi (by omega) (by omega) trivial
      rw [u2, u3] at k1
      have i1 : INN (C_chk C r v s k) (v + 1) := k1.2.2.2.2.2
      have e40 : nz (C_chk C r v s k 40) = un (nz (r 40)) y.2.2.2 v := k1.2.2.2.1
      have k2 := VOC_val (C := C) (r := C_chk C r v s k) (v := v + 1) (s := s) (k := k + 1) (dep := dep) (y := y) (fr := -1) (ck := k) (l := []) (cd := []) i1 t3 t4 t5 t6 (fun h => by omega) (by rw [if_neg (by omega)])
      rw [e40] at k2
      refine n28_ck hc hi (by omega) s0 s1 t7 hk0 (by omega) (by omega) (by omega) ?_
      refine n28_va hc i1 (by omega) s0 s1 (by rw [t2]; exact g) (by omega) (by omega) (fun h => by omega) t11 (Int.le_refl _) ?_
      have k12 := VOC_app' k1 k2 (by simp) (by simp) (by simp)
      exact kk _ k12
    · have h4 : y.2 = p_no := by
        rcases hx with h | h | h | h | h
        · exact h.2.2.2.2
        · exact h.2.2.2.2.2
        · exact h.2.2.2.2.2
        · exact absurd h.1 g4
        · exact h.2.2.2.2
      rw [h4, if_neg (by decide)] at t7
      have en : n_b y s k l v cc ar (nz (r 40)) = (un (nz (r 40)) y.1.2.1 v, [v_val y s (if y.1.2.2.1 = 3 then nz (r 40) y.1.2.2.2.1 else -1) k], [(v, m_no.2)], [], [], [(0, s, 0), (2, v, 0)]) := by
        unfold n_b
        rw [if_pos g, if_neg g4]
      rw [en] at hv kk
      simp only [List.length_cons, List.length_nil] at hv
      refine n28_nc hc s0 s1 t7 ?_
      refine n28_va hc hi (by omega) s0 s1 (by rw [t2]; exact g) (by omega) (by omega) (fun h => by omega) t11 (Int.le_refl _) ?_
      exact kk _ (VOC_val hi t3 t4 t5 t6 (fun h => by omega) rfl)
  · obtain ⟨j1, -, -, -, -, h41, -⟩ := hx
    rw [if_pos h41] at t7 hkr hk1
    obtain ⟨⟨u1, u2, u3⟩, -⟩ := hkr
    dsimp only at u1 u2 u3
    have en : n_b y s k l v cc ar (nz (r 40)) = (un (nz (r 40)) y.2.2.2 v, [v_chk y.2.2.2 s (nz (r 40) y.2.2.2) y.2.2.1], [m_no], [(nz (r 40) y.2.2.2, v, ar)], [], [(0, s, 0), (1, k, 0), (6, v, 0), (3, k, y.1.2.2.2.1)]) := by
      unfold n_b
      rw [if_neg (by omega), if_pos g]
    rw [en] at hv kk
    simp only [List.length_cons, List.length_nil] at hv hk1
    have k1 := VOC_chk (C := C) (s := s) (dep := dep) (ar := ar) (l := []) (cd := [(0, s, 0), (1, k, 0), (6, v, 0), (3, k, y.1.2.2.2.1)]) (M := [m_no]) (k := k) hi (by omega) (by omega) ⟨⟨fun h => absurd rfl h, fun h => absurd rfl h⟩, trivial⟩
    rw [u2, u3] at k1
    refine n28_ck hc hi (by omega) s0 s1 t7 hk0 (by omega) (by omega) (by omega) ?_
    exact n28_no hc s0 s1 (by omega) t11 (Int.le_refl _) (kk _ k1)
  · have h4 : y.2 = p_no := hx.2.2.2
    rw [h4, if_neg (by decide)] at t7
    have en : n_b y s k l v cc ar (nz (r 40)) = (nz (r 40), [], [m_no], [], [], [(0, s, 0), (4, y.1.2.1, 0)]) := by
      unfold n_b
      rw [if_neg (by omega), if_neg (by omega)]
    rw [en] at kk
    refine n28_nc hc s0 s1 t7 (n28_no hc s0 s1 (by omega) t11 (Int.le_refl _) (kk r ?_))
    exact ⟨trivial, ⟨⟨fun h => absurd rfl h, fun h => absurd rfl h⟩, trivial⟩, trivial, rfl, IVN_refl, by simpa using hi⟩
end NUI
