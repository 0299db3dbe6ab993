/-- one statement of walk -/
def STP (c : Nat) (C : St) (D : Nat) (p : Int → Int → Int → Int → SO) (g : NF) (dep : Nat) : Prop := ∀ (sc : Nat × (Nat → Int32)) (bb : Bool) (Q : QP) (r : St) (v s k l ar cc : Int) (lf le : V2), INN r v → 0 ≤ s → s + (p ar s k l).1.length ≤ 40 → 0 ≤ k → k + (p ar s k l).2.1.length ≤ 40 → v + (g s k l v cc ar (nz (r 40))).2.1.length ≤ 240 → TAB (SRok C) s (p ar s k l).1 → TAB (KRok C) k (p ar s k l).2.1 → (∀ r', VOC r r' v s k dep (g s k l v cc ar (nz (r 40))) → qx sc D 28 9 [vr 39, lf, le, vi dep, vi (s + (p ar s k l).1.length)] [] (0, 0) bb (NS c C r') Q) → qx sc D 28 15 [vr 39, lf, le, vi dep, vi s] [] (0, 0) bb (NS c C r) Q
section NUW
variable {D D' : Nat} {c : Nat} {C : St} {dep d : Nat} {pl : Int → Int} {t : TT}
theorem STP_b {y : SB} (hc : q_C c) (hx : VALb pl y) : STP c C (D + 3) (s_b y) (n_b y) dep := by
  intro sc bb Q r v s k l ar cc lf le hi s0 s40 k0 k40 hv hS hK kk
  have e : (s_b y ar s k l).1.length = 1 := rfl
  rw [e] at s40 kk
  exact w_b (cc := cc) (l := l) hc hx hi s0 (by omega) k0 k40 hv hS hK kk
theorem STP_if {pA pB : Int → Int → Int → Int → SO} {gA gB : NF} {kA kB : List (Int × Int)} (hc : q_C c) (hd : dep ≤ 4) (hA : CWK c C (D + 3) pA gA (dep + 1)) (hB : CWK c C (D + 3) pB gB (dep + 1)) (lA : LN pA gA) (lB : LN pB gB) (hkA : ∀ ar s k l, (pA ar s k l).1.map (fun r => (r.1.1, r.1.2.1)) = kA) (hkB : ∀ ar s k l, (pB ar s k l).1.map (fun r => (r.1.1, r.1.2.1)) = kB)
    (zA : ∀ ar s k l, ∀ x ∈ (pA ar s k l).1, x.1.1 = 0 → ¬ x.1.2.1 = -1) (zB : ∀ ar s k l, ∀ x ∈ (pB ar s k l).1, x.1.1 = 0 → ¬ x.1.2.1 = -1) (ht : VALt pl t) : STP c C (D + 5) (fun ar => s_if t (pA ar) (pB ar) ar) (n_if t (tbits (kA ++ kB) 0) gA gB) dep := by
  intro sc bb Q r v s k l ar cc lf le hi s0 s40 k0 k40 hv hS hK kk
  dsimp only at s40 k40 hS hK kk
  have es := s_if_eq (t := t) (s := s) (k := k) (l := l) (ar := ar) (pA := pA ar) (pB := pB ar) rfl rfl
  have hrow := hS
  rw [es] at hrow
  obtain ⟨⟨t2, -, -, -, -, t7, -, -, t10, t11, -⟩, -⟩ := hrow
  dsimp only at t2 t7 t10 t11
  have hle : s + ((s_if t (pA ar) (pB ar) ar s k l).1.length : Nat) = s + 1 + ((pA ar (s + 1) k l).1.length : Nat) + ((pB ar (s + 1 + ((pA ar (s + 1) k l).1.length : Nat)) (k + ((pA ar (s + 1) k l).2.1.length : Nat)) (l + ((pA ar (s + 1) k l).2.2.length : Nat))).1.length : Nat) := by
    rw [es]
    dsimp only
    rw [List.length_cons, List.length_append]
    omega
  rw [← hle] at t11
  have s1 : s < 40 := by omega
  refine n28_nc hc s0 s1 t7 ?_
  simp only [k28_45, k28_46, k28_49 hc, k28_52, k28_54, k28_55, k28_67, k28_68, k28_71 hc, k28_74, k28_76, k28_77, k28_78, k28_81, k28_82, k28_84, k28_85, NS_co, c_nn, Int.toNat_natCast, true_implies, false_implies, not_true_eq_false, not_false_eq_true, true_and, and_true, implies_true, or_true, true_or, or_false, false_or, Int.reduceEq, Int.one_ne_zero, Nat.reduceEqDiff, qtc_2 hc, qlc_2 hc, NS_g (j := 2) hc (by decide), t2, s0, s1]
  refine n29 hc hd hA hB lA lB hkA hkB zA zB ht hi s0 s40 k0 k40 hv hS hK (fun r' hV => ?_)
  simp only [q_kn_n, k28_88]
  exact n28_e hc s0 s1 t11 (by omega) (kk r' hV)
theorem STP_wh {pA : Int → Int → Int → Int → SO} {gA : NF} {kA : List (Int × Int)} (hc : q_C c) (hd : dep ≤ 4) (hA : CWK c C (D + 3) pA gA (dep + 1)) (lA : LN pA gA) (hkA : ∀ ar s k l, (pA ar s k l).1.map (fun r => (r.1.1, r.1.2.1)) = kA)
    (zA : ∀ ar s k l, ∀ x ∈ (pA ar s k l).1, x.1.1 = 0 → ¬ x.1.2.1 = -1) (ht : VALt pl t) : STP c C (D + 5) (fun ar s k l => s_wh t (pA l) ar s k l) (n_wh t (tbits kA 0) gA) dep := by
  intro sc bb Q r v s k l ar cc lf le hi s0 s40 k0 k40 hv hS hK kk
  dsimp only at s40 k40 hS hK kk
  have es := s_wh_eq (t := t) (s := s) (k := k) (l := l) (ar := ar) (pA := pA l) rfl
  have hrow := hS
  rw [es] at hrow
  obtain ⟨⟨t2, -, -, -, -, t7, -, -, t10, t11, -⟩, -⟩ := hrow
  dsimp only at t2 t7 t10 t11
  have hle : s + ((s_wh t (pA l) ar s k l).1.length : Nat) = s + 1 + ((pA l (s + 1) k (l + 1)).1.length : Nat) := by
    rw [es]
    dsimp only
    rw [List.length_cons]
    omega
  rw [← hle] at t11
  have s1 : s < 40 := by omega
  refine n28_nc hc s0 s1 t7 ?_
  simp only [k28_45, k28_46, k28_49 hc, k28_52, k28_54, k28_55, k28_67, k28_68, k28_71 hc, k28_74, k28_76, k28_77, k28_78, k28_91, k28_92, k28_95 hc, k28_98, k28_100, k28_101, k28_102, k28_105, k28_106, k28_108, k28_109, NS_co, c_nn, Int.toNat_natCast, true_implies, false_implies, not_true_eq_false, not_false_eq_true, true_and, and_true, implies_true, or_true, true_or, or_false, false_or, Int.reduceEq, Int.one_ne_zero, Nat.reduceEqDiff, qtc_2 hc, qlc_2 hc, NS_g (j := 2) hc (by decide), t2, s0, s1]
  refine n30 hc hd hA lA hkA zA ht hi s0 s40 k0 k40 hv hS hK (fun r' hV => ?_)
  simp only [q_kn_n]
  exact n28_e hc s0 s1 t11 (by omega) (kk r' hV)
end NUW
