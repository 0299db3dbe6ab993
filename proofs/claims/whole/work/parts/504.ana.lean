/-! analyse -/
theorem TAB_IS {β : Type} {ok : Int → β → Prop} {f : Int → β} : ∀ (l : List β) (i : Int), TAB ok i l → IS f i l → ∀ j, i ≤ j → j < i + l.length → ok j (f j) := by
  intro l
  induction l with
  | nil => intro i _ _ j h1 h2; rw [List.length_nil] at h2; omega
  | cons x l ih =>
    intro i h1 h2 j h3 h4
    rw [List.length_cons] at h4
    by_cases e : j = i
    · subst e; rw [h2.1]; exact h1.1
    · exact ih (i + 1) h1.2 h2.2 j (by omega) (by omega)
/-- all that the class knows of a program -/
def CST (c : Nat) (C r : St) (G : GT) (pl : Int → Int) (V S K Ln : Nat) : Prop := PRO G pl V S K Ln ∧ CK C r G pl V S K Ln ∧ SETL r 56 G pl V (-1) ∧ r 66 3 = c ∧ (∀ j : Int, 0 ≤ j → j < K → r 70 j = shU G pl V (-1) j ∧ r 71 j = shD G pl V (-1) j) ∧ (r 66 8 = l_sm (fun j => shU G pl V (-1) j + shD G pl V (-1) j) K ∧ r 66 9 = l_sm (fun j => shU G pl V (-1) j * shD G pl V (-1) j) K) ∧
  r 72 2 = c ∧ (∀ j : Int, 0 ≤ j → j < K → r 73 j = (gdr G pl V j).1 ∧ r 74 j = (gdr G pl V j).2) ∧ r 72 8 = l_sm (fun j => if (gdr G pl V j).1 = -1 then 0 else 1) K ∧ (∀ l : Int, 0 ≤ l → l < 40 → r 75 l = l_sm (fun j => if (gdr G pl V j).1 = l then 1 else 0) K ∧ r 76 l = l_sm (fun j => if (gdr G pl V j).1 = l then 2 - shU G pl V (-1) j - shD G pl V (-1) j else 0) K) ∧ r 55 1 = c
section ANA
variable {sc : Nat × (Nat → Int32)} {D : Nat} {bb : Bool} {Q : QP} {c : Nat} {σ : St} {pl : Int → Int} {L : List (ST 5)} {cnt : Int}
theorem n95 (hc : q_C c) (h11 : σ 0 11 = c) (hP : PRG c σ pl L cnt) (hv : VALl (VALS pl 5) L) (hpl : ∀ k, k = 0 ∨ k = 1 ∨ k = 2 → -1 ≤ pl k ∧ pl k ≤ 20)
    (kk : ∀ r', CST c (COD c σ) r' (GG L) pl (VS L).length (s_P L).1.length (s_P L).2.1.length (s_P L).2.2.length → (∀ a i, a < 9 ∨ a = 67 ∨ 77 ≤ a → r' a i = σ a i) → r' 66 5 = σ 66 5 → (∀ j, 0 ≤ j → j < 40 → r' 68 j = -1) → Q (.inl none) bb (NS c (COD c σ) r')) :
    qx sc (D + 15) 95 0 [vr 0] [] (0, 0) bb σ Q := by
  obtain ⟨t1, t2, t3, c0, c1, c2, cp, e0, e40, e1, e2⟩ := hP
  have hS : (s_P L).1.length ≤ 40 := by unfold s_P; omega
  have hK : (s_P L).2.1.length ≤ (s_P L).1.length := by unfold s_P; omega
  have hL : (s_P L).2.2.length ≤ (s_P L).1.length := by unfold s_P; omega
  have hp := PRO_of hv hS hK hL hpl
  have hlen := VS_len L
  have h240 := hp.2.1.2.1
  obtain ⟨⟨s1, s2, s3⟩, -, s5, s6, -⟩ := GG_seg L
  simp only [k95_0, k95_1, k95_4, k95_5, k95_8, h11, c_nn, Int.toNat_natCast, true_implies, false_implies, not_true_eq_false, not_false_eq_true, true_and, and_true, implies_true, or_true, true_or, or_false, false_or, Int.reduceEq, Int.one_ne_zero, Nat.reduceEqDiff]
  refine n22 (D := D + 11) hc (fun r1 a1 a2 a3 a4 => ?_)
  have q11 : ∀ r : St, (∀ a i, a < 9 → r a i = σ a i) → NS c (COD c σ) r 0 11 = c := fun r h => by rw [NS_lo hc (by decide) (by decide), h 0 11 (by decide), h11]
  rw [show COD c σ 0 0 = ((s_P L).1.length : Int) from c0]
  have hw := CWK_of (c := c) (C := COD c σ) (D := D + 2 * 5 + 3) (dep := 0) (by decide) (CW_S (pl := pl) hc 5 D 0 (by decide)) L hv
  have hw1 := hw sc bb (q_kn sc (D + 11 + 3) 22 71 [vr 39, vr c, vi 8] [] (0, 0) (q_kn sc (D + 15) 95 11 [vr 0] [] (0, 0) Q)) r1 8 0 0 0 (-1) 0 a2 (by decide) (by omega) (by decide) (by omega)
  rw [a3] at hw1
  have en : n_LL 5 L 0 0 0 8 0 (-1) id8 = n_P L := rfl
  have es : s_L 5 L (-1) 0 0 0 = s_P L := rfl
  rw [en, es] at hw1
  have z : (0 : Int) + ((s_P L).1.length : Int) = ((s_P L).1.length : Int) := Int.zero_add _
  rw [z] at hw1
  refine hw1 (by omega) t1 t2 (fun r2 hV => ?_)
  obtain ⟨b1, b2, b3, b4, b5, b6⟩ := hV
  have lo2 : ∀ a i, a < 9 ∨ 55 ≤ a → r2 a i = r1 a i := fun a i ha => b5 a i (by unfold NBl; omega)
  have lo2' : ∀ a i, a < 9 ∨ 55 ≤ a → r2 a i = σ a i := fun a i ha => by rw [lo2 a i ha, a4 a i (by omega) (by omega) (by omega)]
  have ck2 : CK (COD c σ) r2 (GG L) pl (VS L).length (s_P L).1.length (s_P L).2.1.length (s_P L).2.2.length := by
    refine ⟨⟨fun i i0 i1 => TAB_IS _ 0 t1 s1 i i0 (by rw [es, z]; exact i1), fun i i0 i1 => TAB_IS _ 0 t2 s2 i i0 (by rw [es, Int.zero_add]; exact i1), fun i i0 i1 => TAB_IS _ 0 t3 s3 i i0 (by rw [es, Int.zero_add]; exact i1)⟩, ⟨c0, c1, c2⟩, fun k hk => cp k hk, ⟨fun i i0 i1 => ?_, ?_⟩, fun i i0 i1 => ?_, fun i i0 i1 => ?_⟩
    · by_cases h8 : i < 8
      · have v1 : VRokC r1 i (gV (GG L) i) := TAB_IS _ 0 a1 (GG_V L).1 i i0 (by rw [v_beg_len]; omega)
        exact VRokC_of v1 (fun a j ha hj => b5 a j (NBl_v (by omega) ha))
      · exact TAB_IS _ 8 b1 (GG_V L).2 i (by omega) (by omega)
    · rw [b6.1, hlen]; omega
    · exact TAB_IS _ 0 b2 s5 i i0 (by have := (LN_L 5 L hv (-1) 0 0 0 8 0 id8).1; rw [en, es] at this; rw [this, Int.zero_add]; exact i1)
    · exact TAB_IS _ 0 b3 s6 i i0 (by have := (LN_L 5 L hv (-1) 0 0 0 8 0 id8).2.1; rw [en, es] at this; rw [this, Int.zero_add]; exact i1)
  have g2 : NS c (COD c σ) r2 0 11 = c := q11 r2 (fun a i ha => lo2' a i (by omega))
  simp only [q_kn_n, k22_71, k95_11, k95_12, k95_15, k95_16, k95_19, k95_20, k95_23, k95_26, k95_27, g2, c_nn, Int.toNat_natCast, true_implies, false_implies, not_true_eq_false, not_false_eq_true, true_and, and_true, implies_true, or_true, true_or, or_false, false_or, Int.reduceEq, Int.one_ne_zero, Nat.reduceEqDiff]
  refine n7 (D := D + 10) hc (Or.inl rfl) hp.2.2.2.1 (CK_CV0 ck2 hp) (fun r3 d1 d2 d3 => ?_)
  have ck3 := CK_of (r' := r3) ck2 (fun a i ha => d2 a i (by omega) (by omega))
  have g3 : NS c (COD c σ) r3 0 11 = c := q11 r3 (fun a i ha => by rw [d2 a i (by omega) (by omega)]; exact lo2' a i (by omega))
  simp only [q_kn_n, k95_30, k95_31, k95_34, k95_35, k95_38, g3, c_nn, Int.toNat_natCast, true_implies, false_implies, not_true_eq_false, not_false_eq_true, true_and, and_true, implies_true, or_true, true_or, or_false, false_or, Int.reduceEq, Int.one_ne_zero, Nat.reduceEqDiff]
  refine n37 (D := D + 13) hc ck3 hp d1 (fun r4 hF => ?_)
  obtain ⟨f1, f2, f3, f4, f5, f6, f7⟩ := hF
  have ck4 := CK_of (r' := r4) ck3 (fun a i ha => f1 a i (by omega))
  have g4 : NS c (COD c σ) r4 0 11 = c := q11 r4 (fun a i ha => by rw [f1 a i (by omega), d2 a i (by omega) (by omega)]; exact lo2' a i (by omega))
  simp only [q_kn_n, k95_41, k95_42, k95_45, k95_46, k95_49, g4, c_nn, Int.toNat_natCast, true_implies, false_implies, not_true_eq_false, not_false_eq_true, true_and, and_true, implies_true, or_true, true_or, or_false, false_or, Int.reduceEq, Int.one_ne_zero, Nat.reduceEqDiff]
  refine n18 (D := D + 12) hc ck4 hp f4 (fun r5 hI => ?_)
  obtain ⟨u1, u2, u3, u4, u5, u6⟩ := hI
  simp only [q_kn_n, k95_52]
  refine kk r5 ⟨hp, CK_of ck4 (fun a i ha => u1 a i (by omega)), fun k' h1 h2 v hv => ?_, ?_, fun j j0 j1 => ?_, ⟨?_, ?_⟩, u2, u4, u5, u6, ?_⟩ (fun a i ha => ?_) ?_ (fun j j0 j1 => ?_)
  · rw [u1 _ _ (by omega), f1 _ _ (by omega)]; exact d1 k' h1 h2 v hv
  · rw [u1 _ _ (by omega)]; exact f3
  · rw [u1 _ _ (by omega), u1 _ _ (by omega)]; exact f4 j j0 j1
  · rw [u1 _ _ (by omega)]; exact f5
  · rw [u1 _ _ (by omega)]; exact f6
  · rw [u1 _ _ (by omega), f1 _ _ (by omega)]; exact d3
  · rw [u1 _ _ (by omega), f1 _ _ (by omega), d2 _ _ (by omega) (by omega)]; exact lo2' a i (by omega)
  · rw [u1 _ _ (by omega), f2 5 (by decide), d2 _ _ (by omega) (by omega)]; exact lo2' 66 5 (by omega)
  · rw [u1 _ _ (by omega)]; exact f7 j j0 j1
end ANA
