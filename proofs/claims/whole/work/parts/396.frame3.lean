section FRO
variable {S : St}
theorem GF_if {t : TT} {FA FB : St → St} (hA : GF FA) (hB : GF FB) : GF (F_if t FA FB) := by
  intro S h
  have hP := h
  unfold P0 at hP
  unfold F_if
  dsimp only
  have i1 : IV S (F_look (F_test (F_beg S 3) (S 136 14) t) (S 136 14)) := IV_look (IV_test (IV_beg IV_refl) (Int.le_refl _)) (Int.le_refl _)
  have n1 : NV S → NV (F_look (F_test (F_beg S 3) (S 136 14) t) (S 136 14)) := fun hn => NV_look (NV_test (NV_beg hn))
  have f1 : ∀ i, ¬ i = 14 → F_look (F_test (F_beg S 3) (S 136 14) t) (S 136 14) 136 i = S 136 i := by
    intro i e
    rw [look_ne (by decide), test_ne (by decide), beg_f e]
  have e171 : ∀ i, F_look (F_test (F_beg S 3) (S 136 14) t) (S 136 14) 171 i = S 171 i := by
    intro i
    rw [look_ne (by decide), test_ne (by decide)]
    simp only [F_beg, F_lay_ne, F_lay_f, F_lay_18, F_mk_ne, F_mk_f, F_mk_15, q_up_eq, q_up_ne, q_up_ne2, q_upf_ne, q_upf_eq, not_false_eq_true, Nat.reduceEqDiff, Int.reduceEq]
  generalize F_look (F_test (F_beg S 3) (S 136 14) t) (S 136 14) = S1 at *
  have e51 : F_lay (F_lay S1 0 (S 136 14) 0) 5 (S 136 14) 0 136 51 = S 136 51 := by
    simp only [F_lay_ne, F_lay_f, F_lay_18, F_mk_ne, F_mk_f, F_mk_15, q_up_eq, q_up_ne, q_up_ne2, q_upf_ne, q_upf_eq, not_false_eq_true, Nat.reduceEqDiff, Int.reduceEq]
    exact f1 51 (by decide)
  have e15 : F_lay (F_lay S1 0 (S 136 14) 0) 5 (S 136 14) 0 136 15 = S 136 15 := by
    simp only [F_lay_ne, F_lay_f, F_lay_18, F_mk_ne, F_mk_f, F_mk_15, q_up_eq, q_up_ne, q_up_ne2, q_upf_ne, q_upf_eq, not_false_eq_true, Nat.reduceEqDiff, Int.reduceEq]
    exact f1 15 (by decide)
  have e49 : F_lay (F_lay S1 0 (S 136 14) 0) 5 (S 136 14) 0 136 49 = S 136 49 := by
    simp only [F_lay_ne, F_lay_f, F_lay_18, F_mk_ne, F_mk_f, F_mk_15, q_up_eq, q_up_ne, q_up_ne2, q_upf_ne, q_upf_eq, not_false_eq_true, Nat.reduceEqDiff, Int.reduceEq]
    exact f1 49 (by decide)
  have i2 : IV S (F_lay (F_lay S1 0 (S 136 14) 0) 5 (S 136 14) 0) := IV_lay (IV_lay i1)
  have n2 : NV S → NV (F_lay (F_lay S1 0 (S 136 14) 0) 5 (S 136 14) 0) := fun hn => NV_lay (NV_lay (n1 hn))
  have e171b : ∀ i, F_lay (F_lay S1 0 (S 136 14) 0) 5 (S 136 14) 0 171 i = S 171 i := by
    intro i
    simp only [F_lay_ne, F_lay_f, F_lay_18, F_mk_ne, F_mk_f, F_mk_15, q_up_eq, q_up_ne, q_up_ne2, q_upf_ne, q_upf_eq, not_false_eq_true, Nat.reduceEqDiff, Int.reduceEq]
    exact e171 i
  have htest : S 136 18 ≤ F_lay S1 0 (S 136 14) 0 136 18 := by
    simp only [F_lay_ne, F_lay_f, F_lay_18, F_mk_ne, F_mk_f, F_mk_15, q_up_eq, q_up_ne, q_up_ne2, q_upf_ne, q_upf_eq, not_false_eq_true, Nat.reduceEqDiff, Int.reduceEq]
    have := i1.2
    unfold CU at this
    omega
  generalize F_lay S1 0 (S 136 14) 0 136 18 = test at *
  generalize F_lay (F_lay S1 0 (S 136 14) 0) 5 (S 136 14) 0 = S2 at *
  rw [e51]
  have i3 : IV S (F_sides (F_keep S2) (S 136 14) 3) := IV_sides (IV_keep i2 (by omega))
  have n3 : NV S → NV (F_sides (F_keep S2) (S 136 14) 3) := fun hn => NV_sides (NV_keep (n2 hn)) (by rw [keep_f (by decide)]; omega)
  have a3 : ∀ j, 0 ≤ j → j ≤ 7 → F_sides (F_keep S2) (S 136 14) 3 172 (S 136 51 + j) = S 171 j := by
    intro j h1 h2
    rw [sides_ne (Or.inl rfl), keep_172, e51, if_pos (by omega), e171b]
    congr 1
    omega
  have f3 : F_sides (F_keep S2) (S 136 14) 3 136 51 = S 136 51 + 8 ∧ F_sides (F_keep S2) (S 136 14) 3 136 49 = S 136 49 := by
    rw [sides_f (by decide) (by decide), keep_51, sides_f (by decide) (by decide), keep_f (by decide)]
    exact ⟨by omega, e49⟩
  generalize F_sides (F_keep S2) (S 136 14) 3 = S3 at *
  obtain ⟨iA, fA51, fA49, nA⟩ := hA S3 (P0_up h i3.2)
  have i4 := IV_trans i3 iA
  have a4 : ∀ j, 0 ≤ j → j ≤ 7 → FA S3 172 (S 136 51 + j) = S 171 j := by
    intro j h1 h2
    rw [iA.1 172 _ (by unfold bel; rw [f3.1]; omega)]
    exact a3 j h1 h2
  generalize FA S3 = S4 at *
  have f51 : S4 136 51 = S 136 51 + 8 := by rw [fA51]; exact f3.1
  have f49 : S4 136 49 = S 136 49 := by rw [fA49]; exact f3.2
  have hc4 := i4.2
  unfold CU at hc4
  have i5 : IV S (q_up (F_lay (F_keep S4) 7 0 0) 170 test (F_lay (F_keep S4) 7 0 0 136 18)) := IV_up (IV_lay (IV_keep i4 (by omega))) (by decide) (nb18 htest (by decide))
  have v5 : ∀ i, ¬ i = 51 → ¬ i = 18 → q_up (F_lay (F_keep S4) 7 0 0) 170 test (F_lay (F_keep S4) 7 0 0 136 18) 136 i = S4 136 i := by
    intro i e1 e2
    rw [q_up_ne _ _ _ _ (by decide), F_lay_f e2, keep_f e1]
  have v51 : q_up (F_lay (F_keep S4) 7 0 0) 170 test (F_lay (F_keep S4) 7 0 0 136 18) 136 51 = S 136 51 + 16 := by
    rw [q_up_ne _ _ _ _ (by decide), F_lay_f (by decide), keep_51]
    omega
  have a5 : ∀ j, 0 ≤ j → j ≤ 7 → q_up (F_lay (F_keep S4) 7 0 0) 170 test (F_lay (F_keep S4) 7 0 0 136 18) 172 (S 136 51 + j) = S 171 j := by
    intro j h1 h2
    rw [q_up_ne _ _ _ _ (by decide), F_lay_ne (by decide) (by decide) (by decide) (by decide), keep_172, if_neg (by omega)]
    exact a4 j h1 h2
  generalize q_up (F_lay (F_keep S4) 7 0 0) 170 test (F_lay (F_keep S4) 7 0 0 136 18) = S5 at *
  have i6 : IV S (F_sides (F_take S5 (S 136 51)) (S 136 14) 4) := IV_sides (IV_take i5)
  have n6 : NV S → NV (F_sides (F_take S5 (S 136 51)) (S 136 14) 4) := by
    intro hn
    refine NV_sides (fun j h1 h2 => ?_) (by rw [take_ne (by decide), v5 15 (by decide) (by decide)]; omega)
    rw [take_171 h1 h2, a5 j h1 h2, take_ne (by decide), v5 15 (by decide) (by decide)]
    have := hn j h1 h2
    omega
  have a6 : ∀ j, 0 ≤ j → j ≤ 7 → F_sides (F_take S5 (S 136 51)) (S 136 14) 4 172 (S 136 51 + j) = S 171 j := by
    intro j h1 h2
    rw [sides_ne (Or.inl rfl), take_ne (by decide)]
    exact a5 j h1 h2
  have f6 : F_sides (F_take S5 (S 136 51)) (S 136 14) 4 136 51 = S 136 51 + 16 ∧ F_sides (F_take S5 (S 136 51)) (S 136 14) 4 136 49 = S 136 49 := by
    rw [sides_f (by decide) (by decide), take_ne (by decide), sides_f (by decide) (by decide), take_ne (by decide), v5 49 (by decide) (by decide)]
    exact ⟨v51, f49⟩
  generalize F_sides (F_take S5 (S 136 51)) (S 136 14) 4 = S6 at *
  obtain ⟨iB, fB51, fB49, nB⟩ := hB S6 (P0_up h i6.2)
  have i7 := IV_trans i6 iB
  have a7 : ∀ j, 0 ≤ j → j ≤ 7 → FB S6 172 (S 136 51 + j) = S 171 j := by
    intro j h1 h2
    rw [iB.1 172 _ (by unfold bel; rw [f6.1]; omega)]
    exact a6 j h1 h2
  generalize FB S6 = S7 at *
  have g51 : S7 136 51 = S 136 51 + 16 := by rw [fB51]; exact f6.1
  have g49 : S7 136 49 = S 136 49 := by rw [fB49]; exact f6.2
  have hc7 := i7.2
  unfold CU at hc7
  have hov : S 136 18 ≤ F_keep S4 136 18 := by rw [keep_f (by decide)]; omega
  generalize F_keep S4 136 18 = over at *
  have i8 : IV S (F_take (q_up (F_keep S7) 169 over (F_keep S7 136 18)) (S 136 51)) := IV_take (IV_up (IV_keep i7 (by omega)) (by decide) (nb18 hov (by decide)))
  have n8 : NV S → NV (F_take (q_up (F_keep S7) 169 over (F_keep S7 136 18)) (S 136 51)) := by
    intro hn j h1 h2
    rw [take_171 h1 h2, q_up_ne _ _ _ _ (by decide), keep_172, if_neg (by omega), a7 j h1 h2, take_ne (by decide), q_up_ne _ _ _ _ (by decide), keep_f (by decide)]
    have := hn j h1 h2
    omega
  have f8 : ∀ i, ¬ i = 51 → F_take (q_up (F_keep S7) 169 over (F_keep S7 136 18)) (S 136 51) 136 i = S7 136 i := by
    intro i e
    rw [take_ne (by decide), q_up_ne _ _ _ _ (by decide), keep_f e]
  generalize F_take (q_up (F_keep S7) 169 over (F_keep S7 136 18)) (S 136 51) = S8 at *
  have hc8 := i8.2
  unfold CU at hc8
  generalize F_told S8 (S8 136 14 - F_keep S2 136 14).toNat (F_keep S2 136 14) 0 = set at *
  obtain ⟨j1, j2, j3, -⟩ := join_ok (s := S 136 14) (set := set) (one := S4 136 51) (other := S7 136 51) 8 0 S8 i8 (by omega)
  refine ⟨IV_upf j1 ⟨fun h => absurd h (by decide), fun h => absurd h (by decide), fun h => absurd h (by decide), fun h => absurd h (by decide), fun h => absurd h (by decide), fun _ => Int.le_refl _⟩ (by decide), q_up_eq _ _ _ _, ?_, fun hn => NV_upf (j2 (n8 hn)) (by decide)⟩
  rw [q_up_ne2 _ _ _ (by decide), j3 49 (by decide) (by decide), f8 49 (by decide)]
  exact g49
/-- a loop's rows are told -/
def F_wh0 (S : St) (t : TT) : St :=
  let s := S 136 14
  let S := F_beg S 4
  let l := S 136 17
  let S := q_up (q_up (q_up (q_up S 136 17 (l + 1)) 145 s l) 160 l s) 161 l (S 136 49)
  q_up (F_test S s t) 136 49 l
theorem wh0_ok {t : TT} (h : P0 S) : IV S (F_wh0 S t) ∧ (NV S → NV (F_wh0 S t)) ∧ F_wh0 S t 136 14 = S 136 14 + 1 ∧ F_wh0 S t 136 15 = S 136 15 ∧ F_wh0 S t 136 16 = S 136 16 ∧ F_wh0 S t 136 17 = S 136 17 + 1 ∧ F_wh0 S t 136 18 = S 136 18 ∧ F_wh0 S t 136 49 = S 136 17 ∧ F_wh0 S t 136 51 = S 136 51 ∧ F_wh0 S t 161 (S 136 17) = S 136 49 ∧ (∀ i, F_wh0 S t 171 i = S 171 i) := by
  have hP := h
  unfold P0 at hP
  unfold F_wh0
  dsimp only
  have b17 : F_beg S 4 136 17 = S 136 17 := beg_f (by decide)
  have b49 : F_beg S 4 136 49 = S 136 49 := beg_f (by decide)
  rw [b17, b49]
  have ib : IV S (F_beg S 4) := IV_beg IV_refl
  refine ⟨?_, ?_, ?_⟩
  · refine IV_upf (IV_test (IV_up (IV_up (IV_up (IV_upf ib ?_ (by decide)) (by decide) (nb14 (Int.le_refl _) (by decide))) (by decide) (nb17 (Int.le_refl _) (by decide))) (by decide) (nb17 (Int.le_refl _) (by decide))) (Int.le_refl _)) ?_ (by decide)
    · refine ⟨fun h => absurd h (by decide), fun h => absurd h (by decide), fun h => absurd h (by decide), fun _ => by omega, fun h => absurd h (by decide), fun h => absurd h (by decide)⟩
    · refine ⟨fun h => absurd h (by decide), fun h => absurd h (by decide), fun h => absurd h (by decide), fun h => absurd h (by decide), fun h => absurd h (by decide), fun h => absurd h (by decide)⟩
  · intro hn
    exact NV_upf (NV_test (NV_up (NV_up (NV_up (NV_upf (NV_beg hn) (by decide)) (by decide) (by decide)) (by decide) (by decide)) (by decide) (by decide))) (by decide)
  · have e1 : ∀ i, F_beg S 4 171 i = S 171 i := by intro i; simp only [F_beg, F_lay_ne, F_lay_f, F_lay_18, F_mk_ne, F_mk_f, F_mk_15, q_up_eq, q_up_ne, q_up_ne2, q_upf_ne, q_upf_eq, not_false_eq_true, Nat.reduceEqDiff, Int.reduceEq]
    simp only [F_lay_ne, F_lay_f, F_lay_18, F_mk_ne, F_mk_f, F_mk_15, q_up_eq, q_up_ne, q_up_ne2, q_upf_ne, q_upf_eq, not_false_eq_true, Nat.reduceEqDiff, Int.reduceEq, test_ne (show ¬ (164 ≤ 136 ∧ 136 ≤ 166) by decide), test_ne (show ¬ (164 ≤ 161 ∧ 161 ≤ 166) by decide), test_ne (show ¬ (164 ≤ 171 ∧ 171 ≤ 166) by decide), beg_14, e1]
    simp only [beg_f (S := S) (sort := 4) (show ¬ (15 : Int) = 14 by decide), beg_f (S := S) (sort := 4) (show ¬ (16 : Int) = 14 by decide), beg_f (S := S) (sort := 4) (show ¬ (18 : Int) = 14 by decide), beg_f (S := S) (sort := 4) (show ¬ (51 : Int) = 14 by decide), true_implies, false_implies, not_true_eq_false, not_false_eq_true, true_and, and_true, implies_true, or_true, true_or, or_false, false_or, Int.reduceEq, Int.one_ne_zero, Nat.reduceEqDiff]
theorem dry_ok {FA : St → St} (hA : GF FA) {S : St} (h : P0 S) : IV S (F_dry FA S).2 ∧ (NV S → NV (F_dry FA S).2) ∧ (F_dry FA S).2 136 14 = S 136 14 ∧ (F_dry FA S).2 136 15 = S 136 15 ∧ (F_dry FA S).2 136 16 = S 136 16 ∧ (F_dry FA S).2 136 17 = S 136 17 ∧ (F_dry FA S).2 136 18 = S 136 18 ∧ (F_dry FA S).2 136 49 = S 136 49 ∧ (F_dry FA S).2 136 51 = S 136 51 ∧ (∀ i, 0 ≤ i → i ≤ 7 → (F_dry FA S).2 171 i = S 171 i) := by
  have hP := h
  unfold P0 at hP
  unfold F_dry
  dsimp only
  have i1 : IV S (F_keep S) := IV_keep IV_refl (by omega)
  obtain ⟨iA, f51, f49, nA⟩ := hA (F_keep S) (P0_up h i1.2)
  have a1 : ∀ j, 0 ≤ j → j ≤ 7 → FA (F_keep S) 172 (S 136 51 + j) = S 171 j := by
    intro j h1 h2
    rw [iA.1 172 _ (by unfold bel; rw [keep_51]; omega), keep_172, if_pos (by omega)]
    congr 1
    omega
  have i2 := IV_trans i1 iA
  generalize FA (F_keep S) = S1 at *
  have key : ∀ j, 0 ≤ j → j ≤ 7 → F_take (q_up (q_up (q_up (q_up (q_up (q_up S1 136 14 (S 136 14)) 136 15 (S 136 15)) 136 16 (S 136 16)) 136 17 (S 136 17)) 136 18 (S 136 18)) 136 49 (S 136 49)) (S 136 51) 171 j = S 171 j := by
    intro j h1 h2
    rw [take_171 h1 h2]
    simp only [F_lay_ne, F_lay_f, F_lay_18, F_mk_ne, F_mk_f, F_mk_15, q_up_eq, q_up_ne, q_up_ne2, q_upf_ne, q_upf_eq, not_false_eq_true, Nat.reduceEqDiff, Int.reduceEq]
    exact a1 j h1 h2
  refine ⟨?_, ?_, ?_⟩
  · refine IV_upf (IV_take (IV_upf (IV_upf (IV_upf (IV_upf (IV_upf (IV_upf i2 ?_ (by decide)) ?_ (by decide)) ?_ (by decide)) ?_ (by decide)) ?_ (by decide)) ?_ (by decide))) ?_ (by decide) <;> refine ⟨?_, ?_, ?_, ?_, ?_, ?_⟩ <;> intro h <;> first | exact absurd h (by decide) | exact Int.le_refl _
  · intro hn j h1 h2
    rw [q_up_ne _ _ _ _ (by decide), key j h1 h2, q_up_ne2 _ _ _ (by decide), take_ne (by decide)]
    simp only [F_lay_ne, F_lay_f, F_lay_18, F_mk_ne, F_mk_f, F_mk_15, q_up_eq, q_up_ne, q_up_ne2, q_upf_ne, q_upf_eq, not_false_eq_true, Nat.reduceEqDiff, Int.reduceEq]
    exact hn j h1 h2
  · simp only [F_lay_ne, F_lay_f, F_lay_18, F_mk_ne, F_mk_f, F_mk_15, q_up_eq, q_up_ne, q_up_ne2, q_upf_ne, q_upf_eq, not_false_eq_true, Nat.reduceEqDiff, Int.reduceEq, take_ne (show ¬ 136 = 171 by decide), true_implies, false_implies, not_true_eq_false, not_false_eq_true, true_and, and_true, implies_true, or_true, true_or, or_false, false_or, Int.reduceEq, Int.one_ne_zero, Nat.reduceEqDiff]
    exact key
theorem GF_wh {t : TT} {FA : St → St} (hA : GF FA) : GF (F_wh t FA) := by
  intro S h
  have hP := h
  unfold P0 at hP
  have eq : F_wh t FA S = (let s := S 136 14
    let l := S 136 17
    let S1 := F_wh0 S t
    let set := (F_dry FA S1).1
    let S := (F_dry FA S1).2
    let S := q_up S 162 l (S 136 15)
    let S := F_lay S 8 l 0
    let head := S 136 18
    let first := S 136 15
    let S := F_round set s 8 0 S
    let S := q_up S 163 l (S 136 15 - first)
    let S := F_look (F_lay S 0 s 0) s
    let test := S 136 18
    let S := F_lay S 5 s 0
    let ahead := S 136 51
    let S := FA (F_sides (F_keep S) s 3)
    let S := F_lay S 7 head 0
    let S := F_too (S 163 l).toNat first S
    let S := q_up S 170 test (S 136 18)
    let S := F_sides (F_take S ahead) s 4
    let S := F_lay S 9 l 0
    q_up (q_up S 136 49 (S 161 l)) 136 51 ahead) := by
    unfold F_wh F_wh0
    dsimp only
    rw [beg_f (show ¬ (17 : Int) = 14 by decide)]
  rw [eq]
  dsimp only
  obtain ⟨i1, n1, w14, w15, w16, w17, w18, w49, w51, w161, w171⟩ := wh0_ok (t := t) h
  generalize F_wh0 S t = S1 at *
  obtain ⟨iD, nD, d14, d15, d16, d17, d18, d49, d51, d171⟩ := dry_ok hA (P0_up h i1.2)
  generalize (F_dry FA S1).1 = set at *
  have d161 : (F_dry FA S1).2 161 (S 136 17) = S 136 49 := by
    rw [iD.1 161 _ (by unfold bel; omega)]
    exact w161
  have i2 := IV_trans i1 iD
  have n2 : NV S → NV (F_dry FA S1).2 := fun hn => nD (n1 hn)
  generalize (F_dry FA S1).2 = S2 at *
  have i3 : IV S (F_lay (q_up S2 162 (S 136 17) (S2 136 15)) 8 (S 136 17) 0) := IV_lay (IV_up i2 (by decide) (nb17 (Int.le_refl _) (by decide)))
  have n3 : NV S → NV (F_lay (q_up S2 162 (S 136 17) (S2 136 15)) 8 (S 136 17) 0) := fun hn => NV_lay (NV_up (n2 hn) (by decide) (by decide))
  have f3 : ∀ i, ¬ i = 18 → F_lay (q_up S2 162 (S 136 17) (S2 136 15)) 8 (S 136 17) 0 136 i = S2 136 i := by
    intro i e
    rw [F_lay_f e, q_up_ne _ _ _ _ (by decide)]
  have e3 : F_lay (q_up S2 162 (S 136 17) (S2 136 15)) 8 (S 136 17) 0 161 (S 136 17) = S 136 49 := by
    simp only [F_lay_ne, F_lay_f, F_lay_18, F_mk_ne, F_mk_f, F_mk_15, q_up_eq, q_up_ne, q_up_ne2, q_upf_ne, q_upf_eq, not_false_eq_true, Nat.reduceEqDiff, Int.reduceEq]
    exact d161
  generalize F_lay (q_up S2 162 (S 136 17) (S2 136 15)) 8 (S 136 17) 0 = S3 at *
  have s15 : S3 136 15 = S 136 15 := by rw [f3 15 (by decide)]; omega
  obtain ⟨r1, r2, r3, r4, -, -, -, r8⟩ := round_ok (s := S 136 14) (set := set) 8 0 S3 i3 (by omega)
  have e4 : F_round set (S 136 14) 8 0 S3 161 (S 136 17) = S 136 49 := by rw [r8 161 _ (by decide)]; exact e3
  have n4 : NV S → NV (F_round set (S 136 14) 8 0 S3) := fun hn => r2 (n3 hn)
  have g51 : F_round set (S 136 14) 8 0 S3 136 51 = S 136 51 := by rw [r3 51 (by decide) (by decide), f3 51 (by decide)]; omega
  have g15 : S 136 15 ≤ F_round set (S 136 14) 8 0 S3 136 15 := by omega
  generalize F_round set (S 136 14) 8 0 S3 = S4 at *
  rw [s15]
  have i5 : IV S (F_look (F_lay (q_up S4 163 (S 136 17) (S4 136 15 - S 136 15)) 0 (S 136 14) 0) (S 136 14)) := IV_look (IV_lay (IV_up r1 (by decide) (nb17 (Int.le_refl _) (by decide)))) (Int.le_refl _)
  have n5 : NV S → NV (F_look (F_lay (q_up S4 163 (S 136 17) (S4 136 15 - S 136 15)) 0 (S 136 14) 0) (S 136 14)) := fun hn => NV_look (NV_lay (NV_up (n4 hn) (by decide) (by decide)))
  have e5 : F_look (F_lay (q_up S4 163 (S 136 17) (S4 136 15 - S 136 15)) 0 (S 136 14) 0) (S 136 14) 161 (S 136 17) = S 136 49 := by
    rw [look_ne (by decide)]
    simp only [F_lay_ne, F_lay_f, F_lay_18, F_mk_ne, F_mk_f, F_mk_15, q_up_eq, q_up_ne, q_up_ne2, q_upf_ne, q_upf_eq, not_false_eq_true, Nat.reduceEqDiff, Int.reduceEq]
    exact e4
  have f5 : ∀ i, ¬ i = 18 → F_look (F_lay (q_up S4 163 (S 136 17) (S4 136 15 - S 136 15)) 0 (S 136 14) 0) (S 136 14) 136 i = S4 136 i := by
    intro i e
    rw [look_ne (by decide), F_lay_f e, q_up_ne _ _ _ _ (by decide)]
  generalize F_look (F_lay (q_up S4 163 (S 136 17) (S4 136 15 - S 136 15)) 0 (S 136 14) 0) (S 136 14) = S5 at *
  have hc5 := i5.2
  unfold CU at hc5
  have e51 : F_lay S5 5 (S 136 14) 0 136 51 = S 136 51 := by rw [F_lay_f (by decide), f5 51 (by decide)]; exact g51
  rw [e51]
  have l15 : S5 136 15 = S4 136 15 := f5 15 (by decide)
  have i6 : IV S (F_sides (F_keep (F_lay S5 5 (S 136 14) 0)) (S 136 14) 3) := IV_sides (IV_keep (IV_lay i5) (by omega))
  have n6 : NV S → NV (F_sides (F_keep (F_lay S5 5 (S 136 14) 0)) (S 136 14) 3) := fun hn => NV_sides (NV_keep (NV_lay (n5 hn))) (by rw [keep_f (by decide), F_lay_f (by decide)]; omega)
  have f6 : F_sides (F_keep (F_lay S5 5 (S 136 14) 0)) (S 136 14) 3 136 51 = S 136 51 + 8 := by rw [sides_f (by decide) (by decide), keep_51]; omega
  have c6 : S5 136 15 ≤ F_sides (F_keep (F_lay S5 5 (S 136 14) 0)) (S 136 14) 3 136 15 := by
    have := (sides_15 (S := F_keep (F_lay S5 5 (S 136 14) 0)) (s := S 136 14) (how := 3)).1
    rw [keep_f (by decide), F_lay_f (by decide)] at this
    exact this
  have k6 : S 136 17 < F_sides (F_keep (F_lay S5 5 (S 136 14) 0)) (S 136 14) 3 136 17 := by
    rw [sides_f (by decide) (by decide), keep_f (by decide), F_lay_f (by decide), f5 17 (by decide), r3 17 (by decide) (by decide), f3 17 (by decide)]
    omega
  have a6 : ∀ j, 0 ≤ j → j ≤ 7 → F_sides (F_keep (F_lay S5 5 (S 136 14) 0)) (S 136 14) 3 172 (S 136 51 + j) = S5 171 j := by
    intro j h1 h2
    rw [sides_ne (Or.inl rfl), keep_172, e51, if_pos (by omega), F_lay_ne (by decide) (by decide) (by decide) (by decide)]
    congr 1
    omega
  have e6 : F_sides (F_keep (F_lay S5 5 (S 136 14) 0)) (S 136 14) 3 161 (S 136 17) = S 136 49 := by
    rw [sides_ne (by decide), keep_ne (by decide) (by decide), F_lay_ne (by decide) (by decide) (by decide) (by decide)]
    exact e5
  generalize F_sides (F_keep (F_lay S5 5 (S 136 14) 0)) (S 136 14) 3 = S6 at *
  obtain ⟨iA, fA51, -, -⟩ := hA S6 (P0_up h i6.2)
  have i7 := IV_trans i6 iA
  have a7 : ∀ j, 0 ≤ j → j ≤ 7 → FA S6 172 (S 136 51 + j) = S5 171 j := by
    intro j h1 h2
    rw [iA.1 172 _ (by unfold bel; omega)]
    exact a6 j h1 h2
  have e7 : FA S6 161 (S 136 17) = S 136 49 := by
    rw [iA.1 161 _ (by unfold bel; omega)]
    exact e6
  have c7 : S5 136 15 ≤ FA S6 136 15 := by
    have := iA.2
    unfold CU at this
    omega
  generalize FA S6 = S7 at *
  have i8 : IV S (F_lay S7 7 (S3 136 18) 0) := IV_lay i7
  have v8 : ∀ c i, ¬ c = 136 → ¬ c = 168 → ¬ c = 169 → ¬ c = 170 → F_lay S7 7 (S3 136 18) 0 c i = S7 c i := fun c i h1 h2 h3 h4 => F_lay_ne h1 h2 h3 h4
  have v8f : F_lay S7 7 (S3 136 18) 0 136 15 = S7 136 15 := F_lay_f (by decide)
  generalize F_lay S7 7 (S3 136 18) 0 = S8 at *
  obtain ⟨t1, t2⟩ := too_ok (S8 163 (S 136 17)).toNat (S 136 15) S8 i8 (Int.le_refl _)
  generalize F_too (S8 163 (S 136 17)).toNat (S 136 15) S8 = S9 at *
  have ht5 : S 136 18 ≤ S5 136 18 := by omega
  have iX : IV S (F_lay (F_sides (F_take (q_up S9 170 (S5 136 18) (S9 136 18)) (S 136 51)) (S 136 14) 4) 9 (S 136 17) 0) := IV_lay (IV_sides (IV_take (IV_up t1 (by decide) (nb18 ht5 (by decide)))))
  refine ⟨IV_upf (IV_upf iX ?_ (by decide)) ?_ (by decide), q_up_eq _ _ _ _, ?_, fun hn => NV_upf (NV_upf (NV_lay (NV_sides (fun j h1 h2 => ?_) ?_)) (by decide)) (by decide)⟩
  · refine ⟨?_, ?_, ?_, ?_, ?_, ?_⟩ <;> intro h <;> exact absurd h (by decide)
  · refine ⟨?_, ?_, ?_, ?_, ?_, ?_⟩ <;> intro h <;> first | exact absurd h (by decide) | exact Int.le_refl _
  · rw [q_up_ne2 _ _ _ (by decide), q_up_eq, F_lay_ne (by decide) (by decide) (by decide) (by decide), sides_ne (by decide), take_ne (by decide), q_up_ne _ _ _ _ (by decide), t2 161 _ (by decide), v8 161 _ (by decide) (by decide) (by decide) (by decide)]
    exact e7
  · rw [take_171 h1 h2, q_up_ne _ _ _ _ (by decide), t2 172 _ (by decide), v8 172 _ (by decide) (by decide) (by decide) (by decide), a7 j h1 h2, take_ne (by decide), q_up_ne _ _ _ _ (by decide), t2 136 _ (by decide), v8f]
    have := n5 hn j h1 h2
    omega
  · rw [take_ne (by decide), q_up_ne _ _ _ _ (by decide), t2 136 _ (by decide), v8f]
    omega
end FRO
