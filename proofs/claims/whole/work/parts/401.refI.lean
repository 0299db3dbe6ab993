section RI
variable {sc : Nat × (Nat → Int32)} {D N : Nat} {bb : Bool} {S S0 r : St} {Q : QP} {p b ft dp s w : Int} {pl : Int → Int}
theorem m_139 {α β γ : Type} {x : PX γ} {cp : Bool → TT → β → β → α} {e0 : β} {blk : Int → Int → PX (β × Int)} {G : β → St → St} (hB : HBK sc N bb r dp w blk G) (hG : ∀ A, GF (G A)) (hG0 : ∀ S, G e0 S = S) (hw : 0 ≤ w) (hr : RH r) (hpl : PL r pl) (hx : RA r x p ft) (hs : S 136 14 = s + 1) (hs0 : 0 ≤ s) (hp : PRE 1 (w + 32) S) (hi : IV S0 S) (h0 : S0 136 14 ≤ s) (hn : (∃ a, x = .inr a) → NV S)
    (kk : ∀ S' p' b' ft', RA r (p_b x (fun _ q => p_if2 (r 139) (r 136 6) pl cp e0 blk s q)) p' ft' → (∀ y q, p_b x (fun _ q => p_if2 (r 139) (r 136 6) pl cp e0 blk s q) = .inr (y, q) → (∃ c q A, blk c q = .inr A) ∧ ∃ t A B, y.1 = cp false t A B ∧ S' = F_if2 t (G A) (G B) s S ∧ S' 136 14 = y.2) → IV S0 S' → GR 1 (w + 32) S S' → Q (.inl none) bb (RP S' r p' b' ft' dp)) :
    qx sc (N + D + 13) 139 0 [vr 136, vi s, vn, vn, vn, vn, vn, vn, vn, vn, vn, vn, vn] [] (0, 0) bb (RP S r p b ft dp) Q := by
  have hP := hp
  unfold PRE P0 at hP
  simp only [k139_0, k139_1, k139_2]
  refine m_222 hr hpl hx ⟨hs0, by omega⟩ (fun S1 p1 b1 ft1 h1 e1 t1 => ?_)
  simp only [q_kn_n, k139_5, k139_6]
  have eY : p_b x (fun _ q => p_if2 (r 139) (r 136 6) pl cp e0 blk s q) = p_b (p_b x (fun _ q => p_te (r 139) (r 136 6) pl q)) (fun t p => p_b (blk (s + 1) p) fun A p => if tk (r 139) (r 136 6) p = 259 then p_b (blk A.2 (nx (r 139) (r 136 6) p)) fun B p => .inr ((cp false t A.1 B.1, B.2), p) else .inr ((cp false t A.1 e0, A.2), p)) := by
    rw [p_b_b]; rfl
  rw [eY] at kk
  have hxr : ∀ t q, p_b x (fun _ q => p_te (r 139) (r 136 6) pl q) = .inr (t, q) → ∃ a, x = .inr a := by
    intro t q h
    rcases x with x | x
    · cases h
    · exact ⟨x, rfl⟩
  generalize p_b x (fun _ q => p_te (r 139) (r 136 6) pl q) = y at *
  have c1 : ∀ i, S1 136 i = S 136 i := fun i => t1 136 i (by omega) (by omega) (by omega)
  have i1 : IV S0 S1 := IV_TF hi h0 t1
  refine m_154 h1 (fun q eq1 eq2 => ?_) (fun t q eq1 eq2 => ?_)
  · simp only [q_kn_v, k139_9, k139_12, true_implies, false_implies, not_true_eq_false, not_false_eq_true, true_and, and_true, implies_true, or_true, true_or, or_false, false_or, Int.reduceEq, Int.one_ne_zero, Nat.reduceEqDiff]
    subst eq1
    exact kk _ _ _ _ h1 (fun y q e => by cases e) i1 (by unfold GR; simp only [c1]; omega)
  · subst eq1
    have n1 := hn (hxr t q rfl)
    obtain ⟨e1, ok1, ok2⟩ := e1 t q rfl
    have sv1 : SV s S1 := by rw [e1]; exact SV_test ok1 ok2
    have n1 : NV S1 := by rw [e1]; exact NV_test n1
    simp only [q_kn_v, k139_9, k139_13, k139_14, k139_15, true_implies, false_implies, not_true_eq_false, not_false_eq_true, true_and, and_true, implies_true, or_true, true_or, or_false, false_or, Int.reduceEq, Int.one_ne_zero, Nat.reduceEqDiff]
    rw [c177 hs0 (by omega) sv1.1 sv1.2]
    simp only [q_kn_n, k139_18, k139_19, k139_20, k139_21, k139_22]
    have hl : F_look S1 s 136 18 = S 136 18 := by rw [look_ne (by decide), c1]
    rw [c172 (by omega) (by omega)]
    simp only [q_kn_v, k139_25, k139_26, k139_27, k139_28, k139_29, k139_30]
    have htest : F_lay (F_look S1 s) 0 s 0 136 18 = S 136 18 + 1 := by rw [F_lay_18, hl]
    rw [c172 (by omega) (by omega)]
    simp only [q_kn_v, k139_33, k139_34, k139_35]
    have i2 : IV S0 (F_lay (F_lay (F_look S1 s) 0 s 0) 5 s 0) := IV_lay (IV_lay (IV_look i1 h0))
    have c2 : ∀ i, ¬ i = 18 → F_lay (F_lay (F_look S1 s) 0 s 0) 5 s 0 136 i = S 136 i := fun i h => by rw [F_lay_f h, F_lay_f h, look_ne (by decide), c1]
    have c2k : F_lay (F_lay (F_look S1 s) 0 s 0) 5 s 0 136 18 = S 136 18 + 2 := by rw [F_lay_18, F_lay_18, hl]; omega
    have n2 : NV (F_lay (F_lay (F_look S1 s) 0 s 0) 5 s 0) := NV_lay (NV_lay (NV_look n1))
    have sv2 : SV s (F_lay (F_lay (F_look S1 s) 0 s 0) 5 s 0) := SV_of sv1 (fun i _ => by simp only [F_lay_ne, F_lay_f, F_lay_18, F_mk_ne, F_mk_f, F_mk_15, q_up_eq, q_up_ne, q_up_ne2, q_upf_ne, q_upf_eq, not_false_eq_true, Nat.reduceEqDiff, Int.reduceEq, look_ne (S := S1) (s := s) (i := i) (show ¬ 165 = 167 by decide), look_ne (S := S1) (s := s) (i := i) (show ¬ 166 = 167 by decide), and_self])
    generalize hS2 : F_lay (F_lay (F_look S1 s) 0 s 0) 5 s 0 = S2 at *
    generalize htt : F_lay (F_look S1 s) 0 s 0 136 18 = test at *
    have c2a := c2 51 (by decide)
    have c2b := c2 15 (by decide)
    rw [c170 (by omega) (by omega)]
    simp only [q_kn_v, k139_38, k139_40, k139_41, k139_44, k139_46, k139_47, k139_48, k139_49, RP_14]
    have c3 : ∀ i, ¬ i = 18 → ¬ i = 51 → F_keep S2 136 i = S 136 i := fun i a1 a2 => by rw [keep_f a2, c2 i a1]
    have c3k : F_keep S2 136 18 = S 136 18 + 2 := by rw [keep_f (by decide), c2k]
    have c3a : F_keep S2 136 51 = S 136 51 + 8 := by rw [keep_51, c2a]
    have c3b := c3 15 (by decide) (by decide)
    have sv3 : SV s (F_keep S2) := SV_of sv2 (fun i _ => ⟨keep_ne (by decide) (by decide), keep_ne (by decide) (by decide)⟩)
    refine c181 hs0 (by omega) sv3.1 sv3.2 (by omega) (by omega) (by omega) (by omega) ?_
    simp only [q_kn_n, k139_52, k139_53]
    have i3 : IV S0 (F_sides (F_keep S2) s 3) := IV_sides (IV_keep i2 (by omega))
    have n3 : NV (F_sides (F_keep S2) s 3) := NV_sides (NV_keep n2) (by omega)
    have sv4 : SV s (F_sides (F_keep S2) s 3) := SV_of sv3 (fun i _ => ⟨sides_ne (by decide), sides_ne (by decide)⟩)
    have c4 : ∀ i, ¬ i = 15 → ¬ i = 18 → ¬ i = 51 → F_sides (F_keep S2) s 3 136 i = S 136 i := fun i a1 a2 a3 => by rw [sides_f a1 a2, c3 i a2 a3]
    have c4a : F_sides (F_keep S2) s 3 136 51 = S 136 51 + 8 := by rw [sides_f (by decide) (by decide), c3a]
    have c4b := sides_15 (S := F_keep S2) (s := s) (how := 3)
    have c414 := c4 14 (by decide) (by decide) (by decide)
    have c416 := c4 16 (by decide) (by decide) (by decide)
    have c417 := c4 17 (by decide) (by decide) (by decide)
    have hfirst : F_keep S2 136 14 = s + 1 := by rw [c3 14 (by decide) (by decide), hs]
    generalize hS3 : F_sides (F_keep S2) s 3 = S3 at *
    refine hB (D + 1) _ _ _ _ _ _ _ h1 (by unfold PRE P0; omega) (fun _ => n3) (fun S4 p4 b4 ft4 h4 e4 i4 g4 => ?_)
    rw [show S3 136 14 = s + 1 by omega] at h4 e4
    simp only [p_b_inr] at h4 e4
    have iS4 := IV_trans i3 i4
    have cu4 := i4.2
    unfold CU at cu4
    have g4' := g4
    unfold GR at g4
    have sv5 : SV s S4 := SV_IV sv4 i4 (by omega)
    simp only [q_kn_n, k139_56, k139_57]
    rw [c170 (by omega) (by omega)]
    simp only [q_kn_v, k139_60, k139_62, k139_63, k139_65, k139_66, k139_67]
    have k4 : F_keep S4 136 18 = S4 136 18 := keep_f (by decide)
    rw [c172 (by omega) (by omega)]
    simp only [q_kn_v, k139_70, k139_72, k139_73, k139_76, k139_77, k139_78, k139_81, k139_82, k139_83, k139_85, RP_p, RP_b, RP_ft, RP_dp, RP_n, RP_told, RP_src, RP_least, RP_14, RP_15, RP_16, RP_17, RP_18, RP_49, RP_51, RP_c142, RP_u142, RP_c143, RP_u143, RP_c144, RP_u144, RP_c145, RP_u145, RP_c146, RP_u146, RP_c147, RP_u147, RP_c148, RP_u148, RP_c149, RP_u149, RP_c150, RP_u150, RP_c151, RP_u151, RP_c152, RP_u152, RP_c153, RP_u153, RP_c154, RP_u154, RP_c155, RP_u155, RP_c156, RP_u156, RP_c157, RP_u157, RP_c158, RP_u158, RP_c159, RP_u159, RP_c160, RP_u160, RP_c161, RP_u161, RP_c162, RP_u162, RP_c163, RP_u163, RP_c164, RP_u164, RP_c165, RP_u165, RP_c166, RP_u166, RP_c167, RP_u167, RP_c168, RP_u168, RP_c169, RP_u169, RP_c170, RP_u170, RP_c171, RP_u171, RP_c172, RP_u172, RP_upp, RP_upb, RP_upft, RP_updp, RP_uptold, RP_upleast, RP_up14, RP_up15, RP_up16, RP_up17, RP_up18, RP_up49, RP_up51, qt_170, ql_170, true_implies, false_implies, not_true_eq_false, not_false_eq_true, true_and, and_true, implies_true, or_true, true_or, or_false, false_or, Int.reduceEq, Int.one_ne_zero, Nat.reduceEqDiff]
    refine ⟨by omega, ?_⟩
    rw [c220 (by omega) (by omega)]
    simp only [q_kn_n, k139_88, k139_89, k139_90, k139_91]
    have i5 : IV S0 (F_take (q_up (F_lay (F_keep S4) 7 0 0) 170 test (F_lay (F_keep S4) 7 0 0 136 18)) (S2 136 51)) := IV_take (IV_up (IV_lay (IV_keep iS4 (by omega))) (by decide) (nb18 (by have := hi.2; unfold CU at this; omega) (by decide)))
    have c5 : ∀ i, ¬ i = 18 → ¬ i = 51 → F_take (q_up (F_lay (F_keep S4) 7 0 0) 170 test (F_lay (F_keep S4) 7 0 0 136 18)) (S2 136 51) 136 i = S4 136 i := fun i a1 a2 => by rw [take_ne (by decide), q_up_ne _ _ _ _ (by decide), F_lay_f a1, keep_f a2]
    have c5k : F_take (q_up (F_lay (F_keep S4) 7 0 0) 170 test (F_lay (F_keep S4) 7 0 0 136 18)) (S2 136 51) 136 18 = S4 136 18 + 1 := by rw [take_ne (by decide), q_up_ne _ _ _ _ (by decide), F_lay_18, k4]
    have c5a : F_take (q_up (F_lay (F_keep S4) 7 0 0) 170 test (F_lay (F_keep S4) 7 0 0 136 18)) (S2 136 51) 136 51 = S4 136 51 + 8 := by rw [take_ne (by decide), q_up_ne _ _ _ _ (by decide), F_lay_f (by decide), keep_51]
    have c5b := c5 15 (by decide) (by decide)
    have r5 : ∀ c i, ¬ c = 136 → ¬ c = 168 → ¬ c = 169 → ¬ c = 170 → ¬ c = 171 → ¬ c = 172 → F_take (q_up (F_lay (F_keep S4) 7 0 0) 170 test (F_lay (F_keep S4) 7 0 0 136 18)) (S2 136 51) c i = S4 c i := fun c i a1 a2 a3 a4 a5 a6 => by rw [take_ne a5, q_up_ne _ _ _ _ a4, F_lay_ne a1 a2 a3 a4, keep_ne a1 a6]
    have r5x : ∀ i, 0 ≤ i → i ≤ 7 → F_take (q_up (F_lay (F_keep S4) 7 0 0) 170 test (F_lay (F_keep S4) 7 0 0 136 18)) (S2 136 51) 171 i = S2 171 i := by
      intro i a1 a2
      rw [take_171 a1 a2, q_up_ne _ _ _ _ (by decide), F_lay_ne (by decide) (by decide) (by decide) (by decide), keep_172, if_neg (by omega), i4.1 172 _ (by unfold bel; omega), ← hS3, sides_ne (by decide), keep_172, if_pos (by omega)]
      congr 1
      omega
    generalize hS5 : F_take (q_up (F_lay (F_keep S4) 7 0 0) 170 test (F_lay (F_keep S4) 7 0 0 136 18)) (S2 136 51) = S5 at *
    have sv6 : SV s S5 := SV_of sv5 (fun i _ => ⟨r5 165 i (by decide) (by decide) (by decide) (by decide) (by decide) (by decide), r5 166 i (by decide) (by decide) (by decide) (by decide) (by decide) (by decide)⟩)
    have n5 : NV S5 := by
      intro i a1 a2
      have := n2 i a1 a2
      rw [r5x i a1 a2, c5b]
      omega
    refine c181 hs0 (by omega) sv6.1 sv6.2 (by omega) (by omega) (by omega) (by omega) ?_
    simp only [q_kn_n, k139_94, k139_95]
    have i6 : IV S0 (F_sides S5 s 4) := IV_sides i5
    have n6 : NV (F_sides S5 s 4) := NV_sides n5 (by omega)
    have c6 : ∀ i, ¬ i = 15 → ¬ i = 18 → ¬ i = 51 → F_sides S5 s 4 136 i = S4 136 i := fun i a1 a2 a3 => by rw [sides_f a1 a2, c5 i a2 a3]
    have c6a : F_sides S5 s 4 136 51 = S4 136 51 + 8 := by rw [sides_f (by decide) (by decide), c5a]
    have c6b := sides_15 (S := S5) (s := s) (how := 4)
    have c614 := c6 14 (by decide) (by decide) (by decide)
    have c616 := c6 16 (by decide) (by decide) (by decide)
    have c617 := c6 17 (by decide) (by decide) (by decide)
    generalize hS6 : F_sides S5 s 4 = S6 at *
    have hS0 := hi.2
    unfold CU at hS0
    simp only [p_b_inr] at kk
    refine m_154 h4 (fun q4 eq4 _ => ?_) (fun A q4 eq4 _ => ?_)
    · simp only [q_kn_v, k139_98, true_implies, false_implies, not_true_eq_false, not_false_eq_true, true_and, and_true, implies_true, or_true, true_or, or_false, false_or, Int.reduceEq, Int.one_ne_zero, Nat.reduceEqDiff]
      refine m_139t h4 i6 (by omega) (by omega) (by omega) (by omega) (by omega) (by omega) (by omega) (by omega) (by omega) (by omega) (fun S' _ j1 j2 j3 j4 j5 j6 => ?_)
      rw [eq4] at kk h4
      exact kk _ _ _ _ h4 (fun y q e => by cases e) j1 (by unfold GR; omega)
    · rw [eq4] at kk h4
      simp only [p_b_inr] at kk
      obtain ⟨e4, e4c⟩ := e4 A q4 eq4
      have hP3 : P0 S3 := by unfold P0; omega
      have f4 := (hG A.1 S3 hP3).2.1
      rw [← e4] at f4
      simp only [q_kn_v, k139_98, k139_101, k139_102, k139_105, true_implies, false_implies, not_true_eq_false, not_false_eq_true, true_and, and_true, implies_true, or_true, true_or, or_false, false_or, Int.reduceEq, Int.one_ne_zero, Nat.reduceEqDiff]
      refine m_221 (c := 259) hr h4 (by decide) (fun a q5 p5 b5 e5 e6 h5 => ?_) (fun p5 b5 e5 h5 => ?_)
      · cases e5
        rw [if_pos e6] at kk
        simp only [q_kn_v, k139_108, k139_111, k139_112, true_implies, false_implies, not_true_eq_false, not_false_eq_true, true_and, and_true, implies_true, or_true, true_or, or_false, false_or, Int.reduceEq, Int.one_ne_zero, Nat.reduceEqDiff]
        refine hB (D + 1) _ _ _ _ _ _ _ h5 (by unfold PRE P0; omega) (fun _ => n6) (fun S8 p8 b8 ft8 h8 e8 i8 g8 => ?_)
        rw [show S6 136 14 = A.2 by omega] at h8 e8
        simp only [p_b_inr] at h8 e8
        simp only [q_kn_n]
        have cu8 := i8.2
        unfold CU at cu8
        unfold GR at g8
        refine m_139t h8 (IV_trans i6 i8) (by omega) (by omega) (by omega) (by omega) (by omega) (by omega) (by omega) (by omega) (by omega) (by omega) (fun S' js j1 j2 j3 j4 j5 j6 => ?_)
        have hgr : GR 1 (w + 32) S S' := by unfold GR; omega
        generalize hy8 : blk A.2 (nx (r 139) (r 136 6) q4) = y8 at *
        rcases y8 with y8 | ⟨B, z8⟩
        · exact kk _ _ _ _ h8 (fun y q e => by cases e) j1 hgr
        · simp only [p_b_inr] at kk
          refine kk _ _ _ _ h8 (fun y q e => ?_) j1 hgr
          cases e
          obtain ⟨e9, e9c⟩ := e8 B z8 rfl
          refine ⟨⟨_, _, _, eq4⟩, t, A.1, B.1, rfl, ?_, by rw [j2, e9c]⟩
          rw [js ⟨_, rfl⟩, e9]
          subst hS6 hS5
          rw [e4]
          subst hS3
          subst hS2
          rw [e1] at htt ⊢
          subst htt
          rfl
      · rw [if_neg (e5 A q4 rfl).1] at kk
        simp only [q_kn_v, k139_108, true_implies, false_implies, not_true_eq_false, not_false_eq_true, true_and, and_true, implies_true, or_true, true_or, or_false, false_or, Int.reduceEq, Int.one_ne_zero, Nat.reduceEqDiff]
        refine m_139t h5 i6 (by omega) (by omega) (by omega) (by omega) (by omega) (by omega) (by omega) (by omega) (by omega) (by omega) (fun S' js j1 j2 j3 j4 j5 j6 => ?_)
        refine kk _ _ _ _ h5 (fun y q e => ?_) j1 (by unfold GR; omega)
        cases e
        refine ⟨⟨_, _, _, eq4⟩, t, A.1, e0, rfl, ?_, by rw [j2, c614, e4c]⟩
        rw [js ⟨_, rfl⟩]
        subst hS6 hS5
        rw [e4]
        subst hS3
        subst hS2
        rw [e1] at htt ⊢
        subst htt
        unfold F_if2
        dsimp only
        rw [hG0]
end RI
