/-- an assignment, behind its begin -/
def F_as (S : St) (s : Int) (x : SB) : St :=
  let S1 := F_lay (q_up S 143 s x.1.2.1) 0 s 0
  let S2 := if x.1.2.2.1 = 4 then F_chk S1 s x.2.2.1 x.2.2.2 else S1
  let m := S2 136 15
  F_lay (q_up (q_up (q_up (F_mk S2 x.1.2.1 1 s (if x.1.2.2.1 = 3 then S2 171 x.1.2.2.2.1 else -1) (-1)) 152 m (if x.1.2.2.1 = 1 then 0 else if x.1.2.2.1 = 2 then 2 else if x.1.2.2.1 = 3 then 1 else if x.1.2.2.1 = 4 then 3 else 4))
    153 m (if x.1.2.2.1 = 2 ∨ x.1.2.2.1 = 3 then x.1.2.2.2.1 else if x.1.2.2.1 = 4 then S1 136 16 else -1)) 154 m (if x.1.2.2.1 = 5 then x.1.2.2.2.1 else x.1.2.2.2.2)) 2 m 0
section RG
variable {sc : Nat × (Nat → Int32)} {D : Nat} {bb : Bool} {S r : St} {Q : QP} {p b ft dp s : Int} {α : Type} {x : PX α} {pl : Int → Int}
theorem RA_map {β γ δ : Type} {Y : PX β} {g : β → Int → PX γ} {h : β → γ → δ} : RA r (p_b Y (fun a p => p_b (g a p) fun c p => .inr (h a c, p))) p ft ↔ RA r (p_b Y g) p ft := by
  rcases Y with y | ⟨a, y⟩
  · exact Iff.rfl
  · simp only [p_b_inr]
    generalize g a y = z
    rcases z with z | ⟨c, z⟩ <;> exact Iff.rfl
theorem tk_264 {q : Int} (hr : RH r) (hq : 0 ≤ q) (h : q < r 136 6) (hd : t_dg (r 139 q) = true) (e : ¬ tk (r 139) (r 136 6) q = 262) : tk (r 139) (r 136 6) q = 264 := by
  have hd2 := t_dg_iff.mp hd
  rcases tk_cases hr.2.2 hq h with ⟨k1, -⟩ | ⟨k1, k2, -⟩ | ⟨k1, -⟩ | ⟨-, k1, -⟩
  · rw [t_let_iff] at k1; omega
  · rw [k2] at e ⊢
    split at e
    · omega
    · rename_i h3; rw [if_neg h3]
  · omega
  · rw [k1] at hd; cases hd
theorem p_vl_num {q : Int} (hr : RH r) (hq : 0 ≤ q) (h : q < r 136 6) (hd : t_dg (r 139 q) = true) : p_vl (r 139) (r 136 6) pl q = p_b (p_nu (r 139) (r 136 6) 99 q) (fun v p => .inr (((1, -1, v), p_no), p)) := by
  unfold p_vl
  by_cases e : tk (r 139) (r 136 6) q = 262
  · rw [if_pos e]
  · have e2 := tk_264 hr hq h hd e
    rw [if_neg e, if_neg (by omega), if_neg (by omega), if_neg (by omega), if_neg (by omega)]
    simp only [p_nu, p_va]
    rw [if_neg (by omega), if_neg (fun h => e h.1)]
    rfl
theorem m_128 (hr : RH r) (hpl : PL r pl) (hx : RA r x p ft) (hs : 0 ≤ s ∧ s < 40) (hk : 0 ≤ S 136 16 ∧ S 136 16 < 40) (hv : 0 ≤ S 136 15 ∧ S 136 15 + 2 < 700) (hc : 0 ≤ S 136 18 ∧ S 136 18 + 5 ≤ 3000)
    (kk : ∀ S' p' b' ft', RA r (p_b x (fun _ q => p_asg (r 139) (r 136 6) pl q)) p' ft' → (∀ y q, p_b x (fun _ q => p_asg (r 139) (r 136 6) pl q) = .inr (y, q) → S' = F_as S s y) → CG 2 5 1 S S' → CH s S S' → Q (.inl none) bb (RP S' r p' b' ft' dp)) : qx sc (D + 6) 128 0 [vr 136, vi s, vn, vn, vn, vn, vn, vn, vn, vn] [] (0, 0) bb (RP S r p b ft dp) Q := by
  simp only [k128_0, k128_1]
  refine m_228 hr hx (fun v p1 b1 ft1 h1 e1 u1 u2 => ?_)
  simp only [q_kn_v, k128_4, k128_5, k128_6, k128_8]
  refine m_127 hr h1 (by decide) (by decide) (by decide) (by decide) (fun p2 b2 ft2 h2 => ?_)
  simp only [q_kn_n, k128_11, k128_12]
  have hy : p_b x (fun _ q => p_asg (r 139) (r 136 6) pl q) = p_b (p_b x (fun _ q => p_va (r 139) (r 136 6) q)) (fun v p => p_b (p_sg (r 139) (r 136 6) 61 p) fun _ p => p_b (p_vl (r 139) (r 136 6) pl p) fun w p => p_b (p_sg (r 139) (r 136 6) 59 p) fun _ p => .inr (((0, v, w.1.1, w.1.2.1, w.1.2.2), w.2), p)) := by
    rw [p_b_b]; rfl
  rw [hy] at kk
  have cg0 : CG 2 5 1 S S := by simp only [CG, true_implies, false_implies, not_true_eq_false, not_false_eq_true, true_and, and_true, implies_true, or_true, true_or, or_false, false_or, Int.reduceEq, Int.one_ne_zero, Nat.reduceEqDiff] <;> omega
  generalize p_b x (fun _ q => p_va (r 139) (r 136 6) q) = y at *
  refine m_154 h2 (fun q eq1 eq2 => ?_) (fun a2 q2 eq1 eq2 => ?_)
  · simp only [q_kn_v, k128_15, k128_18, true_implies, false_implies, not_true_eq_false, not_false_eq_true, true_and, and_true, implies_true, or_true, true_or, or_false, false_or, Int.reduceEq, Int.one_ne_zero, Nat.reduceEqDiff]
    rcases y with y | ⟨y, z⟩
    · exact kk _ _ _ _ h2 (fun e q e' => by cases e') cg0 CH_refl
    · simp only [p_b_inr] at kk h2 eq1
      rw [eq1] at kk h2
      exact kk _ _ _ _ h2 (fun e q e' => by cases e') cg0 CH_refl
  · rcases y with y | ⟨y, z⟩
    · cases eq1
    · have := e1 y z rfl
      subst this
      simp only [p_b_inr] at kk h2 eq1
      rw [eq1] at kk h2
      simp only [p_b_inr] at kk
      simp only [q_kn_v, k128_15, k128_19, k128_20, k128_23, k128_24, k128_25, k128_26, k128_27, k128_28, k128_29, k128_30, RP_p, RP_b, RP_ft, RP_dp, RP_n, RP_told, RP_src, RP_least, RP_14, RP_15, RP_16, RP_17, RP_18, RP_49, RP_51, RP_c142, RP_u142, RP_c143, RP_u143, RP_c144, RP_u144, RP_c145, RP_u145, RP_c146, RP_u146, RP_c147, RP_u147, RP_c148, RP_u148, RP_c149, RP_u149, RP_c150, RP_u150, RP_c151, RP_u151, RP_c152, RP_u152, RP_c153, RP_u153, RP_c154, RP_u154, RP_c155, RP_u155, RP_c156, RP_u156, RP_c157, RP_u157, RP_c158, RP_u158, RP_c159, RP_u159, RP_c160, RP_u160, RP_c161, RP_u161, RP_c162, RP_u162, RP_c163, RP_u163, RP_c164, RP_u164, RP_c165, RP_u165, RP_c166, RP_u166, RP_c167, RP_u167, RP_c168, RP_u168, RP_c169, RP_u169, RP_c170, RP_u170, RP_c171, RP_u171, RP_c172, RP_u172, RP_upp, RP_upb, RP_upft, RP_updp, RP_uptold, RP_upleast, RP_up14, RP_up15, RP_up16, RP_up17, RP_up18, RP_up49, RP_up51, qt_143, ql_143, true_implies, false_implies, not_true_eq_false, not_false_eq_true, true_and, and_true, implies_true, or_true, true_or, or_false, false_or, Int.reduceEq, Int.one_ne_zero, Nat.reduceEqDiff]
      refine ⟨hs, ?_⟩
      rw [c172 (by simp only [F_lay_ne, F_lay_f, F_lay_18, F_mk_ne, F_mk_f, F_mk_15, q_up_eq, q_up_ne, q_up_ne2, q_upf_ne, q_upf_eq, not_false_eq_true, Nat.reduceEqDiff, Int.reduceEq]; omega) (by simp only [F_lay_ne, F_lay_f, F_lay_18, F_mk_ne, F_mk_f, F_mk_15, q_up_eq, q_up_ne, q_up_ne2, q_upf_ne, q_upf_eq, not_false_eq_true, Nat.reduceEqDiff, Int.reduceEq]; omega)]
      simp only [q_kn_v, k128_33, k128_34, k128_35, k128_37, k128_38, k128_40, k128_41, k128_43, k128_44, q_up_eq, q_up_ne, q_up_ne2, q_upf_ne, q_upf_eq, not_false_eq_true]
      have hq2 : 0 ≤ q2 := by have := h2.2.2; rw [← this]; exact sk_0 h2.1
      -- all ways meet behind the value
      have fin : ∀ (β : Type) (Y : PX β) (W : β → (Int × Int × Int) × (Int × Int × Int)) (S2 : St) (p3 b3 ft3 sort of n : Int) (l3 : V2), RA r Y p3 ft3 → p_vl (r 139) (r 136 6) pl q2 = p_b Y (fun a p => .inr (W a, p)) → CG 1 4 1 S S2 ∧ CH s S S2 → (sort = 1 → 0 ≤ of ∧ of ≤ 7) →
          (∀ a z, Y = .inr (a, z) → F_lay (q_up (q_up (q_up (F_mk S2 v 1 s (if sort = 1 then S2 171 of else -1) (-1)) 152 (S2 136 15) sort) 153 (S2 136 15) of) 154 (S2 136 15) n) 2 (S2 136 15) 0 = F_as S s ((0, v, (W a).1.1, (W a).1.2.1, (W a).1.2.2), (W a).2)) →
          qx sc (D + 6) 128 194 [vr 136, vi s, vi v, l3, vi sort, vi of, vi n, vn, vn, vn] [] (0, 0) bb (RP S2 r p3 b3 ft3 dp) Q := by
        intro β Y W S2 p3 b3 ft3 sort of n l3 hY eY ⟨hcg, hch⟩ hof hF
        unfold CG at hcg
        refine m_128t hr hY hs (by omega) (by omega) ⟨u1, u2⟩ hof (fun S' p' b' ft' h5 e5 c5 ch5 => ?_)
        rw [eY, p_b_b] at kk
        simp only [p_b_inr] at kk
        refine kk _ _ _ _ (RA_map.mpr h5) (fun y' q' e' => ?_) (by unfold CG at c5 ⊢; omega) (CH_trans hch ch5 (by omega) (by omega) (by omega))
        rcases Y with Y | ⟨a, z⟩
        · cases e'
        · simp only [p_b_inr] at e' e5
          generalize p_sg (r 139) (r 136 6) 59 z = y6 at *
          rcases y6 with y6 | ⟨y6, z6⟩
          · cases e'
          · have e6 := e5 y6 z6 rfl
            cases e'
            rw [e6]
            exact hF a z rfl
      have cg1 : CG 1 4 1 S (F_lay (q_up S 143 s v) 0 s 0) ∧ CH s S (F_lay (q_up S 143 s v) 0 s 0) := ⟨by simp only [CG, F_lay_ne, F_lay_f, F_lay_18, F_mk_ne, F_mk_f, F_mk_15, q_up_eq, q_up_ne, q_up_ne2, q_upf_ne, q_upf_eq, not_false_eq_true, Nat.reduceEqDiff, Int.reduceEq, true_implies, false_implies, not_true_eq_false, not_false_eq_true, true_and, and_true, implies_true, or_true, true_or, or_false, false_or, Int.reduceEq, Int.one_ne_zero, Nat.reduceEqDiff] <;> omega, CH_lay (CH_up CH_refl (by omega)) (by simp only [F_lay_ne, F_lay_f, F_lay_18, F_mk_ne, F_mk_f, F_mk_15, q_up_eq, q_up_ne, q_up_ne2, q_upf_ne, q_upf_eq, not_false_eq_true, Nat.reduceEqDiff, Int.reduceEq]; omega)⟩
      refine m_163 hr h2 (fun a q p3 b3 e3 e4 e5 h3 => ?_) (fun p3 b3 e3 h3 => ?_)
      · cases e3
        simp only [q_kn_v, k128_47, k128_50, k128_51, k128_53, true_implies, false_implies, not_true_eq_false, not_false_eq_true, true_and, and_true, implies_true, or_true, true_or, or_false, false_or, Int.reduceEq, Int.one_ne_zero, Nat.reduceEqDiff]
        refine m_189 hr h3 (fun w p4 b4 ft4 h4 v1 v2 v3 => ?_)
        simp only [q_kn_v, k128_56, k128_58]
        simp only [p_b_inr] at h4 v1
        refine fin Int _ (fun w => ((1, -1, w), p_no)) _ _ _ _ _ _ _ _ h4 (p_vl_num hr hq2 e4 e5) cg1 (fun h => by simp at h) (fun a z e => ?_)
        have := v1 a z e
        subst this
        simp only [F_as]
        simp
      · have n262 : ¬ tk (r 139) (r 136 6) q2 = 262 := fun h => e3 a2 q2 rfl ⟨((tk_num hr.2.2 hq2).mp h).1, ((tk_num hr.2.2 hq2).mp h).2.1⟩
        simp only [q_kn_v, k128_47, k128_61, k128_62, k128_64, true_implies, false_implies, not_true_eq_false, not_false_eq_true, true_and, and_true, implies_true, or_true, true_or, or_false, false_or, Int.reduceEq, Int.one_ne_zero, Nat.reduceEqDiff]
        refine m_219 hr h3 (by decide) (by decide) (by decide) (by decide) (fun a q p4 b4 e4 e5 h4 => ?_) (fun p4 b4 e4 h4 => ?_)
        · cases e4
          simp only [q_kn_v, k128_67, k128_70, k128_71, k128_73, true_implies, false_implies, not_true_eq_false, not_false_eq_true, true_and, and_true, implies_true, or_true, true_or, or_false, false_or, Int.reduceEq, Int.one_ne_zero, Nat.reduceEqDiff]
          refine m_189 hr h4 (fun w p5 b5 ft5 h5 v1 v2 v3 => ?_)
          simp only [q_kn_v, k128_76, k128_77, k128_79]
          refine ⟨by omega, ?_⟩
          simp only [p_b_inr] at h5 v1
          refine fin Int _ (fun w => ((1, -1, -w), p_no)) _ _ _ _ _ _ _ _ h5 ?_ cg1 (fun h => by simp at h) (fun a z e => ?_)
          · unfold p_vl
            rw [if_neg n262, if_pos e5]
          · have := v1 a z e
            subst this
            simp only [F_as]
            simp
        · have n45 := (e4 a2 q2 rfl).1
          simp only [q_kn_v, k128_67, k128_82, k128_83, k128_85, true_implies, false_implies, not_true_eq_false, not_false_eq_true, true_and, and_true, implies_true, or_true, true_or, or_false, false_or, Int.reduceEq, Int.one_ne_zero, Nat.reduceEqDiff]
          refine m_219 hr h4 (by decide) (by decide) (by decide) (by decide) (fun a q p5 b5 e5 e6 h5 => ?_) (fun p5 b5 e5 h5 => ?_)
          · cases e5
            simp only [q_kn_v, k128_88, k128_91, k128_92, k128_94, k128_95, true_implies, false_implies, not_true_eq_false, not_false_eq_true, true_and, and_true, implies_true, or_true, true_or, or_false, false_or, Int.reduceEq, Int.one_ne_zero, Nat.reduceEqDiff]
            refine m_206 hr hpl h5 (fun w p6 b6 ft6 h6 v1 v2 v3 => ?_)
            simp only [q_kn_v, k128_98, k128_100]
            simp only [p_b_inr] at h6 v1
            refine fin Int _ (fun w => ((2, w, 0), p_no)) _ _ _ _ _ _ _ _ h6 ?_ cg1 (fun h => by simp at h) (fun a z e => ?_)
            · unfold p_vl
              rw [if_neg n262, if_neg n45, if_pos e6]
            · have := v1 a z e
              subst this
              simp only [F_as]
              simp
          · have n35 := (e5 a2 q2 rfl).1
            simp only [q_kn_v, k128_88, k128_103, k128_104, true_implies, false_implies, not_true_eq_false, not_false_eq_true, true_and, and_true, implies_true, or_true, true_or, or_false, false_or, Int.reduceEq, Int.one_ne_zero, Nat.reduceEqDiff]
            refine m_164 hr h5 (fun a q p6 b6 e6 e7 h6 e8 e9 => ?_) (fun p6 b6 e6 h6 => ?_)
            · cases e6
              simp only [q_kn_v, k128_107, k128_110, k128_111, k128_113, k128_114, k128_115, true_implies, false_implies, not_true_eq_false, not_false_eq_true, true_and, and_true, implies_true, or_true, true_or, or_false, false_or, Int.reduceEq, Int.one_ne_zero, Nat.reduceEqDiff]
              refine m_200 hr hpl h6 hs (by simp only [F_lay_ne, F_lay_f, F_lay_18, F_mk_ne, F_mk_f, F_mk_15, q_up_eq, q_up_ne, q_up_ne2, q_upf_ne, q_upf_eq, not_false_eq_true, Nat.reduceEqDiff, Int.reduceEq]; omega) (by simp only [F_lay_ne, F_lay_f, F_lay_18, F_mk_ne, F_mk_f, F_mk_15, q_up_eq, q_up_ne, q_up_ne2, q_upf_ne, q_upf_eq, not_false_eq_true, Nat.reduceEqDiff, Int.reduceEq]; omega) (by simp only [F_lay_ne, F_lay_f, F_lay_18, F_mk_ne, F_mk_f, F_mk_15, q_up_eq, q_up_ne, q_up_ne2, q_upf_ne, q_upf_eq, not_false_eq_true, Nat.reduceEqDiff, Int.reduceEq]; omega) (fun S3 w p7 b7 ft7 h7 v1 v2 => ?_)
              simp only [q_kn_v, k128_118, k128_120]
              simp only [p_b_inr] at h7 v1 v2
              refine fin (Int × Int) _ (fun e => ((4, -1, 0), (1, e.1, e.2))) _ _ _ _ _ _ _ _ h7 ?_ ?_ (fun h => by simp at h) (fun a z e => ?_)
              · unfold p_vl
                rw [if_neg n262, if_neg n45, if_neg n35, if_neg (by omega), if_pos e7]
              · generalize p_el (r 139) (r 136 6) pl q2 = y7 at *
                rcases y7 with y7 | ⟨y7, z7⟩
                · obtain ⟨rfl, -⟩ := v2 y7 rfl
                  exact cg1
                · obtain ⟨rfl, -⟩ := v1 y7 z7 rfl
                  have := F_chk_15 (k := 0) (S := F_lay (q_up S 143 s v) 0 s 0) (s := s) (r' := y7.1) (v := y7.2)
                  simp only [F_lay_ne, F_lay_f, F_lay_18, F_mk_ne, F_mk_f, F_mk_15, q_up_eq, q_up_ne, q_up_ne2, q_upf_ne, q_upf_eq, not_false_eq_true, Nat.reduceEqDiff, Int.reduceEq] at this
                  refine ⟨?_, CH_chk cg1.2 (by simp only [F_lay_ne, F_lay_f, F_lay_18, F_mk_ne, F_mk_f, F_mk_15, q_up_eq, q_up_ne, q_up_ne2, q_upf_ne, q_upf_eq, not_false_eq_true, Nat.reduceEqDiff, Int.reduceEq]; omega) (by simp only [F_lay_ne, F_lay_f, F_lay_18, F_mk_ne, F_mk_f, F_mk_15, q_up_eq, q_up_ne, q_up_ne2, q_upf_ne, q_upf_eq, not_false_eq_true, Nat.reduceEqDiff, Int.reduceEq]; omega) (by simp only [F_lay_ne, F_lay_f, F_lay_18, F_mk_ne, F_mk_f, F_mk_15, q_up_eq, q_up_ne, q_up_ne2, q_upf_ne, q_upf_eq, not_false_eq_true, Nat.reduceEqDiff, Int.reduceEq]; omega)⟩
                  simp only [CG]
                  omega
              · obtain ⟨rfl, rfl, -⟩ := v1 a z e
                simp only [F_as, F_lay_ne, F_lay_f, F_lay_18, F_mk_ne, F_mk_f, F_mk_15, q_up_eq, q_up_ne, q_up_ne2, q_upf_ne, q_upf_eq, not_false_eq_true, Nat.reduceEqDiff, Int.reduceEq]
                simp
            · have nrow := (e6 a2 q2 rfl).1
              simp only [q_kn_v, k128_107, k128_123, k128_124, k128_126, true_implies, false_implies, not_true_eq_false, not_false_eq_true, true_and, and_true, implies_true, or_true, true_or, or_false, false_or, Int.reduceEq, Int.one_ne_zero, Nat.reduceEqDiff]
              refine m_221 (c := 261) hr h6 (by decide) (fun a q p7 b7 e7 e8 h7 => ?_) (fun p7 b7 e7 h7 => ?_)
              · cases e7
                simp only [q_kn_v, k128_129, k128_132, k128_133, k128_135, k128_136, k128_137, true_implies, false_implies, not_true_eq_false, not_false_eq_true, true_and, and_true, implies_true, or_true, true_or, or_false, false_or, Int.reduceEq, Int.one_ne_zero, Nat.reduceEqDiff]
                refine m_189 hr h7 (fun w p8 b8 ft8 h8 v1 v2 v3 => ?_)
                simp only [q_kn_v, k128_140, k128_142]
                simp only [p_b_inr] at h8 v1
                refine fin Int _ (fun w => ((5, w, 0), p_no)) _ _ _ _ _ _ _ _ h8 ?_ cg1 (fun h => by simp at h) (fun a z e => ?_)
                · unfold p_vl
                  rw [if_neg n262, if_neg n45, if_neg n35, if_pos e8]
                · have := v1 a z e
                  subst this
                  simp only [F_as]
                  simp
              · have n261 := (e7 a2 q2 rfl).1
                simp only [q_kn_v, k128_129, k128_145, k128_146, k128_148, k128_149, true_implies, false_implies, not_true_eq_false, not_false_eq_true, true_and, and_true, implies_true, or_true, true_or, or_false, false_or, Int.reduceEq, Int.one_ne_zero, Nat.reduceEqDiff]
                refine m_228 hr h7 (fun w p8 b8 ft8 h8 v1 v2 v3 => ?_)
                simp only [q_kn_v, k128_152, k128_154, k128_155, k128_157]
                have evl : p_vl (r 139) (r 136 6) pl q2 = p_b (p_va (r 139) (r 136 6) q2) fun v p => if tk (r 139) (r 136 6) p = 43 then p_b (p_nu (r 139) (r 136 6) 99 (nx (r 139) (r 136 6) p)) fun w p => .inr (((3, v, w), p_no), p) else if tk (r 139) (r 136 6) p = 45 then p_b (p_nu (r 139) (r 136 6) 99 (nx (r 139) (r 136 6) p)) fun w p => .inr (((3, v, -w), p_no), p) else .inr (((3, v, 0), p_no), p) := by
                  unfold p_vl
                  rw [if_neg n262, if_neg n45, if_neg n35, if_neg n261, if_neg nrow]
                simp only [p_b_inr] at h8 v1
                refine m_219 hr h8 (by decide) (by decide) (by decide) (by decide) (fun a q p9 b9 e9 f9 h9 => ?_) (fun p9 b9 e9 h9 => ?_)
                · have := v1 a q e9
                  subst this
                  simp only [q_kn_v, k128_160, k128_163, k128_164, k128_166, true_implies, false_implies, not_true_eq_false, not_false_eq_true, true_and, and_true, implies_true, or_true, true_or, or_false, false_or, Int.reduceEq, Int.one_ne_zero, Nat.reduceEqDiff]
                  refine m_189 hr h9 (fun w2 pA bA ftA hA w1 w4 w3 => ?_)
                  simp only [q_kn_v, k128_169, k128_192]
                  simp only [p_b_inr] at hA w1
                  refine fin Int _ (fun z => ((3, w, z), p_no)) _ _ _ _ _ _ _ _ hA ?_ cg1 (fun _ => ⟨v2, v3⟩) (fun a z e => ?_)
                  · rw [evl, e9, p_b_inr, if_pos f9]
                  · have := w1 a z e
                    subst this
                    simp only [F_as]
                    simp
                · simp only [q_kn_v, k128_160, k128_172, k128_173, k128_175, true_implies, false_implies, not_true_eq_false, not_false_eq_true, true_and, and_true, implies_true, or_true, true_or, or_false, false_or, Int.reduceEq, Int.one_ne_zero, Nat.reduceEqDiff]
                  refine m_219 hr h9 (by decide) (by decide) (by decide) (by decide) (fun a q pA bA eA fA hA => ?_) (fun pA bA eA hA => ?_)
                  · have := v1 a q eA
                    subst this
                    have n43 := (e9 w q eA).1
                    simp only [q_kn_v, k128_178, k128_181, k128_182, k128_184, true_implies, false_implies, not_true_eq_false, not_false_eq_true, true_and, and_true, implies_true, or_true, true_or, or_false, false_or, Int.reduceEq, Int.one_ne_zero, Nat.reduceEqDiff]
                    refine m_189 hr hA (fun w2 pB bB ftB hB w1 w4 w3 => ?_)
                    simp only [q_kn_v, k128_187, k128_188, k128_192]
                    refine ⟨by omega, ?_⟩
                    simp only [p_b_inr] at hB w1
                    refine fin Int _ (fun z => ((3, w, -z), p_no)) _ _ _ _ _ _ _ _ hB ?_ cg1 (fun _ => ⟨v2, v3⟩) (fun a z e => ?_)
                    · rw [evl, eA, p_b_inr, if_neg n43, if_pos fA]
                    · have := w1 a z e
                      subst this
                      simp only [F_as]
                      simp
                  · simp only [q_kn_v, k128_178, k128_191, k128_192, true_implies, false_implies, not_true_eq_false, not_false_eq_true, true_and, and_true, implies_true, or_true, true_or, or_false, false_or, Int.reduceEq, Int.one_ne_zero, Nat.reduceEqDiff]
                    refine fin Int _ (fun z => ((3, z, 0), p_no)) _ _ _ _ _ _ _ _ hA ?_ cg1 (fun _ => ⟨v2, v3⟩) (fun a z e => ?_)
                    · rw [evl]
                      generalize p_va (r 139) (r 136 6) q2 = y9 at *
                      rcases y9 with y9 | ⟨y9, z9⟩
                      · rfl
                      · simp only [p_b_inr]
                        rw [if_neg (e9 y9 z9 rfl).1, if_neg (eA y9 z9 rfl).1]
                    · have := v1 a z e
                      subst this
                      simp only [F_as]
                      simp
end RG
