/-! the dry pass, while -/
def F_wr (S : St) (s : Int) (t : TT) : St := q_up (F_test (q_up (q_up (q_up (q_up S 136 17 (S 136 17 + 1)) 145 s (S 136 17)) 160 (S 136 17) s) 161 (S 136 17) (S 136 49)) s t) 136 49 (S 136 17)
/-- while, behind its begin -/
def F_wh2 (t : TT) (FA : St → St) (s : Int) (S : St) : St :=
  let l := S 136 17
  let S := F_wr S s t
  let set := (F_dry FA S).1
  let S := (F_dry FA S).2
  let S := q_up S 162 l (S 136 15)
  let S := F_lay S 8 l 0
  let head := S 136 18
  let first := S 136 15
  let S := F_round set s 8 0 S
  let S := q_up S 163 l (S 136 15 - first)
  let S := F_look (F_lay S 0 s 0) s
  let test := S 136 18
  let S := F_lay S 5 s 0
  let ahead := S 136 51
  let S := FA (F_sides (F_keep S) s 3)
  let S := F_lay S 7 head 0
  let S := F_too (S 163 l).toNat first S
  let S := q_up S 170 test (S 136 18)
  let S := F_sides (F_take S ahead) s 4
  let S := F_lay S 9 l 0
  q_up (q_up S 136 49 (S 161 l)) 136 51 ahead
theorem F_wh_2 {t : TT} {FA : St → St} {S : St} : F_wh t FA S = F_wh2 t FA (S 136 14) (F_beg S 4) := rfl
theorem round_147 {set s : Int} : ∀ (k : Nat) (x : Int) (S : St), 0 ≤ x → x + k ≤ 8 → 0 ≤ S 136 15 → ∀ v, S 136 15 ≤ v → v < F_round set s k x S 136 15 → 0 ≤ F_round set s k x S 147 v ∧ F_round set s k x S 147 v < 8 := by
  intro k
  induction k with
  | zero =>
    intro x S h0 h1 h2 v hv hv2
    rw [F_round] at hv2
    omega
  | succ k ih =>
    intro x S h0 h1 h2 v hv hv2
    rw [F_round] at hv2 ⊢
    by_cases e : q_bit set x = 0
    · rw [if_pos e] at hv2 ⊢
      exact ih (x + 1) S (by omega) (by omega) h2 v hv hv2
    · rw [if_neg e] at hv2 ⊢
      by_cases hvv : v = S 136 15
      · obtain ⟨a1, -⟩ := round_ok (S0 := F_lay (F_mk S x 6 s (S 171 x) (-1)) 6 (S 136 15) 0) (set := set) (s := s) k (x + 1) _ IV_refl (by simp only [F_lay_ne, F_lay_f, F_lay_18, F_mk_ne, F_mk_f, F_mk_15, q_up_eq, q_up_ne, q_up_ne2, q_upf_ne, q_upf_eq, not_false_eq_true, Nat.reduceEqDiff, Int.reduceEq]; omega)
        rw [a1.1 147 v (by unfold bel; simp only [F_lay_ne, F_lay_f, F_lay_18, F_mk_ne, F_mk_f, F_mk_15, q_up_eq, q_up_ne, q_up_ne2, q_upf_ne, q_upf_eq, not_false_eq_true, Nat.reduceEqDiff, Int.reduceEq]; omega), F_lay_ne (by decide) (by decide) (by decide) (by decide)]
        have : F_mk S x 6 s (S 171 x) (-1) 147 v = x := by
          subst hvv
          simp only [F_mk, q_up_eq, q_up_ne, q_up_ne2, q_upf_ne, q_upf_eq, not_false_eq_true, Nat.reduceEqDiff]
        omega
      · exact ih (x + 1) _ (by omega) (by omega) (by simp only [F_lay_ne, F_lay_f, F_lay_18, F_mk_ne, F_mk_f, F_mk_15, q_up_eq, q_up_ne, q_up_ne2, q_upf_ne, q_upf_eq, not_false_eq_true, Nat.reduceEqDiff, Int.reduceEq]; omega) v (by simp only [F_lay_ne, F_lay_f, F_lay_18, F_mk_ne, F_mk_f, F_mk_15, q_up_eq, q_up_ne, q_up_ne2, q_upf_ne, q_upf_eq, not_false_eq_true, Nat.reduceEqDiff, Int.reduceEq]; omega) hv2
section RJ
variable {sc : Nat × (Nat → Int32)} {D N : Nat} {bb : Bool} {S S0 r : St} {Q : QP} {p b ft dp s w : Int} {pl : Int → Int}
theorem m_144 {β γ : Type} {x : PX γ} {blk : Int → Int → PX (β × Int)} {G : β → St → St} (hB : HBK sc N bb r dp w blk G) (hw : 0 ≤ w) (hx : RA r x p ft) (hp : PRE 0 (w + 8) S) (hn : NV S)
    (k1 : ∀ A q b', p_b x (fun _ q => blk (S 136 14) q) = .inr (A, q) → S 136 14 ≤ A.2 → A.2 ≤ 40 → Q (.inl (some (vi (F_dry (G A.1) S).1))) bb (RP (F_dry (G A.1) S).2 r p b' (-1) dp))
    (k0 : ∀ S' q p' b' ft', p_b x (fun _ q => blk (S 136 14) q) = .inl q → RA r (.inl q : PX β) p' ft' → IV S S' → GR 0 (w + 8) S S' → Q (.inl (some (vi 0))) bb (RP S' r p' b' ft' dp)) :
    qx sc (N + D + 12) 144 0 [vr 136, vn, vn, vn, vn, vn, vn, vn, vn, vn] [] (0, 0) bb (RP S r p b ft dp) Q := by
  have hP := hp
  unfold PRE P0 at hP
  simp only [k144_0, k144_1]
  rw [c170 (by omega) (by omega)]
  simp only [q_kn_v, k144_4, k144_5, k144_6, k144_9, k144_10, k144_11, k144_14, k144_15, k144_16, k144_19, k144_21, k144_22, k144_25, k144_27, k144_28, k144_31, k144_33, k144_34, k144_37, k144_39, k144_40, k144_43, k144_45, k144_46, RP_p, RP_b, RP_ft, RP_dp, RP_n, RP_told, RP_src, RP_least, RP_14, RP_15, RP_16, RP_17, RP_18, RP_49, RP_51, RP_c142, RP_u142, RP_c143, RP_u143, RP_c144, RP_u144, RP_c145, RP_u145, RP_c146, RP_u146, RP_c147, RP_u147, RP_c148, RP_u148, RP_c149, RP_u149, RP_c150, RP_u150, RP_c151, RP_u151, RP_c152, RP_u152, RP_c153, RP_u153, RP_c154, RP_u154, RP_c155, RP_u155, RP_c156, RP_u156, RP_c157, RP_u157, RP_c158, RP_u158, RP_c159, RP_u159, RP_c160, RP_u160, RP_c161, RP_u161, RP_c162, RP_u162, RP_c163, RP_u163, RP_c164, RP_u164, RP_c165, RP_u165, RP_c166, RP_u166, RP_c167, RP_u167, RP_c168, RP_u168, RP_c169, RP_u169, RP_c170, RP_u170, RP_c171, RP_u171, RP_c172, RP_u172, RP_upp, RP_upb, RP_upft, RP_updp, RP_uptold, RP_upleast, RP_up14, RP_up15, RP_up16, RP_up17, RP_up18, RP_up49, RP_up51, keep_f, keep_51, not_false_eq_true, Int.reduceEq]
  have k14 : F_keep S 136 14 = S 136 14 := keep_f (by decide)
  have k15 : F_keep S 136 15 = S 136 15 := keep_f (by decide)
  have k16 : F_keep S 136 16 = S 136 16 := keep_f (by decide)
  have k17 : F_keep S 136 17 = S 136 17 := keep_f (by decide)
  have k18 : F_keep S 136 18 = S 136 18 := keep_f (by decide)
  have k51 : F_keep S 136 51 = S 136 51 + 8 := keep_51
  have ik : IV S (F_keep S) := IV_keep IV_refl (by omega)
  refine hB D _ _ _ _ _ _ _ hx (by unfold PRE P0; omega) (fun _ => NV_keep hn) (fun S4 p4 b4 ft4 h4 e4 i4 g4 => ?_)
  rw [k14] at h4 e4
  have cu4 := i4.2
  unfold CU at cu4
  have g4' := g4
  unfold GR at g4
  simp only [q_kn_n, k144_49, k144_50, k144_51, k144_52, k144_55, RP_p, RP_b, RP_ft, RP_dp, RP_n, RP_told, RP_src, RP_least, RP_14, RP_15, RP_16, RP_17, RP_18, RP_49, RP_51, RP_c142, RP_u142, RP_c143, RP_u143, RP_c144, RP_u144, RP_c145, RP_u145, RP_c146, RP_u146, RP_c147, RP_u147, RP_c148, RP_u148, RP_c149, RP_u149, RP_c150, RP_u150, RP_c151, RP_u151, RP_c152, RP_u152, RP_c153, RP_u153, RP_c154, RP_u154, RP_c155, RP_u155, RP_c156, RP_u156, RP_c157, RP_u157, RP_c158, RP_u158, RP_c159, RP_u159, RP_c160, RP_u160, RP_c161, RP_u161, RP_c162, RP_u162, RP_c163, RP_u163, RP_c164, RP_u164, RP_c165, RP_u165, RP_c166, RP_u166, RP_c167, RP_u167, RP_c168, RP_u168, RP_c169, RP_u169, RP_c170, RP_u170, RP_c171, RP_u171, RP_c172, RP_u172, RP_upp, RP_upb, RP_upft, RP_updp, RP_uptold, RP_upleast, RP_up14, RP_up15, RP_up16, RP_up17, RP_up18, RP_up49, RP_up51]
  rw [c226 (by omega) (by omega)]
  simp only [q_kn_v, k144_58, k144_60, k144_61]
  refine m_154 h4 (fun q eq1 _ => ?_) (fun A q eq1 eq2 => ?_)
  · simp only [q_kn_v, k144_64, k144_67, k144_68, true_implies, false_implies, not_true_eq_false, not_false_eq_true, true_and, and_true, implies_true, or_true, true_or, or_false, false_or, Int.reduceEq, Int.one_ne_zero, Nat.reduceEqDiff]
    rw [eq1] at h4
    exact k0 _ q _ _ _ eq1 h4 (IV_trans ik i4) (by unfold GR; omega)
  · simp only [q_kn_v, k144_64, k144_69, k144_70, k144_71, k144_74, k144_75, k144_76, k144_79, k144_80, k144_82, k144_85, k144_86, k144_88, k144_91, k144_92, k144_94, k144_97, k144_98, k144_100, k144_103, k144_104, k144_106, k144_109, k144_110, k144_111, RP_p, RP_b, RP_ft, RP_dp, RP_n, RP_told, RP_src, RP_least, RP_14, RP_15, RP_16, RP_17, RP_18, RP_49, RP_51, RP_c142, RP_u142, RP_c143, RP_u143, RP_c144, RP_u144, RP_c145, RP_u145, RP_c146, RP_u146, RP_c147, RP_u147, RP_c148, RP_u148, RP_c149, RP_u149, RP_c150, RP_u150, RP_c151, RP_u151, RP_c152, RP_u152, RP_c153, RP_u153, RP_c154, RP_u154, RP_c155, RP_u155, RP_c156, RP_u156, RP_c157, RP_u157, RP_c158, RP_u158, RP_c159, RP_u159, RP_c160, RP_u160, RP_c161, RP_u161, RP_c162, RP_u162, RP_c163, RP_u163, RP_c164, RP_u164, RP_c165, RP_u165, RP_c166, RP_u166, RP_c167, RP_u167, RP_c168, RP_u168, RP_c169, RP_u169, RP_c170, RP_u170, RP_c171, RP_u171, RP_c172, RP_u172, RP_upp, RP_upb, RP_upft, RP_updp, RP_uptold, RP_upleast, RP_up14, RP_up15, RP_up16, RP_up17, RP_up18, RP_up49, RP_up51, true_implies, false_implies, not_true_eq_false, not_false_eq_true, true_and, and_true, implies_true, or_true, true_or, or_false, false_or, Int.reduceEq, Int.one_ne_zero, Nat.reduceEqDiff]
    rw [c220 (by omega) (by omega)]
    simp only [q_kn_n, k144_114, k144_115, k144_116, k144_119, k144_121, RP_p, RP_b, RP_ft, RP_dp, RP_n, RP_told, RP_src, RP_least, RP_14, RP_15, RP_16, RP_17, RP_18, RP_49, RP_51, RP_c142, RP_u142, RP_c143, RP_u143, RP_c144, RP_u144, RP_c145, RP_u145, RP_c146, RP_u146, RP_c147, RP_u147, RP_c148, RP_u148, RP_c149, RP_u149, RP_c150, RP_u150, RP_c151, RP_u151, RP_c152, RP_u152, RP_c153, RP_u153, RP_c154, RP_u154, RP_c155, RP_u155, RP_c156, RP_u156, RP_c157, RP_u157, RP_c158, RP_u158, RP_c159, RP_u159, RP_c160, RP_u160, RP_c161, RP_u161, RP_c162, RP_u162, RP_c163, RP_u163, RP_c164, RP_u164, RP_c165, RP_u165, RP_c166, RP_u166, RP_c167, RP_u167, RP_c168, RP_u168, RP_c169, RP_u169, RP_c170, RP_u170, RP_c171, RP_u171, RP_c172, RP_u172, RP_upp, RP_upb, RP_upft, RP_updp, RP_uptold, RP_upleast, RP_up14, RP_up15, RP_up16, RP_up17, RP_up18, RP_up49, RP_up51]
    obtain ⟨e5, e6⟩ := e4 A q eq1
    have := k1 A q b4 eq1 (by omega) (by omega)
    subst eq2
    unfold F_dry at this
    dsimp only at this
    rw [← e5] at this
    exact this
theorem c205_r {set : Int} {l2 l4 l5 l6 l10 l11 : V2} : ∀ (k : Nat) (x : Int) (S : St) (l8 l9 : V2), x + k = 8 → 0 ≤ x → 0 ≤ S 136 15 → S 136 15 + k ≤ 700 → 0 ≤ S 136 18 → S 136 18 + k ≤ 3000 →
    (∀ l8 l9, qx sc (D + 1) 205 160 [vr 136, vi s, l2, vi set, l4, l5, l6, vi 8, l8, l9, l10, l11] [] (0, 0) bb (RP (F_round set s k x S) r p b ft dp) Q) →
    qx sc (D + 1) 205 105 [vr 136, vi s, l2, vi set, l4, l5, l6, vi x, l8, l9, l10, l11] [] (0, 0) bb (RP S r p b ft dp) Q := by
  intro k
  induction k with
  | zero =>
    intro x S l8 l9 hx h0 a1 a2 a3 a4 kk
    have e : x = 8 := by omega
    subst e
    rw [k205_105]
    simp only [k205_107, k205_109]
    exact ⟨fun h => absurd h (by decide), fun _ => kk _ _⟩
  | succ k ih =>
    intro x S l8 l9 hx h0 a1 a2 a3 a4 kk
    have hx8 : x < 8 := by omega
    rw [k205_105]
    simp only [k205_107, k205_109, k205_112, k205_113, k205_115, k205_116, k205_117, k205_118, q_bit_fold, hx8, true_implies, false_implies, not_true_eq_false, not_false_eq_true, true_and, and_true, implies_true, or_true, true_or, or_false, false_or, Int.reduceEq, Int.one_ne_zero, Nat.reduceEqDiff]
    refine ⟨fun hb => ?_, fun hb => ?_⟩
    · simp only [k205_121, k205_154, k205_157]
      refine ⟨by omega, ?_⟩
      refine ih (x + 1) S _ _ (by omega) (by omega) a1 (by omega) a3 (by omega) (fun l8 l9 => ?_)
      have := kk l8 l9
      rw [F_round, if_pos hb] at this
      exact this
    · simp only [k205_124, k205_125, k205_127, k205_129, k205_130, k205_131, k205_134, k205_136, k205_137, k205_138, RP_c171, qt_171, ql_171, true_implies, false_implies, not_true_eq_false, not_false_eq_true, true_and, and_true, implies_true, or_true, true_or, or_false, false_or, Int.reduceEq, Int.one_ne_zero, Nat.reduceEqDiff]
      repeat refine And.intro (by omega) ?_
      rw [c180 a1 (by omega) h0 hx8]
      simp only [q_kn_v, k205_141, k205_143, k205_144, k205_146, k205_148, k205_149]
      rw [c172 (by rw [F_mk_f (by decide)]; exact a3) (by rw [F_mk_f (by decide)]; omega)]
      simp only [q_kn_v, k205_152, k205_154, k205_157]
      refine ⟨by omega, ?_⟩
      refine ih (x + 1) _ _ _ (by omega) (by omega) (by simp only [F_lay_ne, F_lay_f, F_lay_18, F_mk_ne, F_mk_f, F_mk_15, q_up_eq, q_up_ne, q_up_ne2, q_upf_ne, q_upf_eq, not_false_eq_true, Nat.reduceEqDiff, Int.reduceEq]; omega) (by simp only [F_lay_ne, F_lay_f, F_lay_18, F_mk_ne, F_mk_f, F_mk_15, q_up_eq, q_up_ne, q_up_ne2, q_upf_ne, q_upf_eq, not_false_eq_true, Nat.reduceEqDiff, Int.reduceEq]; omega) (by simp only [F_lay_ne, F_lay_f, F_lay_18, F_mk_ne, F_mk_f, F_mk_15, q_up_eq, q_up_ne, q_up_ne2, q_upf_ne, q_upf_eq, not_false_eq_true, Nat.reduceEqDiff, Int.reduceEq]; omega) (by simp only [F_lay_ne, F_lay_f, F_lay_18, F_mk_ne, F_mk_f, F_mk_15, q_up_eq, q_up_ne, q_up_ne2, q_upf_ne, q_upf_eq, not_false_eq_true, Nat.reduceEqDiff, Int.reduceEq]; omega) (fun l8 l9 => ?_)
      have := kk l8 l9
      rw [F_round, if_neg hb] at this
      exact this
theorem c205_t {first l : Int} {l1 l3 l4 l5 l7 l8 l9 l10 : V2} (hl : 0 ≤ l ∧ l < 40) (hf : 0 ≤ first) : ∀ (k : Nat) (v : Int) (S : St), v + k = first + S 163 l → 0 ≤ v → first + S 163 l ≤ 700 → 0 ≤ S 163 l → (∀ j, v ≤ j → j < first + S 163 l → 0 ≤ S 147 j ∧ S 147 j < 8) →
    (∀ v', qx sc D 205 266 [vr 136, l1, vi l, l3, l4, l5, vi first, l7, l8, l9, l10, vi v'] [] (0, 0) bb (RP (F_too k v S) r p b ft dp) Q) →
    qx sc D 205 227 [vr 136, l1, vi l, l3, l4, l5, vi first, l7, l8, l9, l10, vi v] [] (0, 0) bb (RP S r p b ft dp) Q := by
  intro k
  induction k with
  | zero =>
    intro v S hv h0 h1 h2 h3 kk
    rw [k205_227]
    simp only [k205_229, k205_231, k205_232, k205_235, k205_236, k205_237, k205_238, RP_c163, qt_163, ql_163, true_implies, false_implies, not_true_eq_false, not_false_eq_true, true_and, and_true, implies_true, or_true, true_or, or_false, false_or, Int.reduceEq, Int.one_ne_zero, Nat.reduceEqDiff]
    exact ⟨hl, by omega, fun h => by omega, fun _ => kk _⟩
  | succ k ih =>
    intro v S hv h0 h1 h2 h3 kk
    have h4 := h3 v (Int.le_refl _) (by omega)
    rw [k205_227]
    simp only [k205_229, k205_231, k205_232, k205_235, k205_236, k205_237, k205_238, k205_241, k205_242, k205_245, k205_247, k205_248, k205_251, k205_252, k205_255, k205_257, k205_258, k205_259, k205_260, k205_263, RP_c163, RP_c147, RP_c171, RP_u151, qt_163, ql_163, qt_147, ql_147, qt_171, ql_171, qt_151, ql_151, true_implies, false_implies, not_true_eq_false, not_false_eq_true, true_and, and_true, implies_true, or_true, true_or, or_false, false_or, Int.reduceEq, Int.one_ne_zero, Nat.reduceEqDiff]
    refine ⟨hl, by omega, fun _ => ⟨by omega, by omega, by omega, by omega, ?_⟩, fun h => by omega⟩
    refine ih (v + 1) _ (by simp only [q_up_eq, q_up_ne, q_up_ne2, q_upf_ne, q_upf_eq, not_false_eq_true, Nat.reduceEqDiff]; omega) (by omega) (by simp only [q_up_eq, q_up_ne, q_up_ne2, q_upf_ne, q_upf_eq, not_false_eq_true, Nat.reduceEqDiff]; omega) (by simp only [q_up_eq, q_up_ne, q_up_ne2, q_upf_ne, q_upf_eq, not_false_eq_true, Nat.reduceEqDiff]; omega) (fun j j1 j2 => ?_) (fun v' => ?_)
    · simp only [q_up_eq, q_up_ne, q_up_ne2, q_upf_ne, q_upf_eq, not_false_eq_true, Nat.reduceEqDiff] at j2 ⊢
      exact h3 j (by omega) j2
    · have := kk v'
      rw [F_too] at this
      exact this
/-- while, behind its word -/
def p_wh2 (f : Int → Int) (n : Int) (pl : Int → Int) {α β : Type} (cp : Bool → TT → β → β → α) (e0 : β) (blk : Int → Int → PX (β × Int)) (cnt p : Int) : PX (α × Int) := p_b (p_te f n pl p) fun t p => p_b (blk (cnt + 1) p) fun A p => .inr ((cp true t A.1 e0, A.2), p)
theorem p_wh_2 {f : Int → Int} {n cnt p : Int} {α β : Type} {cp : Bool → TT → β → β → α} {e0 : β} {blk : Int → Int → PX (β × Int)} : p_wh f n pl cp e0 blk cnt p = p_wh2 f n pl cp e0 blk cnt (nx f n p) := rfl
end RJ
