/-! blocks in the reference: bounds of counts, if -/
/-- how much the counts may have grown: c statements that had begun, and those behind; w more rows set aside -/
def GR (c w : Int) (S S' : St) : Prop := S 136 14 ≤ S' 136 14 ∧ S' 136 14 ≤ 40 ∧ S' 136 15 ≤ S 136 15 + 12 * (c + S' 136 14 - S 136 14) ∧ S' 136 16 ≤ S 136 16 + (c + S' 136 14 - S 136 14) ∧ S' 136 17 ≤ S 136 17 + (c + S' 136 14 - S 136 14) ∧ S' 136 18 ≤ S 136 18 + 17 * (c + S' 136 14 - S 136 14) ∧ S' 136 51 ≤ S 136 51 + w
/-- counts as they may be, c statements having begun -/
def PRE (c w : Int) (S : St) : Prop := P0 S ∧ S 136 14 ≤ 40 ∧ S 136 15 ≤ 8 + 12 * (S 136 14 - c) ∧ S 136 16 ≤ S 136 14 - c ∧ S 136 17 ≤ S 136 14 - c ∧ S 136 18 ≤ 17 * (S 136 14 - c) ∧ S 136 51 + w ≤ 512
/-- sides that are variables are variables -/
def SV (s : Int) (S : St) : Prop := (S 165 (2 * s) = 1 → 0 ≤ S 166 (2 * s) ∧ S 166 (2 * s) < 8) ∧ (S 165 (2 * s + 1) = 1 → 0 ≤ S 166 (2 * s + 1) ∧ S 166 (2 * s + 1) < 8)
/-- if, behind its begin: its end -/
def F_if3 (s ahead first one over : Int) (S : St) : St :=
  let other := S 136 51
  let S := F_keep S
  let S := q_up S 169 over (S 136 18)
  let S := F_take S ahead
  let S := F_join (F_told S (S 136 14 - first).toNat first 0) one other s 8 0 S
  q_up S 136 51 ahead
/-- if, behind its begin -/
def F_if2 (t : TT) (FA FB : St → St) (s : Int) (S : St) : St :=
  let S := F_look (F_test S s t) s
  let S := F_lay S 0 s 0
  let test := S 136 18
  let S := F_lay S 5 s 0
  let ahead := S 136 51
  let S := F_keep S
  let first := S 136 14
  let S := FA (F_sides S s 3)
  let one := S 136 51
  let S := F_keep S
  let over := S 136 18
  let S := F_lay S 7 0 0
  let S := q_up S 170 test (S 136 18)
  let S := FB (F_sides (F_take S ahead) s 4)
  F_if3 s ahead first one over S
theorem F_if_2 {t : TT} {FA FB : St → St} {S : St} : F_if t FA FB S = F_if2 t FA FB (S 136 14) (F_beg S 3) := rfl
section RH0
variable {S S' S0 : St} {s i : Int} {t : TT}
theorem IV_CH {dv dc dk : Int} (h : IV S0 S) (hs : S0 136 14 ≤ s) (hg : CG dv dc dk S S') (hc : CH s S S') : IV S0 S' := by
  have hC := h.2
  unfold CU at hC
  refine ⟨fun a i hb => ?_, ?_⟩
  · have h1 := h.1 a i hb
    unfold bel at hb
    rw [hc a i (by omega) (by omega) (by omega) (by omega) (by omega) (by omega)]
    exact h1
  · unfold CU CG at *
    omega
theorem IV_TF (h : IV S0 S) (hs : S0 136 14 ≤ s) (hc : TF s S S') : IV S0 S' := by
  have hC := h.2
  unfold CU at hC
  refine ⟨fun a i hb => ?_, ?_⟩
  · have h1 := h.1 a i hb
    unfold bel at hb
    rw [hc a i (by omega) (by omega) (by omega)]
    exact h1
  · unfold CU
    have e : ∀ i, S' 136 i = S 136 i := fun i => hc 136 i (by omega) (by omega) (by omega)
    simp only [e]
    exact hC
theorem test_165 : F_test S s t 165 (2 * s) = F_sk t.2.1.1 ∧ F_test S s t 166 (2 * s) = t.2.1.2 ∧ F_test S s t 165 (2 * s + 1) = F_sk t.2.2.1 ∧ F_test S s t 166 (2 * s + 1) = t.2.2.2 ∧ F_test S s t 164 s = t.1 := by
  have n : ¬ 2 * s = 2 * s + 1 := by omega
  have n' : ¬ 2 * s + 1 = 2 * s := by omega
  simp only [F_test, q_up_app, n, n', and_self, and_true, true_and, and_false, false_and, if_true, if_false, Nat.reduceEqDiff]
theorem F_sk_1 {k : Int} (h : k = 1 ∨ k = 2 ∨ k = 3) : F_sk k = 1 ↔ k = 3 := by
  unfold F_sk
  rcases h with rfl | rfl | rfl <;> decide
theorem SV_test (h1 : SDok t.2.1) (h2 : SDok t.2.2) : SV s (F_test S s t) := by
  obtain ⟨e1, e2, e3, e4, -⟩ := test_165 (S := S) (s := s) (t := t)
  unfold SV
  rw [e1, e2, e3, e4, F_sk_1 h1.1, F_sk_1 h2.1]
  exact ⟨fun h => by have := h1.2 h; omega, fun h => by have := h2.2 h; omega⟩
theorem SV_of (h : SV s S) (h' : ∀ i, i = 2 * s ∨ i = 2 * s + 1 → S' 165 i = S 165 i ∧ S' 166 i = S 166 i) : SV s S' := by
  unfold SV at *
  obtain ⟨a1, a2⟩ := h' (2 * s) (Or.inl rfl)
  obtain ⟨a3, a4⟩ := h' (2 * s + 1) (Or.inr rfl)
  rw [a1, a2, a3, a4]
  exact h
theorem SV_IV (h : SV s S) (hi : IV S S') (hs : s < S 136 14) : SV s S' :=
  SV_of h (fun i hi' => ⟨hi.1 165 i (by unfold bel; omega), hi.1 166 i (by unfold bel; omega)⟩)
theorem IV_if3 {ahead first one over : Int} (h : IV S0 S) (h0 : 0 ≤ S 136 51) (h15 : 0 ≤ S 136 15) (ho : S0 136 18 ≤ over) (ha : S0 136 51 ≤ ahead) : IV S0 (F_if3 s ahead first one over S) ∧ F_if3 s ahead first one over S 136 14 = S 136 14 ∧ F_if3 s ahead first one over S 136 16 = S 136 16 ∧ F_if3 s ahead first one over S 136 17 = S 136 17 ∧ F_if3 s ahead first one over S 136 51 = ahead ∧ S 136 15 ≤ F_if3 s ahead first one over S 136 15 ∧ F_if3 s ahead first one over S 136 15 ≤ S 136 15 + 8 ∧ S 136 18 ≤ F_if3 s ahead first one over S 136 18 ∧ F_if3 s ahead first one over S 136 18 ≤ S 136 18 + 8 := by
  unfold F_if3
  dsimp only
  have i1 : IV S0 (F_take (q_up (F_keep S) 169 over (F_keep S 136 18)) ahead) := IV_take (IV_up (IV_keep h h0) (by decide) (nb18 ho (by decide)))
  have c1 : ∀ i, ¬ i = 51 → F_take (q_up (F_keep S) 169 over (F_keep S 136 18)) ahead 136 i = S 136 i := fun i hi => by rw [take_ne (by decide), q_up_ne _ _ _ _ (by decide), keep_f hi]
  generalize F_take (q_up (F_keep S) 169 over (F_keep S 136 18)) ahead = T at *
  generalize F_told T (T 136 14 - first).toNat first 0 = set
  obtain ⟨j1, -, j3, j4, j5, j6, j7, -⟩ := join_ok (s := s) (set := set) (one := one) (other := S 136 51) 8 0 T i1 (by rw [c1 15 (by decide)]; exact h15)
  rw [c1 15 (by decide)] at j4 j5
  rw [c1 18 (by decide)] at j6 j7
  refine ⟨IV_upf j1 ⟨fun h => absurd h (by decide), fun h => absurd h (by decide), fun h => absurd h (by decide), fun h => absurd h (by decide), fun h => absurd h (by decide), fun _ => ha⟩ (by decide), ?_, ?_, ?_, q_up_eq _ _ _ _, ?_, ?_, ?_, ?_⟩
  · rw [q_up_ne2 _ _ _ (by decide), j3 14 (by decide) (by decide), c1 14 (by decide)]
  · rw [q_up_ne2 _ _ _ (by decide), j3 16 (by decide) (by decide), c1 16 (by decide)]
  · rw [q_up_ne2 _ _ _ (by decide), j3 17 (by decide) (by decide), c1 17 (by decide)]
  · rw [q_up_ne2 _ _ _ (by decide)]; exact j4
  · rw [q_up_ne2 _ _ _ (by decide)]; exact j5
  · rw [q_up_ne2 _ _ _ (by decide)]; exact j6
  · rw [q_up_ne2 _ _ _ (by decide)]; exact j7
end RH0
section RH1
variable {sc : Nat × (Nat → Int32)} {D N : Nat} {bb : Bool} {S S0 r : St} {Q : QP} {p b ft dp s w : Int} {pl : Int → Int}
theorem c139_j {ahead one other set : Int} {l2 l3 l5 l7 : V2} (hft : ft = -1) (h1 : 0 ≤ one ∧ one + 8 ≤ 512) (h2 : 0 ≤ other ∧ other + 8 ≤ 512) : ∀ (k : Nat) (x : Int) (S : St) (l11 l12 : V2), x + k = 8 → 0 ≤ x → 0 ≤ S 136 15 → S 136 15 + k ≤ 700 → 0 ≤ S 136 18 → S 136 18 + k ≤ 3000 →
    (∀ l11 l12, qx sc (D + 2) 139 227 [vr 136, vi s, l2, l3, vi ahead, l5, vi one, l7, vi other, vi set, vi 8, l11, l12] [] (0, 0) bb (RP (F_join set one other s k x S) r p b ft dp) Q) →
    qx sc (D + 2) 139 153 [vr 136, vi s, l2, l3, vi ahead, l5, vi one, l7, vi other, vi set, vi x, l11, l12] [] (0, 0) bb (RP S r p b ft dp) Q := by
  intro k
  induction k with
  | zero =>
    intro x S l11 l12 hx h0 a1 a2 a3 a4 kk
    have e : x = 8 := by omega
    subst e
    rw [k139_153]
    simp only [k139_155, k139_157]
    exact ⟨fun h => absurd h (by decide), fun _ => kk _ _⟩
  | succ k ih =>
    intro x S l11 l12 hx h0 a1 a2 a3 a4 kk
    have hx8 : x < 8 := by omega
    rw [k139_153]
    simp only [k139_155, k139_157, k139_160, k139_161, c154, RP_ft, q_kn_v, k139_164, k139_167, k139_169, k139_171, k139_172, k139_173, k139_174, q_bit_fold, hft, hx8, true_implies, false_implies, not_true_eq_false, not_false_eq_true, true_and, and_true, implies_true, or_true, true_or, or_false, false_or, Int.reduceEq, Int.one_ne_zero, Nat.reduceEqDiff]
    refine ⟨fun hb => ?_, fun hb => ?_⟩
    · simp only [k139_177, k139_221, k139_224]
      refine ⟨by omega, ?_⟩
      rw [← hft]
      refine ih (x + 1) S _ _ (by omega) (by omega) a1 (by omega) a3 (by omega) (fun l11 l12 => ?_)
      have := kk l11 l12
      rw [F_join, if_pos hb] at this
      exact this
    · simp only [k139_180, k139_181, k139_183, k139_184, k139_185, k139_186, k139_189, k139_191, k139_193, k139_194, k139_195, k139_196, k139_199, k139_201, k139_203, k139_204, k139_205, RP_c172, qt_172, ql_172, true_implies, false_implies, not_true_eq_false, not_false_eq_true, true_and, and_true, implies_true, or_true, true_or, or_false, false_or, Int.reduceEq, Int.one_ne_zero, Nat.reduceEqDiff]
      repeat refine And.intro (by omega) ?_
      rw [c180 a1 (by omega) h0 hx8]
      simp only [q_kn_v, k139_208, k139_210, k139_211, k139_213, k139_215, k139_216]
      rw [c172 (by rw [F_mk_f (by decide)]; exact a3) (by rw [F_mk_f (by decide)]; omega)]
      simp only [q_kn_v, k139_219, k139_221, k139_224]
      refine ⟨by omega, ?_⟩
      rw [← hft]
      refine ih (x + 1) _ _ _ (by omega) (by omega) (by simp only [F_lay_ne, F_lay_f, F_lay_18, F_mk_ne, F_mk_f, F_mk_15, q_up_eq, q_up_ne, q_up_ne2, q_upf_ne, q_upf_eq, not_false_eq_true, Nat.reduceEqDiff, Int.reduceEq]; omega) (by simp only [F_lay_ne, F_lay_f, F_lay_18, F_mk_ne, F_mk_f, F_mk_15, q_up_eq, q_up_ne, q_up_ne2, q_upf_ne, q_upf_eq, not_false_eq_true, Nat.reduceEqDiff, Int.reduceEq]; omega) (by simp only [F_lay_ne, F_lay_f, F_lay_18, F_mk_ne, F_mk_f, F_mk_15, q_up_eq, q_up_ne, q_up_ne2, q_upf_ne, q_upf_eq, not_false_eq_true, Nat.reduceEqDiff, Int.reduceEq]; omega) (by simp only [F_lay_ne, F_lay_f, F_lay_18, F_mk_ne, F_mk_f, F_mk_15, q_up_eq, q_up_ne, q_up_ne2, q_upf_ne, q_upf_eq, not_false_eq_true, Nat.reduceEqDiff, Int.reduceEq]; omega) (fun l11 l12 => ?_)
      have := kk l11 l12
      rw [F_join, if_neg hb] at this
      exact this
theorem m_139t {β : Type} {Y : PX β} {ahead first one over : Int} {l2 l3 l8 l9 l10 l11 l12 : V2} (hY : RA r Y p ft) (hi : IV S0 S) (h51 : 0 ≤ S 136 51 ∧ S 136 51 + 8 ≤ 512) (hov : 0 ≤ over ∧ over < 3000) (hah : 0 ≤ ahead ∧ ahead + 8 ≤ 512) (hon : 0 ≤ one ∧ one + 8 ≤ 512) (hfi : 0 ≤ first) (h14 : S 136 14 ≤ 40) (h15 : 0 ≤ S 136 15 ∧ S 136 15 + 8 ≤ 700) (h18 : 0 ≤ S 136 18 ∧ S 136 18 + 8 ≤ 3000) (ho : S0 136 18 ≤ over) (ha : S0 136 51 ≤ ahead)
    (kk : ∀ S', ((∃ a, Y = .inr a) → S' = F_if3 s ahead first one over S) → IV S0 S' → S' 136 14 = S 136 14 → S' 136 16 = S 136 16 → S' 136 17 = S 136 17 → S' 136 51 = ahead → S 136 15 ≤ S' 136 15 ∧ S' 136 15 ≤ S 136 15 + 8 ∧ S 136 18 ≤ S' 136 18 ∧ S' 136 18 ≤ S 136 18 + 8 → Q (.inl none) bb (RP S' r p b ft dp)) :
    qx sc (D + 2) 139 115 [vr 136, vi s, l2, l3, vi ahead, vi first, vi one, vi over, l8, l9, l10, l11, l12] [] (0, 0) bb (RP S r p b ft dp) Q := by
  simp only [k139_115, k139_116]
  rw [c170 h51.1 h51.2]
  simp only [q_kn_v, k139_119, k139_121, k139_122, k139_125, k139_127, k139_128, k139_131, k139_132, k139_133, k139_135, RP_p, RP_b, RP_ft, RP_dp, RP_n, RP_told, RP_src, RP_least, RP_14, RP_15, RP_16, RP_17, RP_18, RP_49, RP_51, RP_c142, RP_u142, RP_c143, RP_u143, RP_c144, RP_u144, RP_c145, RP_u145, RP_c146, RP_u146, RP_c147, RP_u147, RP_c148, RP_u148, RP_c149, RP_u149, RP_c150, RP_u150, RP_c151, RP_u151, RP_c152, RP_u152, RP_c153, RP_u153, RP_c154, RP_u154, RP_c155, RP_u155, RP_c156, RP_u156, RP_c157, RP_u157, RP_c158, RP_u158, RP_c159, RP_u159, RP_c160, RP_u160, RP_c161, RP_u161, RP_c162, RP_u162, RP_c163, RP_u163, RP_c164, RP_u164, RP_c165, RP_u165, RP_c166, RP_u166, RP_c167, RP_u167, RP_c168, RP_u168, RP_c169, RP_u169, RP_c170, RP_u170, RP_c171, RP_u171, RP_c172, RP_u172, RP_upp, RP_upb, RP_upft, RP_updp, RP_uptold, RP_upleast, RP_up14, RP_up15, RP_up16, RP_up17, RP_up18, RP_up49, RP_up51, qt_169, ql_169, true_implies, false_implies, not_true_eq_false, not_false_eq_true, true_and, and_true, implies_true, or_true, true_or, or_false, false_or, Int.reduceEq, Int.one_ne_zero, Nat.reduceEqDiff]
  refine ⟨hov, ?_⟩
  rw [c220 hah.1 hah.2]
  simp only [q_kn_n, k139_138, k139_139, k139_141, k139_142, k139_145, RP_p, RP_b, RP_ft, RP_dp, RP_n, RP_told, RP_src, RP_least, RP_14, RP_15, RP_16, RP_17, RP_18, RP_49, RP_51, RP_c142, RP_u142, RP_c143, RP_u143, RP_c144, RP_u144, RP_c145, RP_u145, RP_c146, RP_u146, RP_c147, RP_u147, RP_c148, RP_u148, RP_c149, RP_u149, RP_c150, RP_u150, RP_c151, RP_u151, RP_c152, RP_u152, RP_c153, RP_u153, RP_c154, RP_u154, RP_c155, RP_u155, RP_c156, RP_u156, RP_c157, RP_u157, RP_c158, RP_u158, RP_c159, RP_u159, RP_c160, RP_u160, RP_c161, RP_u161, RP_c162, RP_u162, RP_c163, RP_u163, RP_c164, RP_u164, RP_c165, RP_u165, RP_c166, RP_u166, RP_c167, RP_u167, RP_c168, RP_u168, RP_c169, RP_u169, RP_c170, RP_u170, RP_c171, RP_u171, RP_c172, RP_u172, RP_upp, RP_upb, RP_upft, RP_updp, RP_uptold, RP_upleast, RP_up14, RP_up15, RP_up16, RP_up17, RP_up18, RP_up49, RP_up51]
  have c1 : ∀ i, ¬ i = 51 → F_take (q_up (F_keep S) 169 over (F_keep S 136 18)) ahead 136 i = S 136 i := fun i hi => by rw [take_ne (by decide), q_up_ne _ _ _ _ (by decide), keep_f hi]
  rw [c226 hfi (by rw [c1 14 (by decide)]; exact h14)]
  simp only [q_kn_v, k139_148, k139_150, k139_151]
  rcases Y with y | ⟨y, z⟩
  · obtain ⟨-, e1, e2⟩ := hY
    have hne : ¬ ft = -1 := by omega
    rw [k139_153]
    simp only [k139_155, k139_157, k139_160, k139_161, c154, RP_ft, q_kn_v, k139_164, k139_227, k139_228, k139_230, k139_233, RP_p, RP_b, RP_ft, RP_dp, RP_n, RP_told, RP_src, RP_least, RP_14, RP_15, RP_16, RP_17, RP_18, RP_49, RP_51, RP_c142, RP_u142, RP_c143, RP_u143, RP_c144, RP_u144, RP_c145, RP_u145, RP_c146, RP_u146, RP_c147, RP_u147, RP_c148, RP_u148, RP_c149, RP_u149, RP_c150, RP_u150, RP_c151, RP_u151, RP_c152, RP_u152, RP_c153, RP_u153, RP_c154, RP_u154, RP_c155, RP_u155, RP_c156, RP_u156, RP_c157, RP_u157, RP_c158, RP_u158, RP_c159, RP_u159, RP_c160, RP_u160, RP_c161, RP_u161, RP_c162, RP_u162, RP_c163, RP_u163, RP_c164, RP_u164, RP_c165, RP_u165, RP_c166, RP_u166, RP_c167, RP_u167, RP_c168, RP_u168, RP_c169, RP_u169, RP_c170, RP_u170, RP_c171, RP_u171, RP_c172, RP_u172, RP_upp, RP_upb, RP_upft, RP_updp, RP_uptold, RP_upleast, RP_up14, RP_up15, RP_up16, RP_up17, RP_up18, RP_up49, RP_up51, hne, Int.reduceLT, true_implies, false_implies, not_true_eq_false, not_false_eq_true, true_and, and_true, implies_true, or_true, true_or, or_false, false_or, Int.reduceEq, Int.one_ne_zero, Nat.reduceEqDiff]
    have i1 : IV S0 (F_take (q_up (F_keep S) 169 over (F_keep S 136 18)) ahead) := IV_take (IV_up (IV_keep hi h51.1) (by decide) (nb18 ho (by decide)))
    refine kk _ (fun h => by obtain ⟨a, h⟩ := h; cases h) (IV_upf i1 ⟨fun h => absurd h (by decide), fun h => absurd h (by decide), fun h => absurd h (by decide), fun h => absurd h (by decide), fun h => absurd h (by decide), fun _ => ha⟩ (by decide)) ?_ ?_ ?_ (q_up_eq _ _ _ _) ?_
    · rw [q_up_ne2 _ _ _ (by decide), c1 14 (by decide)]
    · rw [q_up_ne2 _ _ _ (by decide), c1 16 (by decide)]
    · rw [q_up_ne2 _ _ _ (by decide), c1 17 (by decide)]
    · rw [q_up_ne2 _ _ _ (by decide), q_up_ne2 _ _ _ (by decide), c1 15 (by decide), c1 18 (by decide)]
      omega
  · obtain ⟨-, e1, e2⟩ := hY
    refine c139_j e1 hon h51 8 0 _ _ _ (by omega) (by omega) (by rw [c1 15 (by decide)]; exact h15.1) (by rw [c1 15 (by decide)]; exact h15.2) (by rw [c1 18 (by decide)]; exact h18.1) (by rw [c1 18 (by decide)]; exact h18.2) (fun l11 l12 => ?_)
    simp only [k139_227, k139_228, k139_230, k139_233, RP_p, RP_b, RP_ft, RP_dp, RP_n, RP_told, RP_src, RP_least, RP_14, RP_15, RP_16, RP_17, RP_18, RP_49, RP_51, RP_c142, RP_u142, RP_c143, RP_u143, RP_c144, RP_u144, RP_c145, RP_u145, RP_c146, RP_u146, RP_c147, RP_u147, RP_c148, RP_u148, RP_c149, RP_u149, RP_c150, RP_u150, RP_c151, RP_u151, RP_c152, RP_u152, RP_c153, RP_u153, RP_c154, RP_u154, RP_c155, RP_u155, RP_c156, RP_u156, RP_c157, RP_u157, RP_c158, RP_u158, RP_c159, RP_u159, RP_c160, RP_u160, RP_c161, RP_u161, RP_c162, RP_u162, RP_c163, RP_u163, RP_c164, RP_u164, RP_c165, RP_u165, RP_c166, RP_u166, RP_c167, RP_u167, RP_c168, RP_u168, RP_c169, RP_u169, RP_c170, RP_u170, RP_c171, RP_u171, RP_c172, RP_u172, RP_upp, RP_upb, RP_upft, RP_updp, RP_uptold, RP_upleast, RP_up14, RP_up15, RP_up16, RP_up17, RP_up18, RP_up49, RP_up51]
    obtain ⟨j1, j2, j3, j4, j5, j6, j7, j8, j9⟩ := IV_if3 (s := s) (first := first) (one := one) hi h51.1 h15.1 ho ha
    exact kk _ (fun _ => rfl) j1 j2 j3 j4 j5 ⟨j6, j7, j8, j9⟩
/-- a block can be read: so deep that w more rows may be set aside -/
def HBK (sc : Nat × (Nat → Int32)) (N : Nat) (bb : Bool) (r : St) (dp w : Int) {β : Type} (blk : Int → Int → PX (β × Int)) (G : β → St → St) : Prop :=
  ∀ (D : Nat) (α : Type) (x : PX α) (p b ft : Int) (S : St) (Q : QP), RA r x p ft → PRE 0 w S → ((∃ a, x = .inr a) → NV S) →
    (∀ S' p' b' ft', RA r (p_b x (fun _ q => blk (S 136 14) q)) p' ft' → (∀ A q, p_b x (fun _ q => blk (S 136 14) q) = .inr (A, q) → S' = G A.1 S ∧ S' 136 14 = A.2) → IV S S' → GR 0 w S S' → Q (.inl none) bb (RP S' r p' b' ft' dp)) →
    qx sc (N + D + 11) 131 0 [vr 136] [] (0, 0) bb (RP S r p b ft dp) Q
/-- if, behind its word -/
def p_if2 (f : Int → Int) (n : Int) (pl : Int → Int) {α β : Type} (cp : Bool → TT → β → β → α) (e0 : β) (blk : Int → Int → PX (β × Int)) (cnt p : Int) : PX (α × Int) := p_b (p_te f n pl p) fun t p => p_b (blk (cnt + 1) p) fun A p =>
    if tk f n p = 259 then p_b (blk A.2 (nx f n p)) fun B p => .inr ((cp false t A.1 B.1, B.2), p) else .inr ((cp false t A.1 e0, A.2), p)
theorem p_if_2 {f : Int → Int} {n cnt p : Int} {α β : Type} {cp : Bool → TT → β → β → α} {e0 : β} {blk : Int → Int → PX (β × Int)} : p_if f n pl cp e0 blk cnt p = p_if2 f n pl cp e0 blk cnt (nx f n p) := rfl
end RH1
