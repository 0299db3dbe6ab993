/-! the reference reads a whole text -/
section MKA
variable {S : St} {x how s fr too i : Int}
theorem F_mk_147 : F_mk S x how s fr too 147 i = if i = S 136 15 then x else S 147 i := by
  simp only [F_mk, q_up_app]
  grind
theorem F_mk_148 : F_mk S x how s fr too 148 i = if i = S 136 15 then how else S 148 i := by
  simp only [F_mk, q_up_app]
  grind
theorem F_mk_149 : F_mk S x how s fr too 149 i = if i = S 136 15 then s else S 149 i := by
  simp only [F_mk, q_up_app]
  grind
theorem F_mk_150 : F_mk S x how s fr too 150 i = if i = S 136 15 then fr else S 150 i := by
  simp only [F_mk, q_up_app]
  grind
theorem F_mk_151 : F_mk S x how s fr too 151 i = if i = S 136 15 then too else S 151 i := by
  simp only [F_mk, q_up_app]
  grind
theorem F_mk_152 : F_mk S x how s fr too 152 i = if i = S 136 15 then 0 else S 152 i := by
  simp only [F_mk, q_up_app]
  grind
theorem F_mk_153 : F_mk S x how s fr too 153 i = if i = S 136 15 then -1 else S 153 i := by
  simp only [F_mk, q_up_app]
  grind
theorem F_mk_154 : F_mk S x how s fr too 154 i = if i = S 136 15 then 0 else S 154 i := by
  simp only [F_mk, q_up_app]
  grind
end MKA
/-- the versions at the beginning -/
def F_bg : Nat → Int → St → St
  | 0, _, S => S
  | k + 1, x, S => F_bg k (x + 1) (F_mk S x 0 (-1) (-1) (-1))
theorem bg_ok : ∀ (k : Nat) (x : Int) (S : St), 0 ≤ x → S 136 15 = x → F_bg k x S 136 15 = x + k ∧ (∀ i, ¬ i = 15 → F_bg k x S 136 i = S 136 i) ∧ (∀ i, F_bg k x S 171 i = if x ≤ i ∧ i < x + k then i else S 171 i) ∧
    (∀ v, x ≤ v → v < x + k → F_bg k x S 147 v = v ∧ F_bg k x S 148 v = 0 ∧ F_bg k x S 149 v = -1 ∧ F_bg k x S 150 v = -1 ∧ F_bg k x S 151 v = -1 ∧ F_bg k x S 152 v = 0 ∧ F_bg k x S 153 v = -1 ∧ F_bg k x S 154 v = 0) ∧
    (∀ c v, v < x → 147 ≤ c ∧ c ≤ 154 → F_bg k x S c v = S c v) := by
  intro k
  induction k with
  | zero =>
    intro x S h0 h1
    refine ⟨by rw [F_bg]; omega, fun i h => rfl, fun i => ?_, fun v h2 h3 => by omega, fun c v _ _ => rfl⟩
    rw [F_bg, if_neg (by omega)]
  | succ k ih =>
    intro x S h0 h1
    rw [F_bg]
    obtain ⟨a1, a2, a3, a4, a5⟩ := ih (x + 1) (F_mk S x 0 (-1) (-1) (-1)) (by omega) (by rw [F_mk_15]; omega)
    refine ⟨by rw [a1]; omega, fun i h => by rw [a2 i h, F_mk_f h], fun i => ?_, fun v h2 h3 => ?_, fun c v h2 h3 => ?_⟩
    · rw [a3 i, F_mk_171]
      by_cases e : i = x
      · rw [if_neg (by omega), if_pos e, if_pos (by omega), h1, e]
      · rw [if_neg e]
        by_cases e2 : x + 1 ≤ i ∧ i < x + 1 + k
        · rw [if_pos e2, if_pos (by omega)]
        · rw [if_neg e2, if_neg (by omega)]
    · by_cases e : v = x
      · subst e
        simp only [a5 _ v (by omega) (show 147 ≤ 147 ∧ 147 ≤ 154 by decide), a5 _ v (by omega) (show 147 ≤ 148 ∧ 148 ≤ 154 by decide), a5 _ v (by omega) (show 147 ≤ 149 ∧ 149 ≤ 154 by decide), a5 _ v (by omega) (show 147 ≤ 150 ∧ 150 ≤ 154 by decide), a5 _ v (by omega) (show 147 ≤ 151 ∧ 151 ≤ 154 by decide), a5 _ v (by omega) (show 147 ≤ 152 ∧ 152 ≤ 154 by decide), a5 _ v (by omega) (show 147 ≤ 153 ∧ 153 ≤ 154 by decide), a5 _ v (by omega) (show 147 ≤ 154 ∧ 154 ≤ 154 by decide)]
        simp only [F_mk_147, F_mk_148, F_mk_149, F_mk_150, F_mk_151, F_mk_152, F_mk_153, F_mk_154, h1, if_true, and_self]
      · exact a4 v (by omega) (by omega)
    · rw [a5 c v (by omega) h3]
      have : ¬ v = S 136 15 := by omega
      have hc : c = 147 ∨ c = 148 ∨ c = 149 ∨ c = 150 ∨ c = 151 ∨ c = 152 ∨ c = 153 ∨ c = 154 := by omega
      rcases hc with rfl | rfl | rfl | rfl | rfl | rfl | rfl | rfl <;> simp only [F_mk_147, F_mk_148, F_mk_149, F_mk_150, F_mk_151, F_mk_152, F_mk_153, F_mk_154, if_neg this]
def F_cl (S : St) : St := q_up (q_up (q_up (q_up (q_up (q_up (q_up S 136 14 0) 136 15 0) 136 16 0) 136 17 0) 136 18 0) 136 49 (-1)) 136 51 0
/-- what is there ahead of the first statement -/
def F_ini (S : St) : St := F_bg 8 0 (F_cl S)
theorem F_cl_f {S : St} : F_cl S 136 14 = 0 ∧ F_cl S 136 15 = 0 ∧ F_cl S 136 16 = 0 ∧ F_cl S 136 17 = 0 ∧ F_cl S 136 18 = 0 ∧ F_cl S 136 49 = -1 ∧ F_cl S 136 51 = 0 := by
  simp only [F_cl, q_up_eq, q_up_ne, q_up_ne2, q_upf_ne, q_upf_eq, not_false_eq_true, Int.reduceEq, and_self]
theorem ini_ok {S : St} : F_ini S 136 14 = 0 ∧ F_ini S 136 15 = 8 ∧ F_ini S 136 16 = 0 ∧ F_ini S 136 17 = 0 ∧ F_ini S 136 18 = 0 ∧ F_ini S 136 49 = -1 ∧ F_ini S 136 51 = 0 ∧ (∀ i, 0 ≤ i → i < 8 → F_ini S 171 i = i) ∧
    (∀ v, 0 ≤ v → v < 8 → F_ini S 147 v = v ∧ F_ini S 148 v = 0 ∧ F_ini S 149 v = -1 ∧ F_ini S 150 v = -1 ∧ F_ini S 151 v = -1 ∧ F_ini S 152 v = 0 ∧ F_ini S 153 v = -1 ∧ F_ini S 154 v = 0) := by
  obtain ⟨z14, z15, z16, z17, z18, z49, z51⟩ := F_cl_f (S := S)
  obtain ⟨a1, a2, a3, a4, -⟩ := bg_ok 8 0 (F_cl S) (by omega) z15
  unfold F_ini
  refine ⟨by rw [a2 14 (by decide), z14], by rw [a1]; rfl, by rw [a2 16 (by decide), z16], by rw [a2 17 (by decide), z17], by rw [a2 18 (by decide), z18], by rw [a2 49 (by decide), z49], by rw [a2 51 (by decide), z51], fun i h1 h2 => ?_, fun v h1 h2 => a4 v h1 (by omega)⟩
  rw [a3 i, if_pos (by omega)]
section RO
variable {sc : Nat × (Nat → Int32)} {D : Nat} {bb : Bool} {S r : St} {Q : QP} {p b ft dp : Int}
theorem c204_1 {x : Int} {l2 : V2} (hx : 0 ≤ x ∧ x < 3) (kk : qx sc D 204 57 [vr 136, vi (x + 1), l2] [] (0, 0) bb (RP S (q_up r 141 x 0) p b ft dp) Q) : qx sc D 204 57 [vr 136, vi x, l2] [] (0, 0) bb (RP S r p b ft dp) Q := by
  rw [k204_57]
  simp only [k204_58, k204_59, k204_62, k204_63, k204_66, k204_67, k204_68, k204_69, k204_72, RP_upleast, qt_141, ql_141, hx, true_implies, false_implies, not_true_eq_false, not_false_eq_true, true_and, and_true, implies_true, or_true, true_or, or_false, false_or, Int.reduceEq, Int.one_ne_zero, Nat.reduceEqDiff]
  exact ⟨by omega, kk⟩
theorem c204_m : ∀ (k : Nat) (x : Int) (S : St) (l2 : V2), x + k = 8 → 0 ≤ x → S 136 15 = x →
    (∀ l2, qx sc (D + 1) 204 99 [vr 136, vi 8, l2] [] (0, 0) bb (RP (F_bg k x S) r p b ft dp) Q) →
    qx sc (D + 1) 204 77 [vr 136, vi x, l2] [] (0, 0) bb (RP S r p b ft dp) Q := by
  intro k
  induction k with
  | zero =>
    intro x S l2 hx h0 h1 kk
    have e : x = 8 := by omega
    subst e
    rw [k204_77]
    simp only [k204_78, k204_80]
    exact ⟨fun h => absurd h (by decide), fun _ => kk _⟩
  | succ k ih =>
    intro x S l2 hx h0 h1 kk
    have hx8 : x < 8 := by omega
    rw [k204_77]
    simp only [k204_78, k204_80, k204_83, k204_84, k204_85, k204_86, k204_87, k204_88, k204_89, hx8, true_implies, false_implies, not_true_eq_false, not_false_eq_true, true_and, and_true, implies_true, or_true, true_or, or_false, false_or, Int.reduceEq, Int.one_ne_zero, Nat.reduceEqDiff]
    rw [c180 (by omega) (by omega) h0 hx8]
    simp only [q_kn_v, k204_92, k204_93, k204_96]
    refine ⟨by omega, ?_⟩
    exact ih (x + 1) _ _ (by omega) (by omega) (by rw [F_mk_15]; omega) kk
set_option maxRecDepth 4000 in
theorem m_204 (hr : RH r)
    (kF : ∀ S' r' p' b' q, p_P (r 139) (r 136 6) = .inl q → FR r r' → Q (.inl (some (vi 0))) bb (RP S' r' p' b' q 0))
    (kS : ∀ r' pl L cnt z p' b' l1 l2, p_P (r 139) (r 136 6) = .inr ((pl, L, cnt), z) → FR r r' → TR r' pl → F_L 5 L (F_ini S) 136 14 = cnt → GR 0 192 (F_ini S) (F_L 5 L (F_ini S)) → qx sc (24 + D + 11) 204 142 [vr 136, l1, l2] [] (0, 0) bb (RP (F_L 5 L (F_ini S)) r' p' b' (-1) 0) Q) :
    qx sc (24 + D + 11) 204 0 [vr 136, vn, vn] [] (0, 0) bb (RP S r p b ft dp) Q := by
  simp only [k204_0, k204_1, k204_2, k204_5, k204_6, k204_7, k204_10, k204_11, k204_12, k204_15, k204_16, k204_17, k204_20, k204_21, k204_22, k204_25, k204_26, k204_27, RP_p, RP_b, RP_ft, RP_dp, RP_n, RP_told, RP_src, RP_least, RP_14, RP_15, RP_16, RP_17, RP_18, RP_49, RP_51, RP_c142, RP_u142, RP_c143, RP_u143, RP_c144, RP_u144, RP_c145, RP_u145, RP_c146, RP_u146, RP_c147, RP_u147, RP_c148, RP_u148, RP_c149, RP_u149, RP_c150, RP_u150, RP_c151, RP_u151, RP_c152, RP_u152, RP_c153, RP_u153, RP_c154, RP_u154, RP_c155, RP_u155, RP_c156, RP_u156, RP_c157, RP_u157, RP_c158, RP_u158, RP_c159, RP_u159, RP_c160, RP_u160, RP_c161, RP_u161, RP_c162, RP_u162, RP_c163, RP_u163, RP_c164, RP_u164, RP_c165, RP_u165, RP_c166, RP_u166, RP_c167, RP_u167, RP_c168, RP_u168, RP_c169, RP_u169, RP_c170, RP_u170, RP_c171, RP_u171, RP_c172, RP_u172, RP_upp, RP_upb, RP_upft, RP_updp, RP_uptold, RP_upleast, RP_up14, RP_up15, RP_up16, RP_up17, RP_up18, RP_up49, RP_up51]
  simp only [k204_30, k204_31, k204_32, k204_35, k204_36, k204_37, k204_40, k204_41, k204_42, k204_45, k204_46, k204_47, k204_50, k204_51, k204_52, k204_55, k204_56, RP_p, RP_b, RP_ft, RP_dp, RP_n, RP_told, RP_src, RP_least, RP_14, RP_15, RP_16, RP_17, RP_18, RP_49, RP_51, RP_c142, RP_u142, RP_c143, RP_u143, RP_c144, RP_u144, RP_c145, RP_u145, RP_c146, RP_u146, RP_c147, RP_u147, RP_c148, RP_u148, RP_c149, RP_u149, RP_c150, RP_u150, RP_c151, RP_u151, RP_c152, RP_u152, RP_c153, RP_u153, RP_c154, RP_u154, RP_c155, RP_u155, RP_c156, RP_u156, RP_c157, RP_u157, RP_c158, RP_u158, RP_c159, RP_u159, RP_c160, RP_u160, RP_c161, RP_u161, RP_c162, RP_u162, RP_c163, RP_u163, RP_c164, RP_u164, RP_c165, RP_u165, RP_c166, RP_u166, RP_c167, RP_u167, RP_c168, RP_u168, RP_c169, RP_u169, RP_c170, RP_u170, RP_c171, RP_u171, RP_c172, RP_u172, RP_upp, RP_upb, RP_upft, RP_updp, RP_uptold, RP_upleast, RP_up14, RP_up15, RP_up16, RP_up17, RP_up18, RP_up49, RP_up51]
  refine c204_1 (by decide) ?_
  refine c204_1 (by decide) ?_
  refine c204_1 (by decide) ?_
  rw [k204_57]
  simp only [k204_58, k204_59]
  refine ⟨fun h => absurd h (by decide), fun _ => ?_⟩
  simp only [k204_75, k204_76, Int.reduceAdd]
  have hfr : FR r (q_up (q_up (q_up (q_up r 136 13 0) 141 0 0) 141 1 0) 141 2 0) := by
    intro a i a1 a2
    rw [q_up_ne _ _ _ _ a2, q_up_ne _ _ _ _ a2, q_up_ne _ _ _ _ a2, q_up_app, if_neg a1]
  have ht : TR (q_up (q_up (q_up (q_up r 136 13 0) 141 0 0) 141 1 0) 141 2 0) (fun _ => -1) := by
    refine ⟨?_, fun k hk => ?_⟩
    · rw [q_up_ne _ _ _ _ (by decide), q_up_ne _ _ _ _ (by decide), q_up_ne _ _ _ _ (by decide), q_up_eq]
      decide
    · simp only [q_up_app]
      rcases hk with rfl | rfl | rfl <;> simp
  generalize q_up (q_up (q_up (q_up r 136 13 0) 141 0 0) 141 1 0) 141 2 0 = r1 at *
  have hf1 := FR_139 hfr
  have hn1 := FR_6 hfr
  have hr1 := FR_RH hfr hr
  change qx sc (24 + D + 11) 204 77 [vr 136, vi 0, vn] [] (0, 0) bb (RP (F_cl S) r1 0 b (-1) 0) Q
  refine c204_m 8 0 (F_cl S) _ (by omega) (by omega) F_cl_f.2.1 (fun l2 => ?_)
  change qx sc (24 + D + 11) 204 99 [vr 136, vi 8, l2] [] (0, 0) bb (RP (F_ini S) r1 0 b (-1) 0) Q
  obtain ⟨z14, z15, z16, z17, z18, z49, z51, z171, -⟩ := ini_ok (S := S)
  generalize hSI : F_ini S = SI at *
  simp only [k204_99, k204_100]
  refine m_207 (f := r 139) (n := r 136 6) 4 r1 (fun _ => -1) _ _ _ (sk (r 139) (r 136 6) 0) _ _ (by decide) hr1 hf1 hn1 ht ⟨by omega, rfl, by rw [hf1, hn1]⟩ (fun r2 p2 b2 ft2 f2 h2 t2 => ?_)
  have hfr2 := FR_trans hfr f2
  have hf2 := FR_139 hfr2
  have hn2 := FR_6 hfr2
  have hr2 := FR_RH hfr2 hr
  simp only [q_kn_n, k204_103, k204_104]
  -- behind the statements
  have fin : ∀ (Y : PX (List (ST 5) × Int)) (pl : Int → Int) (S3 : St) (p3 b3 ft3 : Int) (l1 l2 : V2), RS r2 Y p3 ft3 → p_P (r 139) (r 136 6) = p_b Y (fun L p => if tk (r 139) (r 136 6) p = -1 then .inr ((pl, L.1, L.2), p) else .inl p) → (∀ L z, Y = .inr (L, z) → S3 = F_L 5 L.1 SI ∧ S3 136 14 = L.2 ∧ TR r2 pl ∧ GR 0 192 SI S3) → qx sc (24 + D + 11) 204 107 [vr 136, l1, l2] [] (0, 0) bb (RP S3 r2 p3 b3 ft3 0) Q := by
    intro Y pl S3 p3 b3 ft3 l1 l2 hY eY sY
    have hp3 : 0 ≤ p3 := by
      rcases hY with hY | ⟨_, _, _, hY, _⟩
      · exact hY.1
      · exact hY
    have failed : ∀ q b, p_P (r 139) (r 136 6) = .inl q → 0 ≤ q → qx sc (24 + D + 11) 204 133 [vr 136, l1, l2] [] (0, 0) bb (RP S3 r2 (sk (r 139) (r 136 6) p3) b q 0) Q := by
      intro q b e h0
      have hne : ¬ q = -1 := by omega
      simp only [k204_133, k204_134, c154, RP_ft, q_kn_v, k204_137, k204_140, k204_141, hne, true_implies, false_implies, not_true_eq_false, not_false_eq_true, true_and, and_true, implies_true, or_true, true_or, or_false, false_or, Int.reduceEq, Int.one_ne_zero, Nat.reduceEqDiff]
      exact kF _ _ _ _ _ e hfr2
    have key : ∀ q, ft3 = -1 → sk (r 139) (r 136 6) p3 = q → (q < r 136 6 → p_P (r 139) (r 136 6) = .inl q) → (¬ q < r 136 6 → ∃ L z, Y = .inr (L, z) ∧ p_P (r 139) (r 136 6) = .inr ((pl, L.1, L.2), z)) → qx sc (24 + D + 11) 204 107 [vr 136, l1, l2] [] (0, 0) bb (RP S3 r2 p3 b3 ft3 0) Q := by
      intro q e1 e2 e3 e4
      have h0 : 0 ≤ q := by rw [← e2, ← hf2, ← hn2]; exact sk_0 hp3
      simp only [k204_107, k204_108, c130 hr2 hp3, q_kn_n, k204_111, k204_112, c154, RP_ft, q_kn_v, k204_115, k204_118, k204_119, k204_122, k204_123, k204_126, RP_p, RP_n, hf2, hn2, e2, e1, true_implies, false_implies, not_true_eq_false, not_false_eq_true, true_and, and_true, implies_true, or_true, true_or, or_false, false_or, Int.reduceEq, Int.one_ne_zero, Nat.reduceEqDiff]
      refine ⟨fun h => ?_, fun h => ?_⟩
      · simp only [k204_129, k204_130, c148, q_kn_n, if_true]
        have := failed q q (e3 h) h0
        rw [e2] at this
        exact this
      · obtain ⟨L, z, g1, g2⟩ := e4 h
        obtain ⟨s1, s2, s3, s4⟩ := sY L z g1
        simp only [k204_133, k204_134, c154, RP_ft, q_kn_v, k204_137, true_implies, false_implies, not_true_eq_false, not_false_eq_true, true_and, and_true, implies_true, or_true, true_or, or_false, false_or, Int.reduceEq, Int.one_ne_zero, Nat.reduceEqDiff]
        rw [s1]
        exact kS _ _ _ _ _ _ _ _ _ g2 hfr2 s3 (by rw [← s1]; exact s2) (by rw [← s1]; exact s4)
    rcases hY with hY | ⟨q, y1, y2, y3, y4, y5, y6⟩
    · rcases Y with q | ⟨L, z⟩
      · obtain ⟨-, g1, g2⟩ := hY
        have hne : ¬ ft3 = -1 := by omega
        simp only [k204_107, k204_108, c130 hr2 hp3, q_kn_n, k204_111, k204_112, c154, RP_ft, q_kn_v, k204_115, hf2, hn2, hne, true_implies, false_implies, not_true_eq_false, not_false_eq_true, true_and, and_true, implies_true, or_true, true_or, or_false, false_or, Int.reduceEq, Int.one_ne_zero, Nat.reduceEqDiff]
        rw [g1]
        exact failed q _ eY g2
      · obtain ⟨-, g1, g2⟩ := hY
        rw [hf2, hn2] at g2
        simp only [p_b_inr] at eY
        have h0 : 0 ≤ z := by rw [← g2, ← hf2, ← hn2]; exact sk_0 hp3
        have te := tk_end (n := r 136 6) hr.2.2 h0
        refine key z g1 g2 (fun h => ?_) (fun h => ⟨L, z, rfl, ?_⟩)
        · rw [eY, if_neg (fun e => by have := te.mp e; omega)]
        · rw [eY, if_pos (te.mpr (by omega))]
    · rw [hf2, hn2] at y4 y5 y6
      subst y1
      refine key q y2 y4 (fun _ => eY) (fun h => ?_)
      have h0 : 0 ≤ q := by rw [← y4, ← hf2, ← hn2]; exact sk_0 hp3
      exact absurd ((tk_end hr.2.2 h0).mpr (by omega)) y6
  have ePP : p_P (r 139) (r 136 6) = p_b (p_rs (r 139) (r 136 6) 4 (fun _ => -1) (sk (r 139) (r 136 6) 0)) fun pl p => p_b (p_L (r 139) (r 136 6) pl 5 0 p) fun L p => if tk (r 139) (r 136 6) p = -1 then .inr ((pl, L.1, L.2), p) else .inl p := rfl
  generalize p_rs (r 139) (r 136 6) 4 (fun _ => -1) (sk (r 139) (r 136 6) 0) = Y at *
  rcases Y with y | ⟨pl, z⟩
  · refine m_217f h2 ?_
    simp only [q_kn_n]
    exact fin (.inl y) (fun _ => -1) _ _ _ _ _ _ (Or.inl ⟨h2.1, h2.2⟩) ePP (fun L z e => by cases e)
  · simp only [p_b_inr] at ePP
    have tr := t2 pl z rfl
    have hL := m_L (sc := sc) (bb := bb) hr2 (TR_PL tr) 5 (by omega)
    refine hL D _ _ _ _ _ _ _ _ h2 (by unfold PRE P0; omega) (fun _ i i1 i2 => by rw [z171 i i1 (by omega)]; omega) (fun S3 p3 b3 ft3 h3 e3 i3 g3 => ?_)
    simp only [q_kn_n]
    rw [z14, hf2, hn2] at h3 e3
    simp only [p_b_inr] at h3 e3
    refine fin _ pl _ _ _ _ _ _ h3 ePP (fun L z' e => ?_)
    obtain ⟨s1, s2⟩ := e3 L z' e
    exact ⟨s1, s2, tr, g3⟩
end RO
