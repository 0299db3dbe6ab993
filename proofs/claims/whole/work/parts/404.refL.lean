/-! lists of statements, blocks -/
/-- a list of statements has been read, or stands where none goes on -/
def RS {α : Type} (r : St) (y : PX α) (p ft : Int) : Prop := RA r y p ft ∨ (∃ q, y = .inl q ∧ ft = -1 ∧ 0 ≤ p ∧ sk (r 139) (r 136 6) p = q ∧ ¬ tk (r 139) (r 136 6) q = 125 ∧ ¬ tk (r 139) (r 136 6) q = -1)
def isST (k : Int) : Prop := (97 ≤ k ∧ k ≤ 104) ∨ (65 ≤ k ∧ k ≤ 67) ∨ k = 257 ∨ k = 258 ∨ k = 260
/-- statements can be read -/
def HSK (sc : Nat × (Nat → Int32)) (N : Nat) (bb : Bool) (r : St) (dp w : Int) {β : Type} (g : Int → Int → PX (β × Int)) (G : β → St → St) : Prop :=
  ∀ (D : Nat) (α : Type) (x : PX α) (p b ft : Int) (S : St) (Q : QP) (l1 : V2), RA r x p ft → PRE 0 w S → ((∃ a, x = .inr a) → NV S) →
    (∀ S' p' b' ft', RS r (p_b x (fun _ q => g (S 136 14) q)) p' ft' → (∀ A q, p_b x (fun _ q => g (S 136 14) q) = .inr (A, q) → S' = G A.1 S ∧ S' 136 14 = A.2) → IV S S' → GR 0 w S S' → Q (.inl none) bb (RP S' r p' b' ft' dp)) →
    qx sc (N + D + 10) 217 0 [vr 136, l1] [] (0, 0) bb (RP S r p b ft dp) Q
section RL
variable {sc : Nat × (Nat → Int32)} {D N : Nat} {bb : Bool} {S S0 r : St} {Q : QP} {p b ft dp s w : Int} {pl : Int → Int} {γ : Type} {x : PX γ}
theorem RS_map {β δ : Type} {Y : PX β} {h : β → δ} : RS r (p_b Y (fun a p => .inr (h a, p))) p ft ↔ RS r Y p ft := by
  rcases Y with y | ⟨a, y⟩
  · constructor
    · rintro (h | ⟨q, h⟩)
      · exact Or.inl h
      · exact Or.inr ⟨q, by cases h.1; rfl, h.2⟩
    · rintro (h | ⟨q, h⟩)
      · exact Or.inl h
      · exact Or.inr ⟨q, by cases h.1; rfl, h.2⟩
  · constructor
    · rintro (h | ⟨q, h, -⟩)
      · exact Or.inl h
      · cases h
    · rintro (h | ⟨q, h, -⟩)
      · exact Or.inl h
      · cases h
theorem RA_mp {β δ : Type} {Y : PX β} {h : β → δ} : RA r (p_b Y (fun a p => .inr (h a, p))) p ft ↔ RA r Y p ft := by
  rcases Y with y | ⟨a, y⟩ <;> exact Iff.rfl
theorem m_167 (hr : RH r) (hx : RA r x p ft)
    (k1 : ∀ a q p' b', x = .inr (a, q) → isST (tk (r 139) (r 136 6) q) → RA r x p' ft → b' = q → Q (.inl (some (vi 1))) bb (RP S r p' b' ft dp))
    (k0 : ∀ p' b', (∀ a q, x = .inr (a, q) → ¬ isST (tk (r 139) (r 136 6) q) ∧ b' = q) → RA r x p' ft → Q (.inl (some (vi 0))) bb (RP S r p' b' ft dp)) : qx sc (D + 4) 167 0 [vr 136] [] (0, 0) bb (RP S r p b ft dp) Q := by
  simp only [k167_0, k167_1]
  refine m_168 hr hx (fun a q p1 b1 e1 e2 h1 hb => ?_) (fun p1 b1 e1 h1 => ?_)
  · simp only [q_kn_v, k167_4, k167_41, k167_42, k167_46, true_implies, false_implies, not_true_eq_false, not_false_eq_true, true_and, and_true, implies_true, or_true, true_or, or_false, false_or, Int.reduceEq, Int.one_ne_zero, Nat.reduceEqDiff]
    exact k1 a q _ _ e1 (Or.inl e2) h1 hb
  simp only [q_kn_v, k167_4, k167_7, k167_8, true_implies, false_implies, not_true_eq_false, not_false_eq_true, true_and, and_true, implies_true, or_true, true_or, or_false, false_or, Int.reduceEq, Int.one_ne_zero, Nat.reduceEqDiff]
  refine m_164 hr h1 (fun a q p2 b2 e2 e3 h2 _ hb => ?_) (fun p2 b2 e2 h2 => ?_)
  · simp only [q_kn_v, k167_11, k167_41, k167_42, k167_46, true_implies, false_implies, not_true_eq_false, not_false_eq_true, true_and, and_true, implies_true, or_true, true_or, or_false, false_or, Int.reduceEq, Int.one_ne_zero, Nat.reduceEqDiff]
    exact k1 a q _ _ e2 (Or.inr (Or.inl e3)) h2 hb
  simp only [q_kn_v, k167_11, k167_14, k167_15, k167_17, true_implies, false_implies, not_true_eq_false, not_false_eq_true, true_and, and_true, implies_true, or_true, true_or, or_false, false_or, Int.reduceEq, Int.one_ne_zero, Nat.reduceEqDiff]
  refine m_169 (c := 257) hr h2 (by decide) (fun a q p3 b3 e3 e4 h3 hb => ?_) (fun p3 b3 e3 h3 => ?_)
  · simp only [q_kn_v, k167_20, k167_41, k167_42, k167_46, true_implies, false_implies, not_true_eq_false, not_false_eq_true, true_and, and_true, implies_true, or_true, true_or, or_false, false_or, Int.reduceEq, Int.one_ne_zero, Nat.reduceEqDiff]
    exact k1 a q _ _ e3 (Or.inr (Or.inr (Or.inl e4))) h3 hb
  simp only [q_kn_v, k167_20, k167_23, k167_24, k167_26, true_implies, false_implies, not_true_eq_false, not_false_eq_true, true_and, and_true, implies_true, or_true, true_or, or_false, false_or, Int.reduceEq, Int.one_ne_zero, Nat.reduceEqDiff]
  refine m_169 (c := 258) hr h3 (by decide) (fun a q p4 b4 e4 e5 h4 hb => ?_) (fun p4 b4 e4 h4 => ?_)
  · simp only [q_kn_v, k167_29, k167_41, k167_42, k167_46, true_implies, false_implies, not_true_eq_false, not_false_eq_true, true_and, and_true, implies_true, or_true, true_or, or_false, false_or, Int.reduceEq, Int.one_ne_zero, Nat.reduceEqDiff]
    exact k1 a q _ _ e4 (Or.inr (Or.inr (Or.inr (Or.inl e5)))) h4 hb
  simp only [q_kn_v, k167_29, k167_32, k167_33, k167_35, true_implies, false_implies, not_true_eq_false, not_false_eq_true, true_and, and_true, implies_true, or_true, true_or, or_false, false_or, Int.reduceEq, Int.one_ne_zero, Nat.reduceEqDiff]
  refine m_169 (c := 260) hr h4 (by decide) (fun a q p5 b5 e5 e6 h5 hb => ?_) (fun p5 b5 e5 h5 => ?_)
  · simp only [q_kn_v, k167_38, k167_41, k167_42, k167_46, true_implies, false_implies, not_true_eq_false, not_false_eq_true, true_and, and_true, implies_true, or_true, true_or, or_false, false_or, Int.reduceEq, Int.one_ne_zero, Nat.reduceEqDiff]
    exact k1 a q _ _ e5 (Or.inr (Or.inr (Or.inr (Or.inr e6)))) h5 hb
  simp only [q_kn_v, k167_38, k167_45, k167_46, true_implies, false_implies, not_true_eq_false, not_false_eq_true, true_and, and_true, implies_true, or_true, true_or, or_false, false_or, Int.reduceEq, Int.one_ne_zero, Nat.reduceEqDiff]
  refine k0 _ _ (fun a q e => ⟨fun h => ?_, (e5 a q e).2⟩) h5
  rcases h with h | h | h | h | h
  · exact (e1 a q e).1 h
  · exact (e2 a q e).1 h
  · exact (e3 a q e).1 h
  · exact (e4 a q e).1 h
  · exact (e5 a q e).1 h
theorem m_217f {q : Int} {l1 : V2} (hx : RA r (.inl q : PX γ) p ft) (kk : Q (.inl none) bb (RP S r p b ft dp)) : qx sc (D + 1) 217 0 [vr 136, l1] [] (0, 0) bb (RP S r p b ft dp) Q := by
  simp only [k217_0, k217_1]
  refine m_154 hx (fun q eq1 _ => ?_) (fun a q eq1 _ => by cases eq1)
  simp only [q_kn_v, k217_4, k217_183, true_implies, false_implies, not_true_eq_false, not_false_eq_true, true_and, and_true, implies_true, or_true, true_or, or_false, false_or, Int.reduceEq, Int.one_ne_zero, Nat.reduceEqDiff]
  exact kk
theorem GR_refl (hw : 0 ≤ w) (h : S 136 14 ≤ 40) : GR 0 w S S := by unfold GR; omega
/-- no sixth block -/
theorem m_131z (hr : RH r) : HBK sc N bb r 5 0 (β := Unit) (fun _ p => .inl p) (fun _ S => S) := by
  intro D α x p b ft S Q hx hp hn kk
  unfold PRE at hp
  have hg : GR 0 0 S S := GR_refl (by omega) (by omega)
  simp only [k131_0, k131_1]
  refine m_154 hx (fun q eq1 _ => ?_) (fun a q eq1 eq2 => ?_)
  · simp only [q_kn_v, k131_4, k131_7, true_implies, false_implies, not_true_eq_false, not_false_eq_true, true_and, and_true, implies_true, or_true, true_or, or_false, false_or, Int.reduceEq, Int.one_ne_zero, Nat.reduceEqDiff]
    subst eq1
    exact kk S p b ft hx (fun A q e => by cases e) IV_refl hg
  · subst eq1
    simp only [p_b_inr] at kk
    simp only [q_kn_v, k131_4, k131_8, k131_9, true_implies, false_implies, not_true_eq_false, not_false_eq_true, true_and, and_true, implies_true, or_true, true_or, or_false, false_or, Int.reduceEq, Int.one_ne_zero, Nat.reduceEqDiff]
    have hq : 0 ≤ q := by have := hx.2.2; rw [← this]; exact sk_0 hx.1
    have hsk : sk (r 139) (r 136 6) p = q := hx.2.2
    have hx' : RA r (.inr (a, q) : PX α) q ft := ⟨hq, eq2, by rw [← hsk]; exact sk_id⟩
    rw [c130 hr hx.1, hsk]
    simp only [q_kn_n, k131_12, k131_13, k131_16, k131_17, k131_20, k131_21, k131_23, k131_25, RP_dp, c159 hr hq, q_kn_v, k131_28, k131_31, k131_32, c148, k131_35, true_implies, false_implies, not_true_eq_false, not_false_eq_true, true_and, and_true, implies_true, or_true, true_or, or_false, false_or, Int.reduceEq, Int.one_ne_zero, Nat.reduceEqDiff]
    refine ⟨fun h => ?_, fun h => ?_⟩
    · rw [if_pos eq2]
      exact kk _ _ _ _ ⟨hq, rfl, hq⟩ (fun A q e => by cases e) IV_refl hg
    · simp only [k131_36, k131_37, k131_39]
      refine m_127 hr hx' (by decide) (by decide) (by decide) (by decide) (fun p2 b2 ft2 h2 => ?_)
      have ht : ¬ tk (r 139) (r 136 6) q = 123 := fun e => by
        have := (tk_sign (n := r 136 6) (c := 123) hr.2.2 hq (by decide) (by decide) (by decide) (by decide)).mp e
        omega
      simp only [p_b_inr, p_sg, if_neg ht] at h2
      simp only [q_kn_n, k131_42, k131_43, k131_44, k131_47, k131_48, k131_49, k131_52, k131_53, RP_p, RP_b, RP_ft, RP_dp, RP_n, RP_told, RP_src, RP_least, RP_14, RP_15, RP_16, RP_17, RP_18, RP_49, RP_51, RP_c142, RP_u142, RP_c143, RP_u143, RP_c144, RP_u144, RP_c145, RP_u145, RP_c146, RP_u146, RP_c147, RP_u147, RP_c148, RP_u148, RP_c149, RP_u149, RP_c150, RP_u150, RP_c151, RP_u151, RP_c152, RP_u152, RP_c153, RP_u153, RP_c154, RP_u154, RP_c155, RP_u155, RP_c156, RP_u156, RP_c157, RP_u157, RP_c158, RP_u158, RP_c159, RP_u159, RP_c160, RP_u160, RP_c161, RP_u161, RP_c162, RP_u162, RP_c163, RP_u163, RP_c164, RP_u164, RP_c165, RP_u165, RP_c166, RP_u166, RP_c167, RP_u167, RP_c168, RP_u168, RP_c169, RP_u169, RP_c170, RP_u170, RP_c171, RP_u171, RP_c172, RP_u172, RP_upp, RP_upb, RP_upft, RP_updp, RP_uptold, RP_upleast, RP_up14, RP_up15, RP_up16, RP_up17, RP_up18, RP_up49, RP_up51]
      refine ⟨by omega, ?_⟩
      refine m_217f h2 ?_
      simp only [q_kn_n, k131_56, k131_57, k131_59]
      rw [c127 hr h2.1]
      refine ⟨fun _ => ?_, fun h => by have := h2.2; simp only at this; omega⟩
      simp only [q_kn_n, k131_62, k131_63, k131_64, k131_67, k131_68, k131_69, k131_72, RP_p, RP_b, RP_ft, RP_dp, RP_n, RP_told, RP_src, RP_least, RP_14, RP_15, RP_16, RP_17, RP_18, RP_49, RP_51, RP_c142, RP_u142, RP_c143, RP_u143, RP_c144, RP_u144, RP_c145, RP_u145, RP_c146, RP_u146, RP_c147, RP_u147, RP_c148, RP_u148, RP_c149, RP_u149, RP_c150, RP_u150, RP_c151, RP_u151, RP_c152, RP_u152, RP_c153, RP_u153, RP_c154, RP_u154, RP_c155, RP_u155, RP_c156, RP_u156, RP_c157, RP_u157, RP_c158, RP_u158, RP_c159, RP_u159, RP_c160, RP_u160, RP_c161, RP_u161, RP_c162, RP_u162, RP_c163, RP_u163, RP_c164, RP_u164, RP_c165, RP_u165, RP_c166, RP_u166, RP_c167, RP_u167, RP_c168, RP_u168, RP_c169, RP_u169, RP_c170, RP_u170, RP_c171, RP_u171, RP_c172, RP_u172, RP_upp, RP_upb, RP_upft, RP_updp, RP_uptold, RP_upleast, RP_up14, RP_up15, RP_up16, RP_up17, RP_up18, RP_up49, RP_up51]
      refine ⟨by omega, ?_⟩
      exact kk _ _ _ _ h2 (fun A q e => by cases e) IV_refl hg
theorem m_131 {β : Type} {g : Int → Int → PX (β × Int)} {G : β → St → St} (hS : HSK sc N bb r (dp + 1) w g G) (hr : RH r) (hdp : 0 ≤ dp ∧ dp < 5) (hw : 0 ≤ w) : HBK sc N bb r dp w (p_bk (r 139) (r 136 6) g) G := by
  intro D α x p b ft S Q hx hp hn kk
  have hP := hp
  unfold PRE at hP
  have hg : GR 0 w S S := GR_refl (by omega) (by omega)
  simp only [k131_0, k131_1]
  refine m_154 hx (fun q eq1 _ => ?_) (fun a q eq1 eq2 => ?_)
  · simp only [q_kn_v, k131_4, k131_7, true_implies, false_implies, not_true_eq_false, not_false_eq_true, true_and, and_true, implies_true, or_true, true_or, or_false, false_or, Int.reduceEq, Int.one_ne_zero, Nat.reduceEqDiff]
    subst eq1
    exact kk S p b ft hx (fun A q e => by cases e) IV_refl hg
  · subst eq1
    simp only [p_b_inr, p_bk] at kk
    simp only [q_kn_v, k131_4, k131_8, k131_9, true_implies, false_implies, not_true_eq_false, not_false_eq_true, true_and, and_true, implies_true, or_true, true_or, or_false, false_or, Int.reduceEq, Int.one_ne_zero, Nat.reduceEqDiff]
    have hq : 0 ≤ q := by have := hx.2.2; rw [← this]; exact sk_0 hx.1
    have hsk : sk (r 139) (r 136 6) p = q := hx.2.2
    have hx' : RA r (.inr (a, q) : PX α) q ft := ⟨hq, eq2, by rw [← hsk]; exact sk_id⟩
    have h5 : ¬ dp = 5 := by omega
    rw [c130 hr hx.1, hsk]
    simp only [q_kn_n, k131_12, k131_13, k131_16, k131_17, RP_dp, h5, k131_36, k131_37, k131_39, true_implies, false_implies, not_true_eq_false, not_false_eq_true, true_and, and_true, implies_true, or_true, true_or, or_false, false_or, Int.reduceEq, Int.one_ne_zero, Nat.reduceEqDiff]
    refine m_127 hr hx' (by decide) (by decide) (by decide) (by decide) (fun p2 b2 ft2 h2 => ?_)
    simp only [q_kn_n, k131_42, k131_43, k131_44, k131_47, k131_48, k131_49, k131_52, k131_53, RP_p, RP_b, RP_ft, RP_dp, RP_n, RP_told, RP_src, RP_least, RP_14, RP_15, RP_16, RP_17, RP_18, RP_49, RP_51, RP_c142, RP_u142, RP_c143, RP_u143, RP_c144, RP_u144, RP_c145, RP_u145, RP_c146, RP_u146, RP_c147, RP_u147, RP_c148, RP_u148, RP_c149, RP_u149, RP_c150, RP_u150, RP_c151, RP_u151, RP_c152, RP_u152, RP_c153, RP_u153, RP_c154, RP_u154, RP_c155, RP_u155, RP_c156, RP_u156, RP_c157, RP_u157, RP_c158, RP_u158, RP_c159, RP_u159, RP_c160, RP_u160, RP_c161, RP_u161, RP_c162, RP_u162, RP_c163, RP_u163, RP_c164, RP_u164, RP_c165, RP_u165, RP_c166, RP_u166, RP_c167, RP_u167, RP_c168, RP_u168, RP_c169, RP_u169, RP_c170, RP_u170, RP_c171, RP_u171, RP_c172, RP_u172, RP_upp, RP_upb, RP_upft, RP_updp, RP_uptold, RP_upleast, RP_up14, RP_up15, RP_up16, RP_up17, RP_up18, RP_up49, RP_up51]
    refine ⟨by omega, ?_⟩
    simp only [p_b_inr, p_sg] at h2
    have tail : ∀ (S3 : St) (p3 b3 ft3 : Int), 0 ≤ p3 → (∀ p' b' ft', RA r (if tk (r 139) (r 136 6) q = 123 then p_b (g (S 136 14) (nx (r 139) (r 136 6) q)) fun L p => p_b (p_sg (r 139) (r 136 6) 125 p) fun _ p => .inr (L, p) else .inl q) p' ft' → Q (.inl none) bb (RP S3 r p' b' ft' dp)) →
        RS r (p_b (if tk (r 139) (r 136 6) q = 123 then .inr ((), nx (r 139) (r 136 6) q) else .inl q : PX Unit) (fun _ z => g (S 136 14) z)) p3 ft3 → qx sc (N + D + 11) 131 56 [vr 136] [] (0, 0) bb (RP S3 r p3 b3 ft3 (dp + 1)) Q := by
      intro S3 p3 b3 ft3 hp3 kq h3
      simp only [k131_56, k131_57, k131_59]
      have fin : ∀ p4 b4 ft4, RA r (if tk (r 139) (r 136 6) q = 123 then p_b (g (S 136 14) (nx (r 139) (r 136 6) q)) fun L p => p_b (p_sg (r 139) (r 136 6) 125 p) fun _ p => .inr (L, p) else .inl q) p4 ft4 → qx sc (N + D + 11) 131 62 [vr 136] [] (0, 0) bb (RP S3 r p4 b4 ft4 (dp + 1)) Q := by
        intro p4 b4 ft4 h4
        simp only [k131_62, k131_63, k131_64, k131_67, k131_68, k131_69, k131_72, RP_p, RP_b, RP_ft, RP_dp, RP_n, RP_told, RP_src, RP_least, RP_14, RP_15, RP_16, RP_17, RP_18, RP_49, RP_51, RP_c142, RP_u142, RP_c143, RP_u143, RP_c144, RP_u144, RP_c145, RP_u145, RP_c146, RP_u146, RP_c147, RP_u147, RP_c148, RP_u148, RP_c149, RP_u149, RP_c150, RP_u150, RP_c151, RP_u151, RP_c152, RP_u152, RP_c153, RP_u153, RP_c154, RP_u154, RP_c155, RP_u155, RP_c156, RP_u156, RP_c157, RP_u157, RP_c158, RP_u158, RP_c159, RP_u159, RP_c160, RP_u160, RP_c161, RP_u161, RP_c162, RP_u162, RP_c163, RP_u163, RP_c164, RP_u164, RP_c165, RP_u165, RP_c166, RP_u166, RP_c167, RP_u167, RP_c168, RP_u168, RP_c169, RP_u169, RP_c170, RP_u170, RP_c171, RP_u171, RP_c172, RP_u172, RP_upp, RP_upb, RP_upft, RP_updp, RP_uptold, RP_upleast, RP_up14, RP_up15, RP_up16, RP_up17, RP_up18, RP_up49, RP_up51]
        refine ⟨by omega, ?_⟩
        rw [show dp + 1 - 1 = dp by omega]
        exact kq _ _ _ h4
      rcases h3 with h3 | ⟨q3, e3, e4, e5, e6, e7, e8⟩
      · refine m_127 hr h3 (by decide) (by decide) (by decide) (by decide) (fun p4 b4 ft4 h4 => ?_)
        simp only [q_kn_n]
        refine fin _ _ _ ?_
        by_cases ht : tk (r 139) (r 136 6) q = 123
        · rw [if_pos ht] at h4 ⊢
          simp only [p_b_inr] at h4
          exact RA_map.mpr h4
        · rw [if_neg ht] at h4 ⊢
          exact h4
      · refine m_127 (x := (.inr ((), q3) : PX Unit)) hr ⟨e5, e4, e6⟩ (by decide) (by decide) (by decide) (by decide) (fun p4 b4 ft4 h4 => ?_)
        simp only [q_kn_n]
        refine fin _ _ _ ?_
        simp only [p_b_inr, p_sg, if_neg e7] at h4
        by_cases ht : tk (r 139) (r 136 6) q = 123
        · rw [if_pos ht] at e3 ⊢
          simp only [p_b_inr] at e3
          rw [e3]
          exact h4
        · rw [if_neg ht] at e3 ⊢
          cases e3
          exact h4
    refine hS D _ _ _ _ _ _ _ _ h2 hp (fun _ => hn ⟨_, rfl⟩) (fun S3 p3 b3 ft3 h3 e3 i3 g3 => ?_)
    simp only [q_kn_n]
    have hp3 : 0 ≤ p3 := by
      rcases h3 with h3 | ⟨q3, -, -, h3, -⟩
      · exact h3.1
      · exact h3
    refine tail S3 p3 b3 ft3 hp3 (fun p' b' ft' h' => kk S3 p' b' ft' h' (fun A q5 e => ?_) i3 g3) h3
    by_cases ht : tk (r 139) (r 136 6) q = 123
    · rw [if_pos ht] at e e3
      simp only [p_b_inr] at e3
      generalize g (S 136 14) (nx (r 139) (r 136 6) q) = Y at *
      rcases Y with Y | ⟨Y, z⟩
      · cases e
      · simp only [p_b_inr] at e
        have := e3 Y z rfl
        generalize p_sg (r 139) (r 136 6) 125 z = Z at *
        rcases Z with Z | ⟨Z, z2⟩
        · cases e
        · cases e
          exact this
    · rw [if_neg ht] at e
      cases e
end RL
