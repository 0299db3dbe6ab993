section RK
variable {sc : Nat × (Nat → Int32)} {D N : Nat} {bb : Bool} {S S0 r : St} {Q : QP} {p b ft dp s w : Int} {pl : Int → Int}
theorem m_205 {α β γ : Type} {x : PX γ} {cp : Bool → TT → β → β → α} {e0 : β} {blk : Int → Int → PX (β × Int)} {G : β → St → St} (hB : HBK sc N bb r dp w blk G) (hG : ∀ A, GF (G A)) (hw : 0 ≤ w) (hr : RH r) (hpl : PL r pl) (hx : RA r x p ft) (hs : S 136 14 = s + 1) (hs0 : 0 ≤ s) (hp : PRE 1 (w + 32) S) (hP0 : P0 S0) (hb : S = F_beg S0 4) (hn : (∃ a, x = .inr a) → NV S)
    (kk : ∀ S' p' b' ft', RA r (p_b x (fun _ q => p_wh2 (r 139) (r 136 6) pl cp e0 blk s q)) p' ft' → (∀ y q, p_b x (fun _ q => p_wh2 (r 139) (r 136 6) pl cp e0 blk s q) = .inr (y, q) → (∃ c q A, blk c q = .inr A) ∧ ∃ t A, y.1 = cp true t A e0 ∧ S' = F_wh2 t (G A) s S ∧ S' 136 14 = y.2) → IV S0 S' → GR 1 (w + 32) S S' → Q (.inl none) bb (RP S' r p' b' ft' dp)) :
    qx sc (N + D + 13) 205 0 [vr 136, vi s, vn, vn, vn, vn, vn, vn, vn, vn, vn, vn] [] (0, 0) bb (RP S r p b ft dp) Q := by
  have hP := hp
  unfold PRE P0 at hP
  have hi : IV S0 S := by rw [hb]; exact IV_beg IV_refl
  have h0 : S0 136 14 = s := by
    have : S 136 14 = S0 136 14 + 1 := by rw [hb]; exact beg_14
    omega
  have hC0 := hi.2
  unfold CU at hC0
  simp only [k205_0, k205_1, k205_4, k205_5, k205_6, k205_7, k205_10, k205_11, k205_12, k205_15, k205_16, k205_19, k205_20, k205_21, k205_22, k205_23, k205_26, k205_27, k205_28, k205_29, k205_30, k205_33, k205_34, k205_35, k205_38, k205_39, k205_40, k205_41, RP_p, RP_b, RP_ft, RP_dp, RP_n, RP_told, RP_src, RP_least, RP_14, RP_15, RP_16, RP_17, RP_18, RP_49, RP_51, RP_c142, RP_u142, RP_c143, RP_u143, RP_c144, RP_u144, RP_c145, RP_u145, RP_c146, RP_u146, RP_c147, RP_u147, RP_c148, RP_u148, RP_c149, RP_u149, RP_c150, RP_u150, RP_c151, RP_u151, RP_c152, RP_u152, RP_c153, RP_u153, RP_c154, RP_u154, RP_c155, RP_u155, RP_c156, RP_u156, RP_c157, RP_u157, RP_c158, RP_u158, RP_c159, RP_u159, RP_c160, RP_u160, RP_c161, RP_u161, RP_c162, RP_u162, RP_c163, RP_u163, RP_c164, RP_u164, RP_c165, RP_u165, RP_c166, RP_u166, RP_c167, RP_u167, RP_c168, RP_u168, RP_c169, RP_u169, RP_c170, RP_u170, RP_c171, RP_u171, RP_c172, RP_u172, RP_upp, RP_upb, RP_upft, RP_updp, RP_uptold, RP_upleast, RP_up14, RP_up15, RP_up16, RP_up17, RP_up18, RP_up49, RP_up51, q_up_eq, q_up_ne, q_up_ne2, q_upf_ne, q_upf_eq, not_false_eq_true, qt_145, ql_145, qt_160, ql_160, qt_161, ql_161, Int.reduceEq, Nat.reduceEqDiff, true_implies, false_implies, not_true_eq_false, not_false_eq_true, true_and, and_true, implies_true, or_true, true_or, or_false, false_or, Int.reduceEq, Int.one_ne_zero, Nat.reduceEqDiff]
  repeat refine And.intro (by omega) ?_
  have ir : IV S0 (q_up (q_up (q_up (q_up S 136 17 (S 136 17 + 1)) 145 s (S 136 17)) 160 (S 136 17) s) 161 (S 136 17) (S 136 49)) := by
    refine IV_up (IV_up (IV_up (IV_upf hi ?_ (by decide)) (by decide) (nb14 (by omega) (by decide))) (by decide) (nb17 (by omega) (by decide))) (by decide) (nb17 (by omega) (by decide))
    exact ⟨fun h => absurd h (by decide), fun h => absurd h (by decide), fun h => absurd h (by decide), fun _ => by omega, fun h => absurd h (by decide), fun h => absurd h (by decide)⟩
  have cr : ∀ i, ¬ i = 17 → q_up (q_up (q_up (q_up S 136 17 (S 136 17 + 1)) 145 s (S 136 17)) 160 (S 136 17) s) 161 (S 136 17) (S 136 49) 136 i = S 136 i := fun i h => by
    rw [q_up_ne _ _ _ _ (by decide), q_up_ne _ _ _ _ (by decide), q_up_ne _ _ _ _ (by decide), q_up_ne2 _ _ _ h]
  have cr7 : q_up (q_up (q_up (q_up S 136 17 (S 136 17 + 1)) 145 s (S 136 17)) 160 (S 136 17) s) 161 (S 136 17) (S 136 49) 136 17 = S 136 17 + 1 := by
    rw [q_up_ne _ _ _ _ (by decide), q_up_ne _ _ _ _ (by decide), q_up_ne _ _ _ _ (by decide), q_up_eq]
  have nr : NV S → NV (q_up (q_up (q_up (q_up S 136 17 (S 136 17 + 1)) 145 s (S 136 17)) 160 (S 136 17) s) 161 (S 136 17) (S 136 49)) := fun h => NV_up (NV_up (NV_up (NV_upf h (by decide)) (by decide) (by decide)) (by decide) (by decide)) (by decide) (by decide)
  have r161 : q_up (q_up (q_up (q_up S 136 17 (S 136 17 + 1)) 145 s (S 136 17)) 160 (S 136 17) s) 161 (S 136 17) (S 136 49) 161 (S 136 17) = S 136 49 := q_up_eq _ _ _ _
  generalize hSr : q_up (q_up (q_up (q_up S 136 17 (S 136 17 + 1)) 145 s (S 136 17)) 160 (S 136 17) s) 161 (S 136 17) (S 136 49) = Sr at *
  refine m_222 hr hpl hx ⟨hs0, by omega⟩ (fun S1 p1 b1 ft1 h1 e1 t1 => ?_)
  simp only [q_kn_n, k205_44, k205_45]
  have eY : p_b x (fun _ q => p_wh2 (r 139) (r 136 6) pl cp e0 blk s q) = p_b (p_b x (fun _ q => p_te (r 139) (r 136 6) pl q)) (fun t p => p_b (blk (s + 1) p) fun A p => .inr ((cp true t A.1 e0, A.2), p)) := by
    rw [p_b_b]; rfl
  rw [eY] at kk
  have hxr : ∀ t q, p_b x (fun _ q => p_te (r 139) (r 136 6) pl q) = .inr (t, q) → ∃ a, x = .inr a := by
    intro t q h
    rcases x with x | x
    · cases h
    · exact ⟨x, rfl⟩
  generalize p_b x (fun _ q => p_te (r 139) (r 136 6) pl q) = y at *
  have c1 : ∀ i, S1 136 i = Sr 136 i := fun i => t1 136 i (by omega) (by omega) (by omega)
  have c114 : S1 136 14 = s + 1 := by rw [c1, cr 14 (by decide), hs]
  have c115 : S1 136 15 = S 136 15 := by rw [c1, cr 15 (by decide)]
  have c116 : S1 136 16 = S 136 16 := by rw [c1, cr 16 (by decide)]
  have c117 : S1 136 17 = S 136 17 + 1 := by rw [c1, cr7]
  have c118 : S1 136 18 = S 136 18 := by rw [c1, cr 18 (by decide)]
  have c151 : S1 136 51 = S 136 51 := by rw [c1, cr 51 (by decide)]
  have i1 : IV S0 S1 := IV_TF ir (by omega) t1
  refine m_154 h1 (fun q eq1 eq2 => ?_) (fun t q eq1 eq2 => ?_)
  · simp only [q_kn_v, k205_48, k205_51, true_implies, false_implies, not_true_eq_false, not_false_eq_true, true_and, and_true, implies_true, or_true, true_or, or_false, false_or, Int.reduceEq, Int.one_ne_zero, Nat.reduceEqDiff]
    subst eq1
    exact kk _ _ _ _ h1 (fun y q e => by cases e) i1 (by unfold GR; omega)
  · subst eq1
    have n1 := hn (hxr t q rfl)
    obtain ⟨e1, ok1, ok2⟩ := e1 t q rfl
    have sv1 : SV s S1 := by rw [e1]; exact SV_test ok1 ok2
    have n1 : NV S1 := by rw [e1]; exact NV_test (nr n1)
    have s161 : S1 161 (S 136 17) = S 136 49 := by rw [t1 161 _ (by omega) (by omega) (by omega)]; exact r161
    simp only [p_b_inr] at kk
    simp only [q_kn_v, k205_48, k205_52, k205_53, k205_54, k205_57, k205_58, RP_up49, true_implies, false_implies, not_true_eq_false, not_false_eq_true, true_and, and_true, implies_true, or_true, true_or, or_false, false_or, Int.reduceEq, Int.one_ne_zero, Nat.reduceEqDiff]
    have i2 : IV S0 (q_up S1 136 49 (S 136 17)) := IV_upf i1 ⟨fun h => absurd h (by decide), fun h => absurd h (by decide), fun h => absurd h (by decide), fun h => absurd h (by decide), fun h => absurd h (by decide), fun h => absurd h (by decide)⟩ (by decide)
    have n2 : NV (q_up S1 136 49 (S 136 17)) := NV_upf n1 (by decide)
    have c2 : ∀ i, ¬ i = 49 → q_up S1 136 49 (S 136 17) 136 i = S1 136 i := fun i h => q_up_ne2 _ _ _ h
    have sv2 : SV s (q_up S1 136 49 (S 136 17)) := SV_of sv1 (fun i _ => ⟨q_up_ne _ _ _ _ (by decide), q_up_ne _ _ _ _ (by decide)⟩)
    have s2 : q_up S1 136 49 (S 136 17) 161 (S 136 17) = S 136 49 := by rw [q_up_ne _ _ _ _ (by decide)]; exact s161
    have hwr : q_up S1 136 49 (S 136 17) = F_wr S s t := by rw [e1, ← hSr]; rfl
    generalize hS2 : q_up S1 136 49 (S 136 17) = S2 at *
    have c214 := c2 14 (by decide)
    have c215 := c2 15 (by decide)
    have c216 := c2 16 (by decide)
    have c217 := c2 17 (by decide)
    have c218 := c2 18 (by decide)
    have c251 := c2 51 (by decide)
    have hP2 : P0 S2 := by unfold P0; omega
    refine m_144 hB hw h1 (by unfold PRE P0; omega) n2 (fun A q2 b2 eqA a1 a2 => ?_) (fun S' q2 p2 b2 ft2 eqA h2 i3 g3 => ?_)
    · rw [show S2 136 14 = s + 1 by omega] at eqA
      simp only [p_b_inr] at eqA
      obtain ⟨iD, nD, d14, d15, d16, d17, d18, d49, d51, d171⟩ := dry_ok (hG A.1) hP2
      have nd := nD n2
      have svd : SV s (F_dry (G A.1) S2).2 := SV_IV sv2 iD (by omega)
      have sd : (F_dry (G A.1) S2).2 161 (S 136 17) = S 136 49 := by rw [iD.1 161 _ (by unfold bel; omega)]; exact s2
      generalize hset : (F_dry (G A.1) S2).1 = set at *
      generalize hSd : (F_dry (G A.1) S2).2 = Sd at *
      simp only [q_kn_v, k205_61, k205_62, k205_63, k205_66, k205_69, k205_70, k205_71, k205_74, k205_75, k205_76, k205_79, k205_80, k205_81, k205_83, k205_84, k205_85, c154, RP_ft, RP_p, RP_b, RP_ft, RP_dp, RP_n, RP_told, RP_src, RP_least, RP_14, RP_15, RP_16, RP_17, RP_18, RP_49, RP_51, RP_c142, RP_u142, RP_c143, RP_u143, RP_c144, RP_u144, RP_c145, RP_u145, RP_c146, RP_u146, RP_c147, RP_u147, RP_c148, RP_u148, RP_c149, RP_u149, RP_c150, RP_u150, RP_c151, RP_u151, RP_c152, RP_u152, RP_c153, RP_u153, RP_c154, RP_u154, RP_c155, RP_u155, RP_c156, RP_u156, RP_c157, RP_u157, RP_c158, RP_u158, RP_c159, RP_u159, RP_c160, RP_u160, RP_c161, RP_u161, RP_c162, RP_u162, RP_c163, RP_u163, RP_c164, RP_u164, RP_c165, RP_u165, RP_c166, RP_u166, RP_c167, RP_u167, RP_c168, RP_u168, RP_c169, RP_u169, RP_c170, RP_u170, RP_c171, RP_u171, RP_c172, RP_u172, RP_upp, RP_upb, RP_upft, RP_updp, RP_uptold, RP_upleast, RP_up14, RP_up15, RP_up16, RP_up17, RP_up18, RP_up49, RP_up51, qt_162, ql_162, true_implies, false_implies, not_true_eq_false, not_false_eq_true, true_and, and_true, implies_true, or_true, true_or, or_false, false_or, Int.reduceEq, Int.one_ne_zero, Nat.reduceEqDiff]
      refine ⟨by omega, ?_⟩
      have u18 : q_up Sd 162 (S 136 17) (Sd 136 15) 136 18 = Sd 136 18 := q_up_ne _ _ _ _ (by decide)
      rw [c172 (by omega) (by omega)]
      simp only [q_kn_v, k205_88, k205_90, k205_91, k205_94, k205_96, k205_97, k205_100, k205_102, k205_103, RP_p, RP_b, RP_ft, RP_dp, RP_n, RP_told, RP_src, RP_least, RP_14, RP_15, RP_16, RP_17, RP_18, RP_49, RP_51, RP_c142, RP_u142, RP_c143, RP_u143, RP_c144, RP_u144, RP_c145, RP_u145, RP_c146, RP_u146, RP_c147, RP_u147, RP_c148, RP_u148, RP_c149, RP_u149, RP_c150, RP_u150, RP_c151, RP_u151, RP_c152, RP_u152, RP_c153, RP_u153, RP_c154, RP_u154, RP_c155, RP_u155, RP_c156, RP_u156, RP_c157, RP_u157, RP_c158, RP_u158, RP_c159, RP_u159, RP_c160, RP_u160, RP_c161, RP_u161, RP_c162, RP_u162, RP_c163, RP_u163, RP_c164, RP_u164, RP_c165, RP_u165, RP_c166, RP_u166, RP_c167, RP_u167, RP_c168, RP_u168, RP_c169, RP_u169, RP_c170, RP_u170, RP_c171, RP_u171, RP_c172, RP_u172, RP_upp, RP_upb, RP_upft, RP_updp, RP_uptold, RP_upleast, RP_up14, RP_up15, RP_up16, RP_up17, RP_up18, RP_up49, RP_up51]
      have c3 : ∀ i, ¬ i = 18 → F_lay (q_up Sd 162 (S 136 17) (Sd 136 15)) 8 (S 136 17) 0 136 i = Sd 136 i := fun i h => by rw [F_lay_f h, q_up_ne _ _ _ _ (by decide)]
      have c3k : F_lay (q_up Sd 162 (S 136 17) (Sd 136 15)) 8 (S 136 17) 0 136 18 = Sd 136 18 + 1 := by rw [F_lay_18, u18]
      have n3 : NV (F_lay (q_up Sd 162 (S 136 17) (Sd 136 15)) 8 (S 136 17) 0) := NV_lay (NV_up nd (by decide) (by decide))
      have r3 : ∀ c i, ¬ c = 136 → ¬ c = 162 → ¬ c = 168 → ¬ c = 169 → ¬ c = 170 → F_lay (q_up Sd 162 (S 136 17) (Sd 136 15)) 8 (S 136 17) 0 c i = Sd c i := fun c i a1 a2 a3 a4 a5 => by rw [F_lay_ne a1 a3 a4 a5, q_up_ne _ _ _ _ a2]
      generalize hS3 : F_lay (q_up Sd 162 (S 136 17) (Sd 136 15)) 8 (S 136 17) 0 = S3 at *
      have c315 := c3 15 (by decide)
      refine c205_r 8 0 S3 _ _ (by omega) (by omega) (by omega) (by omega) (by omega) (by omega) (fun l8 l9 => ?_)
      obtain ⟨-, q2', q3, q4, q5, q6, q7, q8⟩ := round_ok (S0 := S3) (s := s) (set := set) 8 0 S3 IV_refl (by omega)
      have n4 := q2' n3
      have v4 := round_147 (s := s) (set := set) 8 0 S3 (by omega) (by omega) (by omega)
      generalize hS4 : F_round set s 8 0 S3 = S4 at *
      have c4 : ∀ i, ¬ i = 15 → ¬ i = 18 → S4 136 i = Sd 136 i := fun i a1 a2 => by rw [q3 i a1 a2, c3 i a2]
      have c414 := c4 14 (by decide) (by decide)
      have c416 := c4 16 (by decide) (by decide)
      have c417 := c4 17 (by decide) (by decide)
      have c451 := c4 51 (by decide) (by decide)
      simp only [k205_160, k205_161, k205_164, k205_165, k205_166, k205_169, k205_171, k205_172, k205_173, k205_174, k205_175, k205_176, k205_177, RP_p, RP_b, RP_ft, RP_dp, RP_n, RP_told, RP_src, RP_least, RP_14, RP_15, RP_16, RP_17, RP_18, RP_49, RP_51, RP_c142, RP_u142, RP_c143, RP_u143, RP_c144, RP_u144, RP_c145, RP_u145, RP_c146, RP_u146, RP_c147, RP_u147, RP_c148, RP_u148, RP_c149, RP_u149, RP_c150, RP_u150, RP_c151, RP_u151, RP_c152, RP_u152, RP_c153, RP_u153, RP_c154, RP_u154, RP_c155, RP_u155, RP_c156, RP_u156, RP_c157, RP_u157, RP_c158, RP_u158, RP_c159, RP_u159, RP_c160, RP_u160, RP_c161, RP_u161, RP_c162, RP_u162, RP_c163, RP_u163, RP_c164, RP_u164, RP_c165, RP_u165, RP_c166, RP_u166, RP_c167, RP_u167, RP_c168, RP_u168, RP_c169, RP_u169, RP_c170, RP_u170, RP_c171, RP_u171, RP_c172, RP_u172, RP_upp, RP_upb, RP_upft, RP_updp, RP_uptold, RP_upleast, RP_up14, RP_up15, RP_up16, RP_up17, RP_up18, RP_up49, RP_up51, qt_163, ql_163, true_implies, false_implies, not_true_eq_false, not_false_eq_true, true_and, and_true, implies_true, or_true, true_or, or_false, false_or, Int.reduceEq, Int.one_ne_zero, Nat.reduceEqDiff]
      repeat refine And.intro (by omega) ?_
      have u4 : q_up S4 163 (S 136 17) (S4 136 15 - S3 136 15) 136 18 = S4 136 18 := q_up_ne _ _ _ _ (by decide)
      rw [c172 (by omega) (by omega)]
      simp only [q_kn_v, k205_180, k205_182, k205_183, k205_184]
      have sv4 : SV s (F_lay (q_up S4 163 (S 136 17) (S4 136 15 - S3 136 15)) 0 s 0) := SV_of svd (fun i _ => by
        rw [F_lay_ne (by decide) (by decide) (by decide) (by decide), q_up_ne _ _ _ _ (by decide), F_lay_ne (by decide) (by decide) (by decide) (by decide), q_up_ne _ _ _ _ (by decide), q8 165 i (by decide), q8 166 i (by decide), r3 165 i (by decide) (by decide) (by decide) (by decide) (by decide), r3 166 i (by decide) (by decide) (by decide) (by decide) (by decide)]
        exact ⟨rfl, rfl⟩)
      rw [c177 hs0 (by omega) sv4.1 sv4.2]
      simp only [q_kn_n, k205_187, k205_188, k205_189, k205_190, k205_191]
      have c5 : ∀ i, ¬ i = 18 → F_look (F_lay (q_up S4 163 (S 136 17) (S4 136 15 - S3 136 15)) 0 s 0) s 136 i = S4 136 i := fun i h => by rw [look_ne (by decide), F_lay_f h, q_up_ne _ _ _ _ (by decide)]
      have c5k : F_look (F_lay (q_up S4 163 (S 136 17) (S4 136 15 - S3 136 15)) 0 s 0) s 136 18 = S4 136 18 + 1 := by rw [look_ne (by decide), F_lay_18, u4]
      have n5 : NV (F_look (F_lay (q_up S4 163 (S 136 17) (S4 136 15 - S3 136 15)) 0 s 0) s) := NV_look (NV_lay (NV_up n4 (by decide) (by decide)))
      have sv5 : SV s (F_look (F_lay (q_up S4 163 (S 136 17) (S4 136 15 - S3 136 15)) 0 s 0) s) := SV_of sv4 (fun i _ => ⟨look_ne (by decide), look_ne (by decide)⟩)
      have z5 : F_look (F_lay (q_up S4 163 (S 136 17) (S4 136 15 - S3 136 15)) 0 s 0) s 163 (S 136 17) = S4 136 15 - S3 136 15 := by rw [look_ne (by decide), F_lay_ne (by decide) (by decide) (by decide) (by decide), q_up_eq]
      have y5 : ∀ v, F_look (F_lay (q_up S4 163 (S 136 17) (S4 136 15 - S3 136 15)) 0 s 0) s 147 v = S4 147 v := fun v => by rw [look_ne (by decide), F_lay_ne (by decide) (by decide) (by decide) (by decide), q_up_ne _ _ _ _ (by decide)]
      generalize hS5 : F_look (F_lay (q_up S4 163 (S 136 17) (S4 136 15 - S3 136 15)) 0 s 0) s = S5 at *
      have c514 := c5 14 (by decide)
      have c515 := c5 15 (by decide)
      have c516 := c5 16 (by decide)
      have c517 := c5 17 (by decide)
      have c551 := c5 51 (by decide)
      rw [c172 (by omega) (by omega)]
      simp only [q_kn_v, k205_194, k205_196, k205_197]
      have l51 : F_lay S5 5 s 0 136 51 = S5 136 51 := F_lay_f (by decide)
      have l15 : F_lay S5 5 s 0 136 15 = S5 136 15 := F_lay_f (by decide)
      rw [c170 (by omega) (by omega)]
      simp only [q_kn_v, k205_200, k205_202, k205_203, k205_204, k205_205]
      have c6 : ∀ i, ¬ i = 18 → ¬ i = 51 → F_keep (F_lay S5 5 s 0) 136 i = S5 136 i := fun i a1 a2 => by rw [keep_f a2, F_lay_f a1]
      have c6k : F_keep (F_lay S5 5 s 0) 136 18 = S5 136 18 + 1 := by rw [keep_f (by decide), F_lay_18]
      have c6a : F_keep (F_lay S5 5 s 0) 136 51 = S5 136 51 + 8 := by rw [keep_51, l51]
      have c615 := c6 15 (by decide) (by decide)
      have r6 : ∀ c i, ¬ c = 136 → ¬ c = 168 → ¬ c = 169 → ¬ c = 170 → ¬ c = 172 → F_keep (F_lay S5 5 s 0) c i = S5 c i := fun c i a1 a2 a3 a4 a5 => by rw [keep_ne a1 a5, F_lay_ne a1 a2 a3 a4]
      have sv6 : SV s (F_keep (F_lay S5 5 s 0)) := SV_of sv5 (fun i _ => ⟨r6 165 i (by decide) (by decide) (by decide) (by decide) (by decide), r6 166 i (by decide) (by decide) (by decide) (by decide) (by decide)⟩)
      refine c181 hs0 (by omega) sv6.1 sv6.2 (by omega) (by omega) (by omega) (by omega) ?_
      simp only [q_kn_n, k205_208, k205_209]
      have n6 : NV (F_sides (F_keep (F_lay S5 5 s 0)) s 3) := NV_sides (NV_keep (NV_lay n5)) (by omega)
      have sv7 : SV s (F_sides (F_keep (F_lay S5 5 s 0)) s 3) := SV_of sv6 (fun i _ => ⟨sides_ne (by decide), sides_ne (by decide)⟩)
      have c7 : ∀ i, ¬ i = 15 → ¬ i = 18 → ¬ i = 51 → F_sides (F_keep (F_lay S5 5 s 0)) s 3 136 i = S5 136 i := fun i a1 a2 a3 => by rw [sides_f a1 a2, c6 i a2 a3]
      have c7a : F_sides (F_keep (F_lay S5 5 s 0)) s 3 136 51 = S5 136 51 + 8 := by rw [sides_f (by decide) (by decide), c6a]
      have c7b := sides_15 (S := F_keep (F_lay S5 5 s 0)) (s := s) (how := 3)
      have c714 := c7 14 (by decide) (by decide) (by decide)
      have c716 := c7 16 (by decide) (by decide) (by decide)
      have c717 := c7 17 (by decide) (by decide) (by decide)
      have z7 : F_sides (F_keep (F_lay S5 5 s 0)) s 3 163 (S 136 17) = S4 136 15 - S3 136 15 := by rw [sides_ne (by decide), r6 163 _ (by decide) (by decide) (by decide) (by decide) (by decide), z5]
      have iv7 : IV S5 (F_sides (F_keep (F_lay S5 5 s 0)) s 3) := IV_sides (IV_keep (IV_lay IV_refl) (by omega))
      generalize hS7 : F_sides (F_keep (F_lay S5 5 s 0)) s 3 = S7 at *
      refine hB (D + 1) _ (.inr (t, q)) _ _ _ _ _ ⟨h1.1, rfl, h1.2.2⟩ (by unfold PRE P0; omega) (fun _ => n6) (fun S8 p8 b8 ft8 h8 e8 i8 g8 => ?_)
      rw [show S7 136 14 = s + 1 by omega] at h8 e8
      simp only [p_b_inr] at h8 e8
      rw [eqA] at h8
      obtain ⟨e8, e8c⟩ := e8 A q2 eqA
      have hP7 : P0 S7 := by unfold P0; omega
      have f8 := (hG A.1 S7 hP7).2.1
      rw [← e8] at f8
      have cu8 := i8.2
      unfold CU at cu8
      unfold GR at g8
      have sv8 : SV s S8 := SV_IV sv7 i8 (by omega)
      have z8 : S8 163 (S 136 17) = S4 136 15 - S3 136 15 := by rw [i8.1 163 _ (by unfold bel; omega)]; exact z7
      have y8 : ∀ v, v < S5 136 15 → S8 147 v = S4 147 v := fun v hv => by rw [i8.1 147 v (by unfold bel; omega), iv7.1 147 v (by unfold bel; omega), y5]
      simp only [q_kn_n, k205_212, k205_213, k205_215, k205_217, k205_218]
      rw [c172 (by omega) (by omega)]
      simp only [q_kn_v, k205_221, k205_223, k205_225]
      have r9 : ∀ c i, ¬ c = 136 → ¬ c = 168 → ¬ c = 169 → ¬ c = 170 → F_lay S8 7 (S3 136 18) 0 c i = S8 c i := fun c i a1 a2 a3 a4 => F_lay_ne a1 a2 a3 a4
      have c9 : ∀ i, ¬ i = 18 → F_lay S8 7 (S3 136 18) 0 136 i = S8 136 i := fun i h => F_lay_f h
      have c9k : F_lay S8 7 (S3 136 18) 0 136 18 = S8 136 18 + 1 := F_lay_18
      have z9 : F_lay S8 7 (S3 136 18) 0 163 (S 136 17) = S4 136 15 - S3 136 15 := by rw [r9 163 _ (by decide) (by decide) (by decide) (by decide), z8]
      have y9 : ∀ v, v < S5 136 15 → F_lay S8 7 (S3 136 18) 0 147 v = S4 147 v := fun v hv => by rw [r9 147 v (by decide) (by decide) (by decide) (by decide), y8 v hv]
      generalize hS9 : F_lay S8 7 (S3 136 18) 0 = S9 at *
      refine c205_t (by omega) (by omega) (S9 163 (S 136 17)).toNat (S3 136 15) S9 (by omega) (by omega) (by omega) (by omega) (fun j j1 j2 => ?_) (fun v' => ?_)
      · rw [y9 j (by omega)]
        exact v4 j j1 (by omega)
      have tf := (too_ok (S0 := S9) (S9 163 (S 136 17)).toNat (S9 136 15) S9 IV_refl (Int.le_refl _)).2
      have tf : ∀ c i, ¬ c = 151 → F_too (S9 163 (S 136 17)).toNat (S3 136 15) S9 c i = S9 c i := by
        have key : ∀ (k : Nat) (v : Int) (T : St) c i, ¬ c = 151 → F_too k v T c i = T c i := by
          intro k
          induction k with
          | zero => intro v T c i _; rfl
          | succ k ih => intro v T c i hc; rw [F_too, ih _ _ _ _ hc, q_up_ne _ _ _ _ hc]
        exact key _ _ _
      generalize hST : F_too (S9 163 (S 136 17)).toNat (S3 136 15) S9 = ST' at *
      have cT : ∀ i, ST' 136 i = S9 136 i := fun i => tf 136 i (by decide)
      simp only [k205_266, k205_267, k205_270, k205_272, k205_273, k205_276, k205_277, k205_278, k205_280, RP_p, RP_b, RP_ft, RP_dp, RP_n, RP_told, RP_src, RP_least, RP_14, RP_15, RP_16, RP_17, RP_18, RP_49, RP_51, RP_c142, RP_u142, RP_c143, RP_u143, RP_c144, RP_u144, RP_c145, RP_u145, RP_c146, RP_u146, RP_c147, RP_u147, RP_c148, RP_u148, RP_c149, RP_u149, RP_c150, RP_u150, RP_c151, RP_u151, RP_c152, RP_u152, RP_c153, RP_u153, RP_c154, RP_u154, RP_c155, RP_u155, RP_c156, RP_u156, RP_c157, RP_u157, RP_c158, RP_u158, RP_c159, RP_u159, RP_c160, RP_u160, RP_c161, RP_u161, RP_c162, RP_u162, RP_c163, RP_u163, RP_c164, RP_u164, RP_c165, RP_u165, RP_c166, RP_u166, RP_c167, RP_u167, RP_c168, RP_u168, RP_c169, RP_u169, RP_c170, RP_u170, RP_c171, RP_u171, RP_c172, RP_u172, RP_upp, RP_upb, RP_upft, RP_updp, RP_uptold, RP_upleast, RP_up14, RP_up15, RP_up16, RP_up17, RP_up18, RP_up49, RP_up51, qt_170, ql_170, true_implies, false_implies, not_true_eq_false, not_false_eq_true, true_and, and_true, implies_true, or_true, true_or, or_false, false_or, Int.reduceEq, Int.one_ne_zero, Nat.reduceEqDiff]
      refine ⟨by omega, ?_⟩
      have c951 := c9 51 (by decide)
      have c915 := c9 15 (by decide)
      rw [c220 (by omega) (by omega)]
      simp only [q_kn_n, k205_283, k205_284, k205_285, k205_286]
      have cX : ∀ i, F_take (q_up ST' 170 (S5 136 18) (ST' 136 18)) (F_lay S5 5 s 0 136 51) 136 i = S9 136 i := fun i => by rw [take_ne (by decide), q_up_ne _ _ _ _ (by decide), cT]
      have svX : SV s (F_take (q_up ST' 170 (S5 136 18) (ST' 136 18)) (F_lay S5 5 s 0 136 51)) := SV_of sv8 (fun i _ => by
        rw [take_ne (by decide), q_up_ne _ _ _ _ (by decide), tf 165 i (by decide), r9 165 i (by decide) (by decide) (by decide) (by decide), take_ne (by decide), q_up_ne _ _ _ _ (by decide), tf 166 i (by decide), r9 166 i (by decide) (by decide) (by decide) (by decide)]
        exact ⟨rfl, rfl⟩)
      have cX5 := cX 15
      have cX8 := cX 18
      generalize hSX : F_take (q_up ST' 170 (S5 136 18) (ST' 136 18)) (F_lay S5 5 s 0 136 51) = SX at *
      refine c181 hs0 (by omega) svX.1 svX.2 (by omega) (by omega) (by omega) (by omega) ?_
      simp only [q_kn_n, k205_289, k205_290, k205_292, k205_293, k205_294]
      have cYb := sides_15 (S := SX) (s := s) (how := 4)
      have cY : ∀ i, ¬ i = 15 → ¬ i = 18 → F_sides SX s 4 136 i = S9 136 i := fun i a1 a2 => by rw [sides_f a1 a2, cX]
      have cY14 := cY 14 (by decide) (by decide)
      have cY16 := cY 16 (by decide) (by decide)
      have cY17 := cY 17 (by decide) (by decide)
      generalize hSY : F_sides SX s 4 = SY at *
      rw [c172 (by omega) (by omega)]
      simp only [q_kn_v, k205_297, k205_299, k205_300, k205_301, k205_304, k205_305, k205_306, k205_309, k205_310, k205_312, k205_315, RP_p, RP_b, RP_ft, RP_dp, RP_n, RP_told, RP_src, RP_least, RP_14, RP_15, RP_16, RP_17, RP_18, RP_49, RP_51, RP_c142, RP_u142, RP_c143, RP_u143, RP_c144, RP_u144, RP_c145, RP_u145, RP_c146, RP_u146, RP_c147, RP_u147, RP_c148, RP_u148, RP_c149, RP_u149, RP_c150, RP_u150, RP_c151, RP_u151, RP_c152, RP_u152, RP_c153, RP_u153, RP_c154, RP_u154, RP_c155, RP_u155, RP_c156, RP_u156, RP_c157, RP_u157, RP_c158, RP_u158, RP_c159, RP_u159, RP_c160, RP_u160, RP_c161, RP_u161, RP_c162, RP_u162, RP_c163, RP_u163, RP_c164, RP_u164, RP_c165, RP_u165, RP_c166, RP_u166, RP_c167, RP_u167, RP_c168, RP_u168, RP_c169, RP_u169, RP_c170, RP_u170, RP_c171, RP_u171, RP_c172, RP_u172, RP_upp, RP_upb, RP_upft, RP_updp, RP_uptold, RP_upleast, RP_up14, RP_up15, RP_up16, RP_up17, RP_up18, RP_up49, RP_up51, qt_161, ql_161, true_implies, false_implies, not_true_eq_false, not_false_eq_true, true_and, and_true, implies_true, or_true, true_or, or_false, false_or, Int.reduceEq, Int.one_ne_zero, Nat.reduceEqDiff]
      refine ⟨by omega, ?_⟩
      have hfin : q_up (q_up (F_lay SY 9 (S 136 17) 0) 136 49 (F_lay SY 9 (S 136 17) 0 161 (S 136 17))) 136 51 (F_lay S5 5 s 0 136 51) = F_wh2 t (G A.1) s S := by
        unfold F_wh2
        dsimp only
        rw [← hwr, hset, hSd, hS3, hS4, hS5, hS7, ← e8, hS9, hST, hSX, hSY]
      have hfin2 : F_wh2 t (G A.1) s S = F_wh t (G A.1) S0 := by rw [F_wh_2, h0, ← hb]
      have iF : IV S0 (F_wh2 t (G A.1) s S) := by
        rw [hfin2]
        exact (GF_wh (hG A.1) S0 hP0).1
      have cF : ∀ i, ¬ i = 49 → ¬ i = 51 → ¬ i = 18 → F_wh2 t (G A.1) s S 136 i = SY 136 i := fun i a1 a2 a3 => by
        rw [← hfin, q_up_ne2 _ _ _ a2, q_up_ne2 _ _ _ a1, F_lay_f a3]
      have cF18 : F_wh2 t (G A.1) s S 136 18 = SY 136 18 + 1 := by
        rw [← hfin, q_up_ne2 _ _ _ (by decide), q_up_ne2 _ _ _ (by decide), F_lay_18]
      have cF51 : F_wh2 t (G A.1) s S 136 51 = S5 136 51 := by
        rw [← hfin, q_up_eq, l51]
      have cF14 := cF 14 (by decide) (by decide) (by decide)
      have cF15 := cF 15 (by decide) (by decide) (by decide)
      have cF16 := cF 16 (by decide) (by decide) (by decide)
      have cF17 := cF 17 (by decide) (by decide) (by decide)
      have c914 := c9 14 (by decide)
      have c916 := c9 16 (by decide)
      have c917 := c9 17 (by decide)
      rw [hfin]
      rw [eqA] at kk
      simp only [p_b_inr] at kk
      refine kk _ _ _ _ h8 (fun y q e => ?_) iF (by unfold GR; omega)
      cases e
      exact ⟨⟨_, _, _, eqA⟩, t, A.1, rfl, rfl, by rw [cF14, cY14, c914, e8c]⟩
    · rw [show S2 136 14 = s + 1 by omega] at eqA
      simp only [p_b_inr] at eqA
      rw [eqA] at kk
      simp only [q_kn_v, k205_61, k205_62, k205_63]
      refine m_154 h2 (fun q3 eq3 _ => ?_) (fun a3 q3 eq3 _ => by cases eq3)
      simp only [q_kn_v, k205_66, k205_69, true_implies, false_implies, not_true_eq_false, not_false_eq_true, true_and, and_true, implies_true, or_true, true_or, or_false, false_or, Int.reduceEq, Int.one_ne_zero, Nat.reduceEqDiff]
      unfold GR at g3
      exact kk _ _ _ _ h2 (fun y q e => by cases e) (IV_trans i2 i3) (by unfold GR; omega)
end RK
