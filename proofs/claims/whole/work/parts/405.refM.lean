section RM
variable {sc : Nat × (Nat → Int32)} {N : Nat} {bb : Bool} {r : St} {dp w : Int} {pl : Int → Int}
theorem p_s1_no {f : Int → Int} {n cnt q : Int} {α β : Type} {sb : SB → α} {cp : Bool → TT → β → β → α} {e0 : β} {blk : Int → Int → PX (β × Int)} (h : ¬ isST (tk f n q)) : p_s1 f n pl sb cp e0 blk cnt q = .inl q := by
  unfold isST at h
  unfold p_s1
  rw [if_neg (by omega), if_neg (by omega), if_neg (by omega), if_neg (by omega)]
  unfold p_asg p_va
  rw [if_neg (by omega)]
  rfl
theorem p_asg_0 {f : Int → Int} {n q z : Int} {y : SB} (h : p_asg f n pl q = .inr (y, z)) : y.1.1 = 0 := by
  unfold p_asg at h
  generalize p_va f n q = a at h
  rcases a with a | ⟨a, a'⟩
  · cases h
  simp only [p_b_inr] at h
  generalize p_sg f n 61 a' = b at h
  rcases b with b | ⟨b, b'⟩
  · cases h
  simp only [p_b_inr] at h
  generalize p_vl f n pl b' = c at h
  rcases c with c | ⟨c, c'⟩
  · cases h
  simp only [p_b_inr] at h
  generalize p_sg f n 59 c' = d at h
  rcases d with d | ⟨d, d'⟩
  · cases h
  cases h
  rfl
theorem F_b_as {S : St} {y : SB} (h : y.1.1 = 0) : F_b y S = F_as (F_beg S 0) (S 136 14) y := by
  unfold F_b F_as
  dsimp only
  rw [if_pos h]
theorem m_217 {α β : Type} {sb : SB → α} {cp : Bool → TT → β → β → α} {e0 : β} {blk : Int → Int → PX (β × Int)} {G : β → St → St} {FS : α → St → St} (hB : HBK sc N bb r dp w blk G) (hG : ∀ A, GF (G A)) (hG0 : ∀ S, G e0 S = S) (hw : 0 ≤ w) (hr : RH r) (hpl : PL r pl)
    (hsb : ∀ x S, FS (sb x) S = F_b x S) (hcp : (∃ c q A, blk c q = .inr A) → (∀ t A B S, FS (cp false t A B) S = F_if t (G A) (G B) S) ∧ (∀ t A S, FS (cp true t A e0) S = F_wh t (G A) S)) (hF : ∀ y, GF (FS y)) :
    HSK sc (N + 4) bb r dp (w + 32) (p_ls (r 139) (r 136 6) pl sb cp e0 blk 41) (fun L S => L.foldl (fun S y => FS y S) S) := by
  intro D
  rw [show N + 4 + D + 10 = N + D + 14 by omega]
  have key : ∀ (m : Nat) (γ : Type) (x : PX γ) (p b ft : Int) (S : St) (Q : QP) (l1 : V2), 41 ≤ (m : Int) + S 136 14 → RA r x p ft → PRE 0 (w + 32) S → ((∃ a, x = .inr a) → NV S) →
    (∀ S' p' b' ft', RS r (p_b x (fun _ q => p_ls (r 139) (r 136 6) pl sb cp e0 blk m (S 136 14) q)) p' ft' → (∀ A q, p_b x (fun _ q => p_ls (r 139) (r 136 6) pl sb cp e0 blk m (S 136 14) q) = .inr (A, q) → S' = A.1.foldl (fun S y => FS y S) S ∧ S' 136 14 = A.2) → IV S S' → GR 0 (w + 32) S S' → Q (.inl none) bb (RP S' r p' b' ft' dp)) →
    qx sc (N + D + 14) 217 0 [vr 136, l1] [] (0, 0) bb (RP S r p b ft dp) Q := by
    intro m
    induction m with
    | zero =>
      intro γ x p b ft S Q l1 hm hx hp hn kk
      unfold PRE at hp
      omega
    | succ m ih =>
      intro γ x p b ft S Q l1 hm hx hp hn kk
      have hP := hp
      unfold PRE at hP
      have hP0 := hP.1
      have hP1 := hP0
      unfold P0 at hP1
      have hg : GR 0 (w + 32) S S := GR_refl (by omega) (by omega)
      rcases x with x | ⟨a, q⟩
      · exact m_217f hx (kk S p b ft (Or.inl hx) (fun A q e => by cases e) IV_refl hg)
      simp only [k217_0, k217_1]
      refine m_154 hx (fun q eq1 _ => by cases eq1) (fun a' q' eq1 eq2 => ?_)
      cases eq1
      have hq : 0 ≤ q := by have := hx.2.2; rw [← this]; exact sk_0 hx.1
      have hNV := hn ⟨_, rfl⟩
      simp only [p_b_inr] at kk
      simp only [q_kn_v, k217_4, k217_7, k217_8, true_implies, false_implies, not_true_eq_false, not_false_eq_true, true_and, and_true, implies_true, or_true, true_or, or_false, false_or, Int.reduceEq, Int.one_ne_zero, Nat.reduceEqDiff]
      refine m_167 hr hx (fun a1 q1 p1 b1 e1 hst h1 hb => ?_) (fun p1 b1 e1 h1 => ?_)
      · cases e1
        have hst' := hst
        unfold isST at hst'
        have n1 : ¬ (tk (r 139) (r 136 6) q = -1 ∨ tk (r 139) (r 136 6) q = 125) := by omega
        simp only [q_kn_v, k217_11, k217_14, k217_15, k217_18, k217_20, RP_14, true_implies, false_implies, not_true_eq_false, not_false_eq_true, true_and, and_true, implies_true, or_true, true_or, or_false, false_or, Int.reduceEq, Int.one_ne_zero, Nat.reduceEqDiff]
        refine ⟨fun h40 => ?_, fun h40 => ?_⟩
        · simp only [k217_23, k217_24, c148, q_kn_n, k217_27]
          rw [if_pos eq2, hb]
          unfold p_ls at kk
          rw [if_neg n1, if_pos (by omega)] at kk
          exact kk S _ _ _ (Or.inl ⟨h1.1, rfl, hq⟩) (fun A q e => by cases e) IV_refl hg
        · unfold p_ls at kk
          rw [if_neg n1, if_neg (by omega)] at kk
          -- the rest, behind a statement
          have fin : ∀ (δ : Type) (Y : PX δ) (W : δ → α × Int) (S1 : St) (p2 b2 ft2 : Int) (l1 : V2), RA r Y p2 ft2 → p_s1 (r 139) (r 136 6) pl sb cp e0 blk (S 136 14) q = p_b Y (fun u z => .inr (W u, z)) → (∀ u z, Y = .inr (u, z) → S1 = FS (W u).1 S ∧ S1 136 14 = (W u).2 ∧ S 136 14 + 1 ≤ S1 136 14) → IV S S1 → GR 0 (w + 32) S S1 → qx sc (N + D + 14) 217 0 [vr 136, l1] [] (0, 0) bb (RP S1 r p2 b2 ft2 dp) Q := by
            intro δ Y W S1 p2 b2 ft2 l1 hY eY sY iY gY
            rw [eY] at kk
            rcases Y with Y | ⟨u, z⟩
            · exact m_217f hY (kk S1 _ _ _ (Or.inl hY) (fun A q e => by cases e) iY gY)
            · obtain ⟨y1, y2, y3⟩ := sY u z rfl
              simp only [p_b_inr] at kk
              obtain ⟨f1, f2, f3, f4⟩ := hF (W u).1 S hP0
              rw [← y1] at f1 f2 f3 f4
              have cu := f1.2
              unfold CU at cu
              unfold GR at gY
              refine ih δ _ _ _ _ S1 _ _ (by omega) hY (by unfold PRE P0; omega) (fun _ => f4 hNV) (fun S' p' b' ft' h' s' i' g' => ?_)
              simp only [p_b_inr] at h' s'
              rw [y2] at h' s'
              unfold GR at g'
              refine kk S' p' b' ft' (RS_map.mpr h') (fun A q5 e => ?_) (IV_trans iY i') (by unfold GR; omega)
              generalize p_ls (r 139) (r 136 6) pl sb cp e0 blk m (W u).2 z = Z at *
              rcases Z with Z | ⟨Z, z2⟩
              · cases e
              · cases e
                obtain ⟨g1, g2⟩ := s' Z q5 rfl
                refine ⟨?_, g2⟩
                rw [g1, List.foldl_cons, ← y1]
          simp only [k217_28, k217_29, k217_32, k217_33, k217_34, k217_35, k217_38, k217_39, k217_40, k217_43, k217_44, k217_47, k217_48, k217_49, k217_50, k217_51, k217_54, k217_55, k217_56, k217_57, k217_58, k217_61, k217_62, k217_63, k217_64, k217_65, k217_68, k217_69, k217_70, k217_73, k217_74, k217_75, k217_77, RP_p, RP_b, RP_ft, RP_dp, RP_n, RP_told, RP_src, RP_least, RP_14, RP_15, RP_16, RP_17, RP_18, RP_49, RP_51, RP_c142, RP_u142, RP_c143, RP_u143, RP_c144, RP_u144, RP_c145, RP_u145, RP_c146, RP_u146, RP_c147, RP_u147, RP_c148, RP_u148, RP_c149, RP_u149, RP_c150, RP_u150, RP_c151, RP_u151, RP_c152, RP_u152, RP_c153, RP_u153, RP_c154, RP_u154, RP_c155, RP_u155, RP_c156, RP_u156, RP_c157, RP_u157, RP_c158, RP_u158, RP_c159, RP_u159, RP_c160, RP_u160, RP_c161, RP_u161, RP_c162, RP_u162, RP_c163, RP_u163, RP_c164, RP_u164, RP_c165, RP_u165, RP_c166, RP_u166, RP_c167, RP_u167, RP_c168, RP_u168, RP_c169, RP_u169, RP_c170, RP_u170, RP_c171, RP_u171, RP_c172, RP_u172, RP_upp, RP_upb, RP_upft, RP_updp, RP_uptold, RP_upleast, RP_up14, RP_up15, RP_up16, RP_up17, RP_up18, RP_up49, RP_up51, q_up_eq, q_up_ne, q_up_ne2, q_upf_ne, q_upf_eq, not_false_eq_true, qt_143, ql_143, qt_144, ql_144, qt_145, ql_145, qt_146, ql_146, Int.reduceEq, Nat.reduceEqDiff, true_implies, false_implies, not_true_eq_false, not_false_eq_true, true_and, and_true, implies_true, or_true, true_or, or_false, false_or, Int.reduceEq, Int.one_ne_zero, Nat.reduceEqDiff]
          repeat refine And.intro (by omega) ?_
          have ib : ∀ sort, IV S (F_beg S sort) := fun sort => IV_beg IV_refl
          have nb : ∀ sort, NV (F_beg S sort) := fun sort => NV_beg hNV
          have b14 : ∀ sort, F_beg S sort 136 14 = S 136 14 + 1 := fun sort => beg_14
          have bf : ∀ sort i, ¬ i = 14 → F_beg S sort 136 i = S 136 i := fun sort i h => beg_f h
          have b15 := fun sort => bf sort 15 (by decide)
          have b16 := fun sort => bf sort 16 (by decide)
          have b17 := fun sort => bf sort 17 (by decide)
          have b18 := fun sort => bf sort 18 (by decide)
          have b51 := fun sort => bf sort 51 (by decide)
          have pb : ∀ sort, PRE 1 (w + 32) (F_beg S sort) := fun sort => by
            have := b14 sort; have := b15 sort; have := b16 sort; have := b17 sort; have := b18 sort; have := b51 sort
            unfold PRE P0
            omega
          have h1q : RA r (.inr (a, q) : PX γ) p1 ft := h1
          refine m_221 (c := 257) hr h1q (by decide) (fun a2 q2 p2 b2 e2 t2 h2 => ?_) (fun p2 b2 e2 h2 => ?_)
          · cases e2
            simp only [q_kn_v, k217_80, k217_83, k217_84, k217_87, k217_88, k217_89, k217_90, k217_91, k217_92, RP_u142, qt_142, ql_142, true_implies, false_implies, not_true_eq_false, not_false_eq_true, true_and, and_true, implies_true, or_true, true_or, or_false, false_or, Int.reduceEq, Int.one_ne_zero, Nat.reduceEqDiff]
            refine ⟨by omega, ?_⟩
            have z14 := b14 2; have z15 := b15 2; have z16 := b16 2; have z17 := b17 2; have z18 := b18 2; have z51 := b51 2
            refine m_196 (S := F_beg S 2) hr h2 (by omega) (by omega) (fun S1 p3 b3 ft3 h3 e3 cg ch => ?_)
            simp only [q_kn_n, k217_95, k217_180]
            have i1 := IV_CH (ib 2) (Int.le_refl _) cg ch
            unfold CG at cg
            simp only [p_b_inr] at h3 e3
            refine fin Int _ (fun v => (sb ((2, v, 0, -1, 0), p_no), S 136 14 + 1)) S1 _ _ _ _ h3 ?_ (fun u z e => ?_) i1 (by unfold GR; omega)
            · unfold p_s1
              rw [if_pos t2]
              unfold p_out p_out2
              simp only [p_b_b, p_b_inr]
            · refine ⟨?_, by omega, by omega⟩
              rw [e3 u z e, hsb]
              unfold F_b
              dsimp only
              rw [if_neg (by decide), if_neg (by decide)]
          have n257 := (e2 a q rfl).1
          simp only [q_kn_v, k217_80, k217_98, k217_99, k217_101, true_implies, false_implies, not_true_eq_false, not_false_eq_true, true_and, and_true, implies_true, or_true, true_or, or_false, false_or, Int.reduceEq, Int.one_ne_zero, Nat.reduceEqDiff]
          refine m_221 (c := 258) hr h2 (by decide) (fun a3 q3 p3 b3 e3 t3 h3 => ?_) (fun p3 b3 e3 h3 => ?_)
          · cases e3
            simp only [q_kn_v, k217_104, k217_107, k217_108, k217_111, k217_112, k217_113, k217_114, k217_115, k217_116, RP_u142, qt_142, ql_142, true_implies, false_implies, not_true_eq_false, not_false_eq_true, true_and, and_true, implies_true, or_true, true_or, or_false, false_or, Int.reduceEq, Int.one_ne_zero, Nat.reduceEqDiff]
            refine ⟨by omega, ?_⟩
            have z14 := b14 3; have z15 := b15 3; have z16 := b16 3; have z17 := b17 3; have z18 := b18 3; have z51 := b51 3
            refine m_139 (S := F_beg S 3) (S0 := S) (cp := cp) (e0 := e0) hB hG hG0 hw hr hpl h3 (by omega) (by omega) (pb 3) (ib 3) (Int.le_refl _) (fun _ => nb 3) (fun S1 p4 b4 ft4 h4 e4 i4 g4 => ?_)
            simp only [q_kn_n, k217_119, k217_180]
            unfold GR at g4
            simp only [p_b_inr] at h4 e4
            refine fin (α × Int) _ (fun u => u) S1 _ _ _ _ h4 ?_ (fun u z e => ?_) i4 (by unfold GR; omega)
            · unfold p_s1
              rw [if_neg n257, if_pos t3, p_if_2]
              generalize p_if2 (r 139) (r 136 6) pl cp e0 blk (S 136 14) (nx (r 139) (r 136 6) q) = Z
              rcases Z with Z | ⟨Z, z⟩ <;> rfl
            · obtain ⟨hok, t, A, B, y1, y2, y3⟩ := e4 u z e
              refine ⟨?_, y3, by omega⟩
              rw [y1, (hcp hok).1, F_if_2, y2]
          have n258 := (e3 a q rfl).1
          simp only [q_kn_v, k217_104, k217_122, k217_123, k217_125, true_implies, false_implies, not_true_eq_false, not_false_eq_true, true_and, and_true, implies_true, or_true, true_or, or_false, false_or, Int.reduceEq, Int.one_ne_zero, Nat.reduceEqDiff]
          refine m_221 (c := 260) hr h3 (by decide) (fun a4 q4 p4 b4 e4 t4 h4 => ?_) (fun p4 b4 e4 h4 => ?_)
          · cases e4
            simp only [q_kn_v, k217_128, k217_131, k217_132, k217_135, k217_136, k217_137, k217_138, k217_139, k217_140, RP_u142, qt_142, ql_142, true_implies, false_implies, not_true_eq_false, not_false_eq_true, true_and, and_true, implies_true, or_true, true_or, or_false, false_or, Int.reduceEq, Int.one_ne_zero, Nat.reduceEqDiff]
            refine ⟨by omega, ?_⟩
            have z14 := b14 4; have z15 := b15 4; have z16 := b16 4; have z17 := b17 4; have z18 := b18 4; have z51 := b51 4
            refine m_205 (S := F_beg S 4) (S0 := S) (cp := cp) (e0 := e0) hB hG hw hr hpl h4 (by omega) (by omega) (pb 4) hP0 rfl (fun _ => nb 4) (fun S1 p5 b5 ft5 h5 e5 i5 g5 => ?_)
            simp only [q_kn_n, k217_143, k217_180]
            unfold GR at g5
            simp only [p_b_inr] at h5 e5
            refine fin (α × Int) _ (fun u => u) S1 _ _ _ _ h5 ?_ (fun u z e => ?_) i5 (by unfold GR; omega)
            · unfold p_s1
              rw [if_neg n257, if_neg n258, if_pos t4, p_wh_2]
              generalize p_wh2 (r 139) (r 136 6) pl cp e0 blk (S 136 14) (nx (r 139) (r 136 6) q) = Z
              rcases Z with Z | ⟨Z, z⟩ <;> rfl
            · obtain ⟨hok, t, A, y1, y2, y3⟩ := e5 u z e
              refine ⟨?_, y3, by omega⟩
              rw [y1, (hcp hok).2, F_wh_2, y2]
          have n260 := (e4 a q rfl).1
          simp only [q_kn_v, k217_128, k217_146, k217_147, true_implies, false_implies, not_true_eq_false, not_false_eq_true, true_and, and_true, implies_true, or_true, true_or, or_false, false_or, Int.reduceEq, Int.one_ne_zero, Nat.reduceEqDiff]
          refine m_164 hr h4 (fun a5 q5 p5 b5 e5 t5 h5 _ _ => ?_) (fun p5 b5 e5 h5 => ?_)
          · cases e5
            simp only [q_kn_v, k217_150, k217_153, k217_154, k217_157, k217_158, k217_159, k217_160, k217_161, k217_162, RP_u142, qt_142, ql_142, true_implies, false_implies, not_true_eq_false, not_false_eq_true, true_and, and_true, implies_true, or_true, true_or, or_false, false_or, Int.reduceEq, Int.one_ne_zero, Nat.reduceEqDiff]
            refine ⟨by omega, ?_⟩
            have z14 := b14 1; have z15 := b15 1; have z16 := b16 1; have z17 := b17 1; have z18 := b18 1; have z51 := b51 1
            refine m_218 (S := F_beg S 1) hr hpl h5 (by omega) (by omega) (by omega) (by omega) (fun i i1 i2 => by have := nb 1 i i1 i2; omega) (fun S1 p6 b6 ft6 h6 e6 cg ch => ?_)
            simp only [q_kn_n, k217_165, k217_180]
            have i1 := IV_CH (ib 1) (Int.le_refl _) cg ch
            unfold CG at cg
            simp only [p_b_inr] at h6 e6
            refine fin ((Int × Int) × Int) _ (fun e => (sb ((1, e.1.2, 0, e.2, 0), (1, e.1.1, e.1.2)), S 136 14 + 1)) S1 _ _ _ _ h6 ?_ (fun u z e => ?_) i1 (by unfold GR; omega)
            · unfold p_s1
              rw [if_neg n257, if_neg n258, if_neg n260, if_pos t5]
              unfold p_sto p_sto2
              simp only [p_b_b, p_b_inr]
            · refine ⟨?_, by omega, by omega⟩
              rw [e6 u z e, hsb]
              unfold F_b
              dsimp only
              rw [if_neg (by decide), if_pos rfl, F_lay_f (by decide)]
          have nrow := (e5 a q rfl).1
          simp only [q_kn_v, k217_150, k217_168, k217_169, k217_172, k217_173, k217_174, k217_175, k217_176, k217_177, RP_u142, qt_142, ql_142, true_implies, false_implies, not_true_eq_false, not_false_eq_true, true_and, and_true, implies_true, or_true, true_or, or_false, false_or, Int.reduceEq, Int.one_ne_zero, Nat.reduceEqDiff]
          refine ⟨by omega, ?_⟩
          have z14 := b14 0; have z15 := b15 0; have z16 := b16 0; have z17 := b17 0; have z18 := b18 0; have z51 := b51 0
          refine m_128 (S := F_beg S 0) hr hpl h5 (by omega) (by omega) (by omega) (by omega) (fun S1 p6 b6 ft6 h6 e6 cg ch => ?_)
          simp only [q_kn_n, k217_180]
          have i1 := IV_CH (ib 0) (Int.le_refl _) cg ch
          unfold CG at cg
          simp only [p_b_inr] at h6 e6
          refine fin SB _ (fun e => (sb e, S 136 14 + 1)) S1 _ _ _ _ h6 ?_ (fun u z e => ?_) i1 (by unfold GR; omega)
          · unfold p_s1
            rw [if_neg n257, if_neg n258, if_neg n260, if_neg nrow]
          · refine ⟨?_, by omega, by omega⟩
            rw [e6 u z e, hsb, F_b_as (p_asg_0 e)]
      · obtain ⟨n1, hb⟩ := e1 a q rfl
        simp only [q_kn_v, k217_11, k217_183, true_implies, false_implies, not_true_eq_false, not_false_eq_true, true_and, and_true, implies_true, or_true, true_or, or_false, false_or, Int.reduceEq, Int.one_ne_zero, Nat.reduceEqDiff]
        have hsk : sk (r 139) (r 136 6) p1 = q := h1.2.2
        unfold p_ls at kk
        by_cases ht : tk (r 139) (r 136 6) q = -1 ∨ tk (r 139) (r 136 6) q = 125
        · rw [if_pos ht] at kk
          refine kk S p1 b1 ft (Or.inl ⟨h1.1, h1.2⟩) (fun A q e => ?_) IV_refl hg
          cases e
          exact ⟨rfl, rfl⟩
        · rw [if_neg ht] at kk
          have e' : (if 40 ≤ S 136 14 then (.inl q : PX (List α × Int)) else p_b (p_s1 (r 139) (r 136 6) pl sb cp e0 blk (S 136 14) q) fun x p => p_b (p_ls (r 139) (r 136 6) pl sb cp e0 blk m x.2 p) fun L p => .inr ((x.1 :: L.1, L.2), p)) = .inl q := by
            split
            · rfl
            · rw [p_s1_no n1]; rfl
          rw [e'] at kk
          exact kk S p1 b1 ft (Or.inr ⟨q, rfl, eq2, h1.1, hsk, by omega, by omega⟩) (fun A q e => by cases e) IV_refl hg
  intro γ x p b ft S Q l1 hx hp hn kk
  refine key 41 γ x p b ft S Q l1 ?_ hx hp hn kk
  unfold PRE P0 at hp
  omega
/-- statements, so many blocks within one another still allowed -/
theorem m_L (hr : RH r) (hpl : PL r pl) : ∀ d : Nat, d ≤ 5 → HSK sc (4 * d + 4) bb r (5 - d) (32 * d + 32) (p_L (r 139) (r 136 6) pl d) (F_L d) := by
  intro d
  induction d with
  | zero =>
    intro _
    have h := m_217 (N := 0) (w := 0) (dp := 5) (α := ST 0) (β := Unit) (sb := fun x => x) (cp := fun _ _ _ _ => ((0, 0, 0, 0, 0), p_no)) (e0 := ()) (FS := F_S 0) (sc := sc) (bb := bb) (m_131z hr) (fun _ => GF_id) (fun _ => rfl) (by omega) hr hpl (fun x S => F_S_0 x S) (fun ⟨c, q, A, h⟩ => by cases h) (GF_S 0)
    exact h
  | succ d ih =>
    intro hd
    have h0 := ih (by omega)
    have e1 : (5 : Int) - (d : Int) = 5 - ((d + 1 : Nat) : Int) + 1 := by omega
    rw [e1] at h0
    have hb := m_131 h0 hr (by omega) (by omega)
    have h := m_217 (N := 4 * d + 4) (α := ST (d + 1)) (β := List (ST d)) (sb := fun x => .inl x) (cp := fun w t A B => .inr ((w, t), A, B)) (e0 := []) (FS := F_S (d + 1)) hb (GF_L d) (fun _ => rfl) (by omega) hr hpl (fun x S => F_S_b d x S) (fun _ => ⟨fun t A B S => F_S_if d t A B S, fun t A S => F_S_wh d t A [] S⟩) (GF_S (d + 1))
    rw [show 32 * (d : Int) + 32 + 32 = 32 * ((d + 1 : Nat) : Int) + 32 by omega, show 4 * d + 4 + 4 = 4 * (d + 1) + 4 by omega] at h
    exact h
end RM
