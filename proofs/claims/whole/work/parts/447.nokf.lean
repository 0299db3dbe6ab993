section NKF
variable {S S0 S1 S2 S' : St} {x how s fr too a b i v sv0 sv1 : Int} {t : TT} {pl : Int → Int}
/-- a loop's own rows, and what is behind them -/
theorem NTB_hl {Sb : St} {p : SO} {o : NO} {hd : SR} {mr : MR} {lr : LR} {np : NP} (h : NTB Sb S' p o) (hc : NCT Sb S' p o) (e14 : Sb 136 14 = S 136 14 + 1) (e15 : Sb 136 15 = S 136 15) (e16 : Sb 136 16 = S 136 16) (e17 : Sb 136 17 = S 136 17 + 1) (e18 : Sb 136 18 = S 136 18) (h1 : SRokR S' (S 136 14) hd) (h2 : MRokR S' (S 136 14) mr) (h3 : LRokR S' (S 136 17) lr) (h4 : NPok S' (S 136 17) np) : NTB S S' (hd :: p.1, p.2.1, lr :: p.2.2) (o.1, o.2.1, mr :: o.2.2.1, o.2.2.2.1, np :: o.2.2.2.2.1, o.2.2.2.2.2) ∧ NCT S S' (hd :: p.1, p.2.1, lr :: p.2.2) (o.1, o.2.1, mr :: o.2.2.1, o.2.2.2.1, np :: o.2.2.2.2.1, o.2.2.2.2.2) := by
  obtain ⟨t1, t2, t3, t4, t5, t6, t7, t8⟩ := h
  obtain ⟨c1, c2, c3, c4, c5, c6, c7, c8⟩ := hc
  rw [e14] at t1 t5
  rw [e15] at t4
  rw [e16] at t2 t6
  rw [e17] at t3 t7
  rw [e18] at t8
  refine ⟨⟨⟨h1, t1⟩, t2, ⟨h3, t3⟩, t4, ⟨h2, t5⟩, t6, ⟨h4, t7⟩, t8⟩, ?_, ?_, by rw [← e16]; exact c3, c4, ?_, ?_, by rw [← e15]; exact c7, by rw [← e18]; exact c8⟩
  · rw [List.length_cons]; omega
  · rw [List.length_cons, List.length_cons, c2]
  · rw [List.length_cons]; omega
  · rw [List.length_cons, List.length_cons, c6]
/-- the loop's first rows; nothing is told yet -/
theorem wr_ok {t : TT} (h : P0 S) : IV S (F_wr (F_beg S 4) (S 136 14) t) ∧ (∀ i, 14 ≤ i ∧ i ≤ 18 → ¬ i = 14 → ¬ i = 17 → F_wr (F_beg S 4) (S 136 14) t 136 i = S 136 i) ∧ F_wr (F_beg S 4) (S 136 14) t 136 14 = S 136 14 + 1 ∧ F_wr (F_beg S 4) (S 136 14) t 136 17 = S 136 17 + 1 ∧ F_wr (F_beg S 4) (S 136 14) t 136 49 = S 136 17 ∧ F_wr (F_beg S 4) (S 136 14) t 136 51 = S 136 51 ∧ (∀ i, F_wr (F_beg S 4) (S 136 14) t 171 i = S 171 i) ∧ (∀ i, F_wr (F_beg S 4) (S 136 14) t 147 i = S 147 i) ∧
    F_wr (F_beg S 4) (S 136 14) t 142 (S 136 14) = 4 ∧ F_wr (F_beg S 4) (S 136 14) t 143 (S 136 14) = -1 ∧ F_wr (F_beg S 4) (S 136 14) t 144 (S 136 14) = -1 ∧ F_wr (F_beg S 4) (S 136 14) t 145 (S 136 14) = S 136 17 ∧ F_wr (F_beg S 4) (S 136 14) t 146 (S 136 14) = S 136 49 ∧ F_wr (F_beg S 4) (S 136 14) t 160 (S 136 17) = S 136 14 ∧ F_wr (F_beg S 4) (S 136 14) t 161 (S 136 17) = S 136 49 ∧
    F_wr (F_beg S 4) (S 136 14) t 165 (2 * S 136 14) = F_sk t.2.1.1 ∧ F_wr (F_beg S 4) (S 136 14) t 166 (2 * S 136 14) = t.2.1.2 ∧ F_wr (F_beg S 4) (S 136 14) t 165 (2 * S 136 14 + 1) = F_sk t.2.2.1 ∧ F_wr (F_beg S 4) (S 136 14) t 166 (2 * S 136 14 + 1) = t.2.2.2 ∧ F_wr (F_beg S 4) (S 136 14) t 164 (S 136 14) = t.1 := by
  have hw := wh0_ok (S := S) (t := t) h
  obtain ⟨b14, b15, b16, b17, b18, b49, b51, b171⟩ := beg_c (S := S) (sort := 4)
  obtain ⟨r142, r143, r144, r145, r146⟩ := beg_r (S := S) (sort := 4)
  have e0 : F_wh0 S t = F_wr (F_beg S 4) (S 136 14) t := by
    unfold F_wh0 F_wr
    rfl
  rw [e0] at hw
  obtain ⟨i1, -, w14, w15, w16, w17, w18, w49, w51, w161, w171⟩ := hw
  obtain ⟨q1, q2, q3, q4, q5⟩ := test_165 (S := q_up (q_up (q_up (q_up (F_beg S 4) 136 17 (F_beg S 4 136 17 + 1)) 145 (S 136 14) (F_beg S 4 136 17)) 160 (F_beg S 4 136 17) (S 136 14)) 161 (F_beg S 4 136 17) (F_beg S 4 136 49)) (s := S 136 14) (t := t)
  refine ⟨i1, fun i hi n1 n2 => ?_, w14, w17, w49, w51, w171, ?_, ?_, ?_, ?_, ?_, ?_, ?_, w161, ?_, ?_, ?_, ?_, ?_⟩
  · have : i = 15 ∨ i = 16 ∨ i = 18 := by omega
    rcases this with rfl | rfl | rfl <;> assumption
  · intro i
    unfold F_wr
    rw [q_up_ne _ _ _ _ (by decide), test_ne (by decide)]
    simp only [F_beg, F_lay_ne, F_lay_f, F_lay_18, F_mk_ne, F_mk_f, F_mk_15, q_up_eq, q_up_ne, q_up_ne2, q_upf_ne, q_upf_eq, not_false_eq_true, Nat.reduceEqDiff, Int.reduceEq]
  · unfold F_wr
    rw [q_up_ne _ _ _ _ (by decide), test_ne (by decide)]
    simp only [q_up_eq, q_up_ne, q_up_ne2, q_upf_ne, q_upf_eq, not_false_eq_true, Nat.reduceEqDiff]
    exact r142
  · unfold F_wr
    rw [q_up_ne _ _ _ _ (by decide), test_ne (by decide)]
    simp only [q_up_eq, q_up_ne, q_up_ne2, q_upf_ne, q_upf_eq, not_false_eq_true, Nat.reduceEqDiff]
    exact r143
  · unfold F_wr
    rw [q_up_ne _ _ _ _ (by decide), test_ne (by decide)]
    simp only [q_up_eq, q_up_ne, q_up_ne2, q_upf_ne, q_upf_eq, not_false_eq_true, Nat.reduceEqDiff]
    exact r144
  · unfold F_wr
    rw [q_up_ne _ _ _ _ (by decide), test_ne (by decide)]
    simp only [q_up_eq, q_up_ne, q_up_ne2, q_upf_ne, q_upf_eq, not_false_eq_true, Nat.reduceEqDiff]
    exact b17
  · unfold F_wr
    rw [q_up_ne _ _ _ _ (by decide), test_ne (by decide)]
    simp only [q_up_eq, q_up_ne, q_up_ne2, q_upf_ne, q_upf_eq, not_false_eq_true, Nat.reduceEqDiff]
    exact r146
  · unfold F_wr
    rw [q_up_ne _ _ _ _ (by decide), test_ne (by decide), b17]
    simp only [q_up_eq, q_up_ne, q_up_ne2, q_upf_ne, q_upf_eq, not_false_eq_true, Nat.reduceEqDiff]
  · unfold F_wr; rw [q_up_ne _ _ _ _ (by decide)]; exact q1
  · unfold F_wr; rw [q_up_ne _ _ _ _ (by decide)]; exact q2
  · unfold F_wr; rw [q_up_ne _ _ _ _ (by decide)]; exact q3
  · unfold F_wr; rw [q_up_ne _ _ _ _ (by decide)]; exact q4
  · unfold F_wr; rw [q_up_ne _ _ _ _ (by decide)]; exact q5
/-- the head of a loop: from its first rows to its test -/
theorem wh_A {Sd : St} {set l s : Int} (h0 : 0 ≤ Sd 136 15) (hts : Sd 165 (2 * s) = F_sk t.2.1.1 ∧ Sd 166 (2 * s) = t.2.1.2 ∧ Sd 165 (2 * s + 1) = F_sk t.2.2.1 ∧ Sd 166 (2 * s + 1) = t.2.2.2) (ht : VALt pl t) (hl : l < Sd 136 17) (hs : s < Sd 136 14) :
    ∃ S4 S6 : St, S6 = F_lay (F_look (F_lay (q_up S4 163 l (S4 136 15 - Sd 136 15)) 0 s 0) s) 5 s 0 ∧ S4 = F_round set s 8 0 (F_lay (q_up Sd 162 l (Sd 136 15)) 8 l 0) ∧
      (∀ i, ¬ i = 15 → ¬ i = 18 → S6 136 i = Sd 136 i) ∧ S6 136 15 = Sd 136 15 + (v_many set 8 0 : Nat) ∧ S6 136 18 = Sd 136 18 + 1 + (v_many set 8 0 : Nat) + 2 ∧ F_look (F_lay (q_up S4 163 l (S4 136 15 - Sd 136 15)) 0 s 0) s 136 18 = Sd 136 18 + 1 + (v_many set 8 0 : Nat) + 1 ∧ F_lay (q_up Sd 162 l (Sd 136 15)) 8 l 0 136 18 = Sd 136 18 + 1 ∧ F_lay (q_up Sd 162 l (Sd 136 15)) 8 l 0 136 15 = Sd 136 15 ∧
      nz (S6 171) = v_now set 8 0 (Sd 136 15) (nz (Sd 171)) ∧ TSR S6 s t (v_sv (v_now set 8 0 (Sd 136 15) (nz (Sd 171))) t.2.1) (v_sv (v_now set 8 0 (Sd 136 15) (nz (Sd 171))) t.2.2) ∧
      WX (fun a i => (162 ≤ a ∧ a ≤ 163 ∧ i = l) ∨ (a = 167 ∧ (i = 2 * s ∨ i = 2 * s + 1))) Sd S6 ∧ S6 162 l = Sd 136 15 ∧ S6 163 l = (v_many set 8 0 : Nat) ∧
      TAB (VRokR S6) (Sd 136 15) (v_round set (nz (Sd 171)) (fun _ => -1) s 8 0) ∧ TAB (CDok S6) (Sd 136 18) ((8, l, 0) :: (v_cd (Sd 136 15) (v_many set 8 0) ++ [(0, s, 0), (5, s, 0)])) ∧ (NW Sd → NW S6) ∧ (∀ i, Sd 136 15 ≤ i → i < S6 136 15 → 0 ≤ S6 147 i ∧ S6 147 i < 8) := by
  have u18 : F_lay (q_up Sd 162 l (Sd 136 15)) 8 l 0 136 18 = Sd 136 18 + 1 := by rw [F_lay_18, q_up_ne _ _ _ _ (by decide)]
  have u1 : ∀ i, ¬ i = 18 → F_lay (q_up Sd 162 l (Sd 136 15)) 8 l 0 136 i = Sd 136 i := fun i h => by rw [F_lay_f h, q_up_ne _ _ _ _ (by decide)]
  have u171 : ∀ i, F_lay (q_up Sd 162 l (Sd 136 15)) 8 l 0 171 i = Sd 171 i := fun i => by rw [F_lay_ne (by decide) (by decide) (by decide) (by decide), q_up_ne _ _ _ _ (by decide)]
  have u147 : ∀ i, F_lay (q_up Sd 162 l (Sd 136 15)) 8 l 0 147 i = Sd 147 i := fun i => by rw [F_lay_ne (by decide) (by decide) (by decide) (by decide), q_up_ne _ _ _ _ (by decide)]
  have u165 : ∀ a i, 165 ≤ a ∧ a ≤ 166 → F_lay (q_up Sd 162 l (Sd 136 15)) 8 l 0 a i = Sd a i := fun a i h => by rw [F_lay_ne (by omega) (by omega) (by omega) (by omega), q_up_ne _ _ _ _ (by omega)]
  have u162 : F_lay (q_up Sd 162 l (Sd 136 15)) 8 l 0 162 l = Sd 136 15 := by rw [F_lay_ne (by decide) (by decide) (by decide) (by decide), q_up_eq]
  have n8 : CDok (F_lay (q_up Sd 162 l (Sd 136 15)) 8 l 0) (Sd 136 18) (8, l, 0) := by
    have := (NOK_lay (S := q_up Sd 162 l (Sd 136 15)) (x := 8) (a := l) (b := 0)).1.2.2.2.2.2.2.2.1
    rw [q_up_ne _ _ _ _ (by decide)] at this
    exact this
  have wA : WX (fun a i => (162 ≤ a ∧ a ≤ 163 ∧ i = l) ∨ (a = 167 ∧ (i = 2 * s ∨ i = 2 * s + 1))) Sd (F_lay (q_up Sd 162 l (Sd 136 15)) 8 l 0) := by
    have w1 : WX (fun a i => (162 ≤ a ∧ a ≤ 163 ∧ i = l) ∨ (a = 167 ∧ (i = 2 * s ∨ i = 2 * s + 1))) Sd (q_up Sd 162 l (Sd 136 15)) := WX_up (by decide) (Or.inl (Or.inl ⟨by decide, by decide, rfl⟩))
    exact WX_trans w1 (WX_IV (IV_lay IV_refl))
  have hnw : NW Sd → NW (F_lay (q_up Sd 162 l (Sd 136 15)) 8 l 0) := by
    intro h i i0 i1
    rw [u171, u1 15 (by decide), u147]
    exact h i i0 i1
  have z1 : nz (F_lay (q_up Sd 162 l (Sd 136 15)) 8 l 0 171) = nz (Sd 171) := by congr 1
  have u15 := u1 15 (by decide)
  have u14 := u1 14 (by decide)
  have u17 := u1 17 (by decide)
  generalize F_lay (q_up Sd 162 l (Sd 136 15)) 8 l 0 = T1 at *
  have nR := NOK_round (s := s) (set := set) 8 0 T1 (nz (Sd 171)) (by omega) (by omega) (by omega) (fun j j0 j1 => by rw [u171, nz_at j0 (by omega)])
  obtain ⟨-, -, r3, -, -, -, -, r8⟩ := round_ok (S0 := T1) (s := s) (set := set) 8 0 T1 IV_refl (by omega)
  have v4 := round_147 (s := s) (set := set) 8 0 T1 (by omega) (by omega) (by omega)
  have hokR := OKO_rd (set := set) (fin := fun _ => -1) (now0 := nz (Sd 171)) (s := s) (m := ([], [], [], v_cd (T1 136 15) (v_many set 8 0))) 8 0 (T1 136 15) (nz (T1 171)) nz_nz
  have nwR : NW T1 → NW (F_round set s 8 0 T1) := fun h => NW_of nR hokR h (by omega)
  have l15 := nR.2.1.2.2.2.2.2.2.1
  have l18 := nR.2.1.2.2.2.2.2.2.2
  dsimp only at l15 l18
  rw [v_round_len] at l15
  rw [v_cd_len] at l18
  have zR := nR.2.2.1
  dsimp only at zR
  rw [z1, u15] at zR
  have iR := nR.2.2.2
  have tV := nR.1.2.2.2.1
  have tC := nR.1.2.2.2.2.2.2.2
  dsimp only at tV tC
  rw [u15] at tV tC
  rw [u18] at tC
  have q165 : ∀ a i, 165 ≤ a ∧ a ≤ 166 → F_round set s 8 0 T1 a i = Sd a i := fun a i h => by rw [r8 a i (by omega), u165 a i h]
  have q162 : F_round set s 8 0 T1 162 l = Sd 136 15 := by rw [r8 162 l (by decide), u162]
  have q14 : ∀ i, ¬ i = 15 → ¬ i = 18 → F_round set s 8 0 T1 136 i = Sd 136 i := fun i a1 a2 => by rw [r3 i a1 a2, u1 i a2]
  clear r3 r8 u165 hokR
  generalize hS4 : F_round set s 8 0 T1 = S4 at *
  have e415 : S4 136 15 = Sd 136 15 + (v_many set 8 0 : Nat) := by omega
  have e418 : S4 136 18 = Sd 136 18 + 1 + (v_many set 8 0 : Nat) := by omega
  have e414 := q14 14 (by decide) (by decide)
  have e417 := q14 17 (by decide) (by decide)
  -- behind the ROUND ones
  have y1 : ∀ i, ¬ i = 18 → F_lay (q_up S4 163 l (S4 136 15 - Sd 136 15)) 0 s 0 136 i = S4 136 i := fun i h => by rw [F_lay_f h, q_up_ne _ _ _ _ (by decide)]
  have y18 : F_lay (q_up S4 163 l (S4 136 15 - Sd 136 15)) 0 s 0 136 18 = S4 136 18 + 1 := by rw [F_lay_18, q_up_ne _ _ _ _ (by decide)]
  have ya : ∀ a i, ¬ a = 136 → ¬ a = 163 → ¬ a = 168 → ¬ a = 169 → ¬ a = 170 → F_lay (q_up S4 163 l (S4 136 15 - Sd 136 15)) 0 s 0 a i = S4 a i := fun a i h1 h2 h3 h4 h5 => by rw [F_lay_ne h1 h3 h4 h5, q_up_ne _ _ _ _ h2]
  have y163 : F_lay (q_up S4 163 l (S4 136 15 - Sd 136 15)) 0 s 0 163 l = (v_many set 8 0 : Nat) := by rw [F_lay_ne (by decide) (by decide) (by decide) (by decide), q_up_eq]; omega
  have n0 : CDok (F_lay (q_up S4 163 l (S4 136 15 - Sd 136 15)) 0 s 0) (S4 136 18) (0, s, 0) := by
    have := (NOK_lay (S := q_up S4 163 l (S4 136 15 - Sd 136 15)) (x := 0) (a := s) (b := 0)).1.2.2.2.2.2.2.2.1
    rw [q_up_ne _ _ _ _ (by decide)] at this
    exact this
  have wB : WX (fun a i => (162 ≤ a ∧ a ≤ 163 ∧ i = l) ∨ (a = 167 ∧ (i = 2 * s ∨ i = 2 * s + 1))) S4 (F_lay (q_up S4 163 l (S4 136 15 - Sd 136 15)) 0 s 0) := by
    have w1 : WX (fun a i => (162 ≤ a ∧ a ≤ 163 ∧ i = l) ∨ (a = 167 ∧ (i = 2 * s ∨ i = 2 * s + 1))) S4 (q_up S4 163 l (S4 136 15 - Sd 136 15)) := WX_up (by decide) (Or.inl (Or.inl ⟨by decide, by decide, rfl⟩))
    exact WX_trans w1 (WX_IV (IV_lay IV_refl))
  have ts := sv_look (S := F_lay (q_up S4 163 l (S4 136 15 - Sd 136 15)) 0 s 0) (s := s) (by rw [ya 165 _ (by decide) (by decide) (by decide) (by decide) (by decide), q165 165 _ (by decide)]; exact hts.1) (by rw [ya 166 _ (by decide) (by decide) (by decide) (by decide) (by decide), q165 166 _ (by decide)]; exact hts.2.1) (by rw [ya 165 _ (by decide) (by decide) (by decide) (by decide) (by decide), q165 165 _ (by decide)]; exact hts.2.2.1) (by rw [ya 166 _ (by decide) (by decide) (by decide) (by decide) (by decide), q165 166 _ (by decide)]; exact hts.2.2.2) ht
  have zU : nz (F_lay (q_up S4 163 l (S4 136 15 - Sd 136 15)) 0 s 0 171) = v_now set 8 0 (Sd 136 15) (nz (Sd 171)) := by
    rw [← zR]
    congr 1
  rw [zU] at ts
  generalize hU : F_lay (q_up S4 163 l (S4 136 15 - Sd 136 15)) 0 s 0 = U at *
  have k18 : F_look U s 136 18 = Sd 136 18 + 1 + (v_many set 8 0 : Nat) + 1 := by rw [look_ne (by decide)]; omega
  have wC : WX (fun a i => (162 ≤ a ∧ a ≤ 163 ∧ i = l) ∨ (a = 167 ∧ (i = 2 * s ∨ i = 2 * s + 1))) U (F_look U s) := by
    unfold F_look F_look1
    exact WX_trans (WX_up (by decide) (Or.inl (Or.inr ⟨rfl, Or.inl (by omega)⟩))) (WX_up (by decide) (Or.inl (Or.inr ⟨rfl, Or.inr rfl⟩)))
  have n5 := (NOK_lay (S := F_look U s) (x := 5) (a := s) (b := 0)).1.2.2.2.2.2.2.2.1
  have wD : WX (fun a i => (162 ≤ a ∧ a ≤ 163 ∧ i = l) ∨ (a = 167 ∧ (i = 2 * s ∨ i = 2 * s + 1))) (F_look U s) (F_lay (F_look U s) 5 s 0) := WX_IV (IV_lay IV_refl)
  have w46 := WX_trans wB (WX_trans wC wD)
  have g6 : ∀ a i, ¬ a = 136 → ¬ a = 167 → ¬ a = 168 → ¬ a = 169 → ¬ a = 170 → F_lay (F_look U s) 5 s 0 a i = U a i := fun a i h1 h2 h3 h4 h5 => by rw [F_lay_ne h1 h3 h4 h5, look_ne h2]
  have g6c : ∀ i, ¬ i = 18 → F_lay (F_look U s) 5 s 0 136 i = S4 136 i := fun i h => by rw [F_lay_f h, look_ne (by decide), y1 i h]
  have g618 : F_lay (F_look U s) 5 s 0 136 18 = Sd 136 18 + 1 + (v_many set 8 0 : Nat) + 2 := by rw [F_lay_18, k18]; omega
  have g615 := g6c 15 (by decide)
  refine ⟨S4, F_lay (F_look U s) 5 s 0, by rw [hU], rfl, fun i a1 a2 => by rw [g6c i a2, q14 i a1 a2], by omega, g618, by rw [hU]; exact k18, u18, u15, ?_, ?_, ?_, ?_, ?_, ?_, ?_, ?_, ?_⟩
  · rw [← zU]
    congr 1
  · exact TSR_of ts (fun a i ha _ => F_lay_ne (by omega) (by omega) (by omega) (by omega))
  · exact WX_trans (WX_trans wA (WX_IV iR)) w46
  · rw [g6 162 l (by decide) (by decide) (by decide) (by decide) (by decide), ya 162 l (by decide) (by decide) (by decide) (by decide) (by decide), q162]
  · rw [g6 163 l (by decide) (by decide) (by decide) (by decide) (by decide), y163]
  · refine TAB_mono _ _ (fun j x j1 j2 hx => ?_) tV
    rw [v_round_len] at j2
    have g : ∀ a, 147 ≤ a ∧ a ≤ 154 → F_lay (F_look U s) 5 s 0 a j = S4 a j := fun a ha => w46.1 a j (bel_15 (by omega) ha) (by omega)
    unfold VRokR at *
    rw [g 147 (by decide), g 148 (by decide), g 149 (by decide), g 150 (by decide), g 151 (by decide), g 152 (by decide), g 153 (by decide), g 154 (by decide)]
    exact hx
  · have wT := WX_trans (WX_IV (X := fun a i => (162 ≤ a ∧ a ≤ 163 ∧ i = l) ∨ (a = 167 ∧ (i = 2 * s ∨ i = 2 * s + 1))) iR) w46
    have wU := WX_trans wC wD
    refine ⟨?_, (TAB_app _ _ _).mpr ⟨?_, ?_⟩⟩
    · have g : ∀ a, 168 ≤ a ∧ a ≤ 170 → F_lay (F_look U s) 5 s 0 a (Sd 136 18) = T1 a (Sd 136 18) := fun a ha => wT.1 a _ (bel_18 (by omega) ha) (by omega)
      unfold CDok at *
      rw [g 168 (by decide), g 169 (by decide), g 170 (by decide)]
      exact n8
    · refine TAB_mono _ _ (fun j x j1 j2 hx => ?_) tC
      rw [v_cd_len] at j2
      have g : ∀ a, 168 ≤ a ∧ a ≤ 170 → F_lay (F_look U s) 5 s 0 a j = S4 a j := fun a ha => w46.1 a j (bel_18 (by omega) ha) (by omega)
      unfold CDok at *
      rw [g 168 (by decide), g 169 (by decide), g 170 (by decide)]
      exact hx
    · rw [v_cd_len, show Sd 136 18 + 1 + ((v_many set 8 0 : Nat) : Int) = S4 136 18 by omega]
      refine ⟨?_, ?_, trivial⟩
      · have g : ∀ a, 168 ≤ a ∧ a ≤ 170 → F_lay (F_look U s) 5 s 0 a (S4 136 18) = U a (S4 136 18) := fun a ha => wU.1 a _ (bel_18 (by omega) ha) (by omega)
        unfold CDok at n0 ⊢
        rw [g 168 (by decide), g 169 (by decide), g 170 (by decide)]
        exact n0
      · rw [show S4 136 18 + 1 = F_look U s 136 18 by omega]
        exact n5
  · intro h i i0 i1
    obtain ⟨p1, p2, p3⟩ := nwR (hnw h) i i0 i1
    rw [g6 171 _ (by decide) (by decide) (by decide) (by decide) (by decide), ya 171 _ (by decide) (by decide) (by decide) (by decide) (by decide), g615, g6 147 _ (by decide) (by decide) (by decide) (by decide) (by decide), ya 147 _ (by decide) (by decide) (by decide) (by decide) (by decide)]
    exact ⟨p1, p2, p3⟩
  · intro i i0 i1
    rw [g6 147 _ (by decide) (by decide) (by decide) (by decide) (by decide), ya 147 _ (by decide) (by decide) (by decide) (by decide) (by decide)]
    exact v4 i (by omega) (by omega)
end NKF
