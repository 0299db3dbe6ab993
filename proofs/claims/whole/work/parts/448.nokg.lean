section NKG
variable {S S0 S1 S2 S' : St} {x how s fr too a b i v sv0 sv1 : Int} {t : TT} {pl : Int → Int}
/-- the rest of a loop: from its test on -/
theorem wh_B {FA : St → St} {pA : Int → Int → Int → Int → SO} {gA : NF} {S6 : St} {l s first head test : Int} {n : Nat} (hA : FN FA pA gA) (gfA : GF FA) (hP : P0 S6) (hNW : NW S6) (ht : VALt pl t) (hts : TSR S6 s t sv0 sv1) (hs : s < S6 136 14) (hl : l < S6 136 17) (hf : first + n ≤ S6 136 15) (hf0 : 0 ≤ first) (h163 : S6 163 l = n) (h147 : ∀ i, first ≤ i → i < first + n → 0 ≤ S6 147 i ∧ S6 147 i < 8) (htest : test < S6 136 18) :
    ∃ (S13 : St) (PA : SO) (oA : NO) (H Fl : List VR), H = v_sd t sv0 sv1 3 s ∧ Fl = v_sd t sv0 sv1 4 s ∧ PA = pA (S6 136 49) (S6 136 14) (S6 136 16) (S6 136 17) ∧ oA = gA (S6 136 14) (S6 136 16) (S6 136 17) (S6 136 15 + (H.length : Nat)) (S6 136 18 + (H.length : Nat)) (S6 136 49) (v_sn t (S6 136 15) (nz (S6 171))) ∧
      F_lay (F_sides (F_take (q_up (F_too (F_lay (FA (F_sides (F_keep S6) s 3)) 7 head 0 163 l).toNat first (F_lay (FA (F_sides (F_keep S6) s 3)) 7 head 0)) 170 test (F_too (F_lay (FA (F_sides (F_keep S6) s 3)) 7 head 0 163 l).toNat first (F_lay (FA (F_sides (F_keep S6) s 3)) 7 head 0) 136 18)) (S6 136 51)) s 4) 9 l 0 = S13 ∧
      NTB S6 S13 PA (nz (S13 171), H ++ (oA.2.1 ++ Fl), oA.2.2.1, oA.2.2.2.1, oA.2.2.2.2.1, v_cd (S6 136 15) H.length ++ (oA.2.2.2.2.2 ++ ((7, head, 0) :: (v_cd (S6 136 15 + (H.length : Nat) + (oA.2.1.length : Nat)) Fl.length ++ [(9, l, 0)])))) ∧
      NCT S6 S13 PA (nz (S13 171), H ++ (oA.2.1 ++ Fl), oA.2.2.1, oA.2.2.2.1, oA.2.2.2.2.1, v_cd (S6 136 15) H.length ++ (oA.2.2.2.2.2 ++ ((7, head, 0) :: (v_cd (S6 136 15 + (H.length : Nat) + (oA.2.1.length : Nat)) Fl.length ++ [(9, l, 0)])))) ∧
      nz (S13 171) = v_sn t (S6 136 15 + (H.length : Nat) + (oA.2.1.length : Nat)) (nz (S6 171)) ∧
      S13 170 test = S6 136 18 + (H.length : Nat) + (oA.2.2.2.2.2.length : Nat) + 1 ∧ (∀ i, first ≤ i → i < first + n → S13 151 i = oA.1 (S6 147 i)) ∧
      WX (fun a i => (a = 151 ∧ first ≤ i ∧ i < first + n) ∨ (a = 170 ∧ i = test)) S6 S13 ∧ S13 136 51 = S6 136 51 + 8 ∧ S13 136 49 = S6 136 49 := by
  have hP' := hP
  unfold P0 at hP'
  have ts2 : TSR (F_keep S6) s t sv0 sv1 := TSR_of hts (fun a i ha _ => keep_ne (by omega) (by omega))
  have n1 := NOK_sides (how := 3) ts2 ht
  have k2 : ∀ i, ¬ i = 51 → F_keep S6 136 i = S6 136 i := fun i hi => keep_f hi
  have k171 : ∀ i, F_keep S6 171 i = S6 171 i := fun i => keep_ne (by decide) (by decide)
  have z2 : nz (F_keep S6 171) = nz (S6 171) := by congr 1
  have kk15 := k2 15 (by decide)
  have nw2 : NW (F_keep S6) := by
    intro i i0 i1
    rw [k171, kk15, keep_ne (by decide) (by decide)]
    exact hNW i i0 i1
  have hsd := OKO_sd (t := t) (sv0 := sv0) (sv1 := sv1) (how := 3) (s := s) (v := F_keep S6 136 15) (m := ([], [], [], v_cd (F_keep S6 136 15) (v_sd t sv0 sv1 3 s).length)) (nz_nz (f := F_keep S6 171))
  have nw3 := NW_of n1 hsd nw2 (by omega)
  rw [z2, kk15] at n1
  have c3 : ∀ i, ¬ i = 15 → ¬ i = 18 → ¬ i = 51 → F_sides (F_keep S6) s 3 136 i = S6 136 i := fun i h1 h2 h3 => by rw [sides_f h1 h2, k2 i h3]
  have c351 : F_sides (F_keep S6) s 3 136 51 = S6 136 51 + 8 := by rw [sides_f (by decide) (by decide), keep_51]
  have iS3 := n1.2.2.2
  have a3 : ∀ j, 0 ≤ j → j ≤ 7 → F_sides (F_keep S6) s 3 172 (S6 136 51 + j) = S6 171 j := by
    intro j j0 j1
    rw [sides_ne (Or.inl rfl), keep_172, if_pos (by omega)]
    congr 1
    omega
  have f3 : ∀ a i, ¬ a = 136 → ¬ a = 171 → ¬ a = 172 → bel (F_keep S6) a i → F_sides (F_keep S6) s 3 a i = S6 a i := fun a i h1 h2 h3 hb => by rw [iS3.1 a i hb, keep_ne h1 h3]
  have l15 := n1.2.1.2.2.2.2.2.2.1
  have l18 := n1.2.1.2.2.2.2.2.2.2
  dsimp only at l15 l18
  rw [v_cd_len, k2 18 (by decide)] at l18
  rw [kk15] at l15
  have e14 := c3 14 (by decide) (by decide) (by decide)
  have e16 := c3 16 (by decide) (by decide) (by decide)
  have e17 := c3 17 (by decide) (by decide) (by decide)
  have e49 := c3 49 (by decide) (by decide) (by decide)
  have z3 := n1.2.2.1
  dsimp only at z3
  have wK : IV S6 (F_sides (F_keep S6) s 3) := IV_trans (IV_keep IV_refl (by omega)) iS3
  have cntK : ∀ i, 14 ≤ i ∧ i ≤ 18 → F_keep S6 136 i = S6 136 i := fun i hi => k2 i (by omega)
  have nH : NTB S6 (F_sides (F_keep S6) s 3) so0 (v_sn t (S6 136 15) (nz (S6 171)), v_sd t sv0 sv1 3 s, [], [], [], v_cd (S6 136 15) (v_sd t sv0 sv1 3 s).length) := NTB_cnt cntK n1.1
  have dH := NCT_cnt cntK (fun _ _ => rfl) n1.2.1
  generalize hHH : v_sd t sv0 sv1 3 s = H at *
  generalize hS7 : F_sides (F_keep S6) s 3 = S7 at *
  have cu3 := wK.2
  unfold CU at cu3
  have hP7 : P0 S7 := by unfold P0; omega
  have nA := hA S7 hP7 nw3
  rw [e49, e14, e16, e17, l15, l18, z3] at nA
  obtain ⟨gA1, gA51, gA49, -⟩ := gfA S7 hP7
  clear nw2 nw3 hsd hA gfA ts2 n1 z2 hNW
  generalize hPA : pA (S6 136 49) (S6 136 14) (S6 136 16) (S6 136 17) = PA at *
  generalize hoA : gA (S6 136 14) (S6 136 16) (S6 136 17) (S6 136 15 + (H.length : Nat)) (S6 136 18 + (H.length : Nat)) (S6 136 49) (v_sn t (S6 136 15) (nz (S6 171))) = oA at *
  generalize hS8 : FA S7 = S8 at *
  have cu8 := gA1.2
  unfold CU at cu8
  have dA := nA.2.1
  obtain ⟨u1, u2, u3, u4, u5, u6, u7, u8⟩ := dA
  have zA := nA.2.2.1
  have w163 : F_lay S8 7 head 0 163 l = n := by rw [F_lay_ne (by decide) (by decide) (by decide) (by decide), gA1.1 163 l (bel_17 (by omega) (by decide)), wK.1 163 l (bel_17 hl (by decide)), h163]
  rw [w163, Int.toNat_natCast]
  -- the jump back, where the ROUND ones come from
  have c9 : ∀ i, ¬ i = 18 → F_lay S8 7 head 0 136 i = S8 136 i := fun i h => F_lay_f h
  have c9k : F_lay S8 7 head 0 136 18 = S8 136 18 + 1 := F_lay_18
  have n7 := NOK_lay (S := S8) (x := 7) (a := head) (b := 0)
  have f9 : ∀ a i, ¬ a = 136 → ¬ a = 168 → ¬ a = 169 → ¬ a = 170 → F_lay S8 7 head 0 a i = S8 a i := fun a i h1 h2 h3 h4 => F_lay_ne h1 h2 h3 h4
  generalize hS9 : F_lay S8 7 head 0 = S9 at *
  have tne := too_ne n first S9
  have tin := too_in n first S9
  have tout := too_out n first S9
  generalize F_too n first S9 = S10 at *
  have c10 : ∀ i, S10 136 i = S9 136 i := fun i => tne 136 i (by decide)
  rw [c10, c9k]
  have w910 : WX (fun a i => (a = 151 ∧ first ≤ i ∧ i < first + n) ∨ (a = 170 ∧ i = test)) S9 S10 := by
    refine ⟨fun a i hb hx => ?_, ?_⟩
    · by_cases h : a = 151
      · subst h
        exact tout i (by omega)
      · exact tne a i h
    · unfold CU
      simp only [c10]
      omega
  have w1011 : WX (fun a i => (a = 151 ∧ first ≤ i ∧ i < first + n) ∨ (a = 170 ∧ i = test)) S10 (q_up S10 170 test (S8 136 18 + 1)) := WX_up (by decide) (Or.inl (Or.inr ⟨rfl, rfl⟩))
  have w11T : WX (fun a i => (a = 151 ∧ first ≤ i ∧ i < first + n) ∨ (a = 170 ∧ i = test)) (q_up S10 170 test (S8 136 18 + 1)) (F_take (q_up S10 170 test (S8 136 18 + 1)) (S6 136 51)) := WX_IV (IV_take IV_refl)
  have cT : ∀ i, F_take (q_up S10 170 test (S8 136 18 + 1)) (S6 136 51) 136 i = S9 136 i := fun i => by rw [take_ne (by decide), q_up_ne _ _ _ _ (by decide), c10]
  have fT : ∀ a i, ¬ a = 151 → ¬ a = 170 → ¬ a = 171 → F_take (q_up S10 170 test (S8 136 18 + 1)) (S6 136 51) a i = S9 a i := fun a i h1 h2 h3 => by rw [take_ne h3, q_up_ne _ _ _ _ h2, tne a i h1]
  have fT151 : ∀ i, first ≤ i → i < first + n → F_take (q_up S10 170 test (S8 136 18 + 1)) (S6 136 51) 151 i = S9 171 (S9 147 i) := fun i h1 h2 => by rw [take_ne (by decide), q_up_ne _ _ _ _ (by decide), tin i h1 h2]
  have fT170 : F_take (q_up S10 170 test (S8 136 18 + 1)) (S6 136 51) 170 test = S8 136 18 + 1 := by rw [take_ne (by decide), q_up_eq]
  have zT : nz (F_take (q_up S10 170 test (S8 136 18 + 1)) (S6 136 51) 171) = nz (S6 171) := by
    funext j
    unfold nz
    by_cases hj : 0 ≤ j ∧ j ≤ 7
    · rw [if_pos hj, if_pos hj, take_171 hj.1 hj.2, q_up_ne _ _ _ _ (by decide), tne 172 _ (by decide), f9 172 _ (by decide) (by decide) (by decide) (by decide), gA1.1 172 _ (bel_172 (by omega))]
      exact a3 j hj.1 hj.2
    · rw [if_neg hj, if_neg hj]
  have w9T := WX_trans w910 (WX_trans w1011 w11T)
  clear w910 w1011 w11T tne tin tout
  generalize F_take (q_up S10 170 test (S8 136 18 + 1)) (S6 136 51) = ST' at *
  have tsT : TSR ST' s t sv0 sv1 := TSR_of hts (fun a i ha hi => by rw [fT a i (by omega) (by omega) (by omega), f9 a i (by omega) (by omega) (by omega) (by omega), gA1.1 a i (bel_165 (by omega) ha), wK.1 a i (bel_165 (h_two hs hi) ha)])
  have n4 := NOK_sides (how := 4) tsT ht
  have cT15 := cT 15
  have cT18 := cT 18
  have c915 := c9 15 (by decide)
  have c914 := c9 14 (by decide)
  have c916 := c9 16 (by decide)
  have c917 := c9 17 (by decide)
  have eT15 : ST' 136 15 = S6 136 15 + (H.length : Nat) + (oA.2.1.length : Nat) := by omega
  rw [zT, eT15] at n4
  have y15 := n4.2.1.2.2.2.2.2.2.1
  have y18 := n4.2.1.2.2.2.2.2.2.2
  dsimp only at y15 y18
  rw [v_cd_len] at y18
  have i4 := n4.2.2.2
  have z4 := n4.2.2.1
  have s4 : ∀ i, ¬ i = 15 → ¬ i = 18 → F_sides ST' s 4 136 i = ST' 136 i := fun i h1 h2 => sides_f h1 h2
  generalize hFF : v_sd t sv0 sv1 4 s = Fl at *
  generalize F_sides ST' s 4 = S12 at *
  have n9 := NOK_lay (S := S12) (x := 9) (a := l) (b := 0)
  have i9 := n9.2.2.2
  have g51 : F_lay S12 9 l 0 136 51 = S6 136 51 + 8 := by rw [F_lay_f (by decide), s4 51 (by decide) (by decide), cT, c9 51 (by decide)]; omega
  have g49 : F_lay S12 9 l 0 136 49 = S6 136 49 := by rw [F_lay_f (by decide), s4 49 (by decide) (by decide), cT, c9 49 (by decide)]; omega
  have z9 : nz (F_lay S12 9 l 0 171) = v_sn t (S6 136 15 + (H.length : Nat) + (oA.2.1.length : Nat)) (nz (S6 171)) := by rw [n9.2.2.1, z4]
  have wTE := WX_IV (X := fun a i => (a = 151 ∧ first ≤ i ∧ i < first + n) ∨ (a = 170 ∧ i = test)) (IV_trans i4 i9)
  have w9E := WX_trans w9T wTE
  have w8E := WX_trans (WX_IV (X := fun a i => (a = 151 ∧ first ≤ i ∧ i < first + n) ∨ (a = 170 ∧ i = test)) n7.2.2.2) w9E
  have w7E := WX_trans (WX_IV (X := fun a i => (a = 151 ∧ first ≤ i ∧ i < first + n) ∨ (a = 170 ∧ i = test)) gA1) w8E
  have w6E := WX_trans (WX_IV (X := fun a i => (a = 151 ∧ first ≤ i ∧ i < first + n) ∨ (a = 170 ∧ i = test)) wK) w7E
  have iTE := IV_trans i4 i9
  generalize hS13 : F_lay S12 9 l 0 = S13 at *
  have mH := NTB_Wd nH dH w7E hf (Or.inl htest)
  have mA := NTB_Wd nA.1 nA.2.1 w8E (by omega) (Or.inl (by omega))
  have m7 := NTB_Wd n7.1 n7.2.1 w9E (by omega) (Or.inl (by omega))
  have mF := NTB_IV n4.1 n4.2.1 i9
  have cntT : ∀ i, 14 ≤ i ∧ i ≤ 18 → ST' 136 i = S9 136 i := fun i _ => cT i
  have mF' := NTB_cnt cntT mF
  have dF' := NCT_cnt cntT (fun _ _ => rfl) n4.2.1
  have total := NTB_app mH dH (NTB_app mA nA.2.1 (NTB_app m7 n7.2.1 (NTB_app mF' dF' n9.1)))
  have dtot := NCT_app dH (NCT_app nA.2.1 (NCT_app n7.2.1 (NCT_app dF' n9.2.1)))
  refine ⟨S13, PA, oA, H, Fl, rfl, rfl, rfl, hoA.symm, rfl, ?_, ?_, z9, ?_, ?_, w6E, g51, g49⟩
  · unfold NTB at total ⊢
    simp only [sap_1, sap_2, sap_3, oap_2, oap_3, oap_4, oap_5, oap_6, List.append_nil, List.nil_append, List.cons_append] at total ⊢
    exact total
  · unfold NCT at dtot ⊢
    simp only [sap_1, sap_2, sap_3, oap_2, oap_3, oap_4, oap_5, oap_6, List.append_nil, List.nil_append, List.cons_append] at dtot ⊢
    exact dtot
  · rw [iTE.1 170 _ (bel_18 (by omega) (by decide)), fT170]
    omega
  · intro i i1 i2
    have hr := h147 i i1 i2
    have g147 : S9 147 i = S6 147 i := by rw [f9 147 _ (by decide) (by decide) (by decide) (by decide), gA1.1 147 _ (bel_15 (by omega) (by decide)), wK.1 147 _ (bel_15 (by omega) (by decide))]
    rw [iTE.1 151 _ (bel_15 (by omega) (by decide)), fT151 i i1 i2, g147, f9 171 _ (by decide) (by decide) (by decide) (by decide), ← zA, nz_at (by omega) (by omega)]
end NKG
