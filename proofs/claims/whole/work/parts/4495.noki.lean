section NKI
variable {S S0 S1 S2 S' : St} {x how fr too a b i sv0 sv1 : Int} {t : TT} {pl : Int → Int}
theorem s_wh_eq {s k l ar : Int} {pA : Int → Int → Int → SO} {PA : SO} (hA : PA = pA (s + 1) k (l + 1)) : s_wh t pA ar s k l = (((4, -1, 0, -1, 0), (-1, l, ar, s + 1 + PA.1.length, s + 1 + PA.1.length), t) :: PA.1, PA.2.1, (s, ar) :: PA.2.2) := by
  subst hA
  rfl
theorem dry_set {FA : St → St} {pA : Int → Int → Int → Int → SO} {gA : NF} {kA : List (Int × Int)} (hA : FN FA pA gA) (hkA : ∀ ar s k l, (pA ar s k l).1.map (fun r => (r.1.1, r.1.2.1)) = kA) (hP1 : P0 S1) (hNW : NW S1) : (F_dry FA S1).1 = tbits kA 0 := by
  unfold P0 at hP1
  have nwk : NW (F_keep S1) := by
    intro i i0 i1
    rw [keep_ne (by decide) (by decide), keep_f (by decide), keep_ne (by decide) (by decide)]
    exact hNW i i0 i1
  have k14 : F_keep S1 136 14 = S1 136 14 := keep_f (by decide)
  have k15 : F_keep S1 136 15 = S1 136 15 := keep_f (by decide)
  have k16 : F_keep S1 136 16 = S1 136 16 := keep_f (by decide)
  have k17 : F_keep S1 136 17 = S1 136 17 := keep_f (by decide)
  have k18 : F_keep S1 136 18 = S1 136 18 := keep_f (by decide)
  have k51 : F_keep S1 136 51 = S1 136 51 + 8 := keep_51
  have nA := hA (F_keep S1) (by unfold P0; omega) nwk
  have tb := nA.1.1
  have hl := nA.2.1.1
  have := told_tab _ _ 0 tb
  rw [hkA] at this
  unfold F_dry
  dsimp only
  rw [← this, ← k14]
  congr 1
  omega
theorem wh_gh {Sd S6 S13 : St} {f15 f18 : Int} {n : Nat} {l s : Int} (hd : Sd 136 14 = s + 1) (hl : Sd 136 17 = l + 1) (wA : WX (fun a i => (162 ≤ a ∧ a ≤ 163 ∧ i = l) ∨ (a = 167 ∧ (i = 2 * s ∨ i = 2 * s + 1))) Sd S6) (wB : WX (fun a i => (a = 151 ∧ f15 ≤ i ∧ i < f15 + n) ∨ (a = 170 ∧ i = f18)) S6 S13) (gd : ∀ a i, ((142 ≤ a ∧ a ≤ 146) ∨ a = 164) ∧ i < s + 1 ∨ (165 ≤ a ∧ a ≤ 167) ∧ i < 2 * (s + 1) ∨ (160 ≤ a ∧ a ≤ 163) ∧ i < l + 1 → Sd a i = S1 a i) :
    ∀ a i, ((142 ≤ a ∧ a ≤ 146) ∨ a = 164) ∧ i < s + 1 ∨ (165 ≤ a ∧ a ≤ 166) ∧ i < 2 * (s + 1) ∨ (160 ≤ a ∧ a ≤ 161) ∧ i < l + 1 → S13 a i = S1 a i := by
  intro a i h
  have hb : bel Sd a i := by
    rcases h with ⟨h1, h2⟩ | ⟨h1, h2⟩ | ⟨h1, h2⟩
    · exact bel_14 (by omega) h1
    · exact bel_165 (by omega) (by omega)
    · exact bel_17 (by omega) (by omega)
  rw [wB.1 a i (bel_up wA.2 hb) (by omega), wA.1 a i hb (by omega)]
  exact gd a i (by omega)
theorem gd_of {Sd : St} {s l : Int} (iD : IV S1 Sd) (h1 : S1 136 14 = s + 1) (h2 : S1 136 17 = l + 1) : ∀ a i, ((142 ≤ a ∧ a ≤ 146) ∨ a = 164) ∧ i < s + 1 ∨ (165 ≤ a ∧ a ≤ 167) ∧ i < 2 * (s + 1) ∨ (160 ≤ a ∧ a ≤ 163) ∧ i < l + 1 → Sd a i = S1 a i := by
  intro a i h
  rcases h with ⟨h1, h2⟩ | ⟨h1, h2⟩ | ⟨h1, h2⟩
  · exact iD.1 a i (bel_14 (by omega) h1)
  · exact iD.1 a i (bel_165 (by omega) h1)
  · exact iD.1 a i (bel_17 (by omega) h1)
theorem FN_wh {FA : St → St} {pA : Int → Int → Int → Int → SO} {gA : NF} {kA : List (Int × Int)} (hA : FN FA pA gA) (gfA : GF FA) (ht : VALt pl t) (hkA : ∀ ar s k l, (pA ar s k l).1.map (fun r => (r.1.1, r.1.2.1)) = kA) :
    FN (F_wh t FA) (fun ar s k l => s_wh t (pA l) ar s k l) (n_wh t (tbits kA 0) gA) := by
  intro S hP hNW
  have hIV := (GF_wh (t := t) gfA S hP).1
  have hP' := hP
  unfold P0 at hP'
  have b17 := (beg_c (S := S) (sort := 4)).2.2.2.1
  have eF : F_wh t FA S = F_wh2 t FA (S 136 14) (F_beg S 4) := F_wh_2
  unfold F_wh2 at eF
  dsimp only at eF
  rw [b17] at eF
  obtain ⟨i1, w1, w14, w17, w49, w51, w171, w147, r142, r143, r144, r145, r146, r160, r161, q1, q2, q3, q4, q5⟩ := wr_ok (S := S) (t := t) hP
  generalize F_wr (F_beg S 4) (S 136 14) t = S1 at *
  have w15 := w1 15 (by decide) (by decide) (by decide)
  have w16 := w1 16 (by decide) (by decide) (by decide)
  have w18 := w1 18 (by decide) (by decide) (by decide)
  have hP1 : P0 S1 := by unfold P0; omega
  -- the dry pass
  have hset : (F_dry FA S1).1 = tbits kA 0 := dry_set hA hkA hP1 (by
    intro i i0 i1
    rw [w171, w15, w147]
    exact hNW i i0 i1)
  obtain ⟨iD, -, d14, d15, d16, d17, d18, d49, d51, d171⟩ := dry_ok gfA hP1
  rw [hset] at eF
  generalize (F_dry FA S1).2 = Sd at *
  have e14 : Sd 136 14 = S 136 14 + 1 := by omega
  have e15 : Sd 136 15 = S 136 15 := by omega
  have e16 : Sd 136 16 = S 136 16 := by omega
  have e17 : Sd 136 17 = S 136 17 + 1 := by omega
  have e18 : Sd 136 18 = S 136 18 := by omega
  have e49 : Sd 136 49 = S 136 17 := by omega
  have e51 : Sd 136 51 = S 136 51 := by omega
  have zd : nz (Sd 171) = nz (S 171) := by
    funext j
    unfold nz
    by_cases hj : 0 ≤ j ∧ j ≤ 7
    · rw [if_pos hj, if_pos hj, d171 j hj.1 hj.2, w171]
    · rw [if_neg hj, if_neg hj]
  have gd := gd_of (s := S 136 14) (l := S 136 17) iD w14 w17
  have nwd : NW Sd := by
    intro i i0 i1
    obtain ⟨g1, g2, g3⟩ := hNW i i0 i1
    rw [d171 i i0 i1, w171, iD.1 147 _ (bel_15 (by omega) (by decide)), w147]
    exact ⟨g1, by omega, g3⟩
  obtain ⟨S4, S6, hS6, hS4, c6, c615, c618, kt, kh, kf, z6, ts6, wA, n162, n163, tV, tC, nw6, v6⟩ := wh_A (Sd := Sd) (set := tbits kA 0) (l := S 136 17) (s := S 136 14) (by omega) ⟨by rw [gd 165 _ (Or.inr (Or.inl ⟨by decide, by omega⟩))]; exact q1, by rw [gd 166 _ (Or.inr (Or.inl ⟨by decide, by omega⟩))]; exact q2, by rw [gd 165 _ (Or.inr (Or.inl ⟨by decide, by omega⟩))]; exact q3, by rw [gd 166 _ (Or.inr (Or.inl ⟨by decide, by omega⟩))]; exact q4⟩ ht (by omega) (by omega)
  rw [kh, kf, ← hS4] at eF
  rw [kt, ← hS6] at eF
  rw [zd, e15] at z6 ts6
  rw [zd, e15] at tV
  rw [e15, e18] at tC
  have c614 := c6 14 (by decide) (by decide)
  have c616 := c6 16 (by decide) (by decide)
  have c617 := c6 17 (by decide) (by decide)
  have c649 := c6 49 (by decide) (by decide)
  have c651 := c6 51 (by decide) (by decide)
  obtain ⟨S13, PA, oA, H, Fl, hH, hFl, hPA, hoA, eB, nB, dB, zB, t170, t151, wB, g51, g49⟩ := wh_B (S6 := S6) (l := S 136 17) (s := S 136 14) (first := S 136 15) (head := S 136 18 + 1) (test := S 136 18 + 1 + (v_many (tbits kA 0) 8 0 : Nat) + 1) (n := v_many (tbits kA 0) 8 0) hA gfA (by unfold P0; omega) (nw6 nwd) ht ts6 (by omega) (by omega) (by omega) (by omega) n163 (fun i i0 i1 => v6 i (by omega) (by omega)) (by omega)
  rw [c651, e51, e15, e18] at eF
  rw [c651, e51] at eB
  rw [eB] at eF
  clear hA gfA hkA eB hS6 hS4 kt kh kf nw6 nwd
  rw [c614, c616, c617, c649, e14, e16, e17, e49] at hPA
  rw [c614, c616, c617, c649, e14, e16, e17, e49, c615, c618, e15, e18, z6] at hoA
  rw [c615, e15] at nB dB zB
  rw [c618, e18] at t170
  rw [z6] at zB
  -- what the head has told, at the end
  have mR : TAB (VRokR S13) (S 136 15) (v_round (tbits kA 0) (nz (S 171)) oA.1 (S 136 14) 8 0) := by
    refine round_fin (S := S6) 8 0 (S 136 15) (by omega) (by omega) tV (fun i i0 i1 => ⟨fun a ha hn => ?_, t151 i i0 i1⟩)
    exact wB.1 a i (bel_15 (by omega) ha) (by omega)
  have g18 : ∀ a i, 168 ≤ a ∧ a ≤ 170 → i < S6 136 18 → ¬ (a = 170 ∧ i = S 136 18 + 1 + (v_many (tbits kA 0) 8 0 : Nat) + 1) → S13 a i = S6 a i := fun a i ha hi hn => wB.1 a i (bel_18 hi ha) (by omega)
  have mC : TAB (CDok S13) (S 136 18) ((8, S 136 17, 0) :: (v_cd (S 136 15) (v_many (tbits kA 0) 8 0) ++ [(0, S 136 14, 0), (5, S 136 14, S 136 18 + 1 + (v_many (tbits kA 0) 8 0 : Nat) + 2 + (H.length : Nat) + (oA.2.2.2.2.2.length : Nat) + 1)])) := by
    obtain ⟨⟨y1, y2, y3⟩, tC2⟩ := tC
    obtain ⟨tC3, tC4⟩ := (TAB_app _ _ _).mp tC2
    rw [v_cd_len] at tC4
    obtain ⟨⟨o1, o2, o3⟩, ⟨o4, o5, -⟩, -⟩ := tC4
    refine ⟨⟨?_, ?_, ?_⟩, (TAB_app _ _ _).mpr ⟨TAB_mono _ _ (fun j x j1 j2 hx => ?_) tC3, ?_⟩⟩
    · rw [g18 168 _ (by decide) (by omega) (by omega)]; exact y1
    · rw [g18 169 _ (by decide) (by omega) (by omega)]; exact y2
    · rw [g18 170 _ (by decide) (by omega) (by omega)]; exact y3
    · rw [v_cd_len] at j2
      unfold CDok at *
      rw [g18 168 _ (by decide) (by omega) (by omega), g18 169 _ (by decide) (by omega) (by omega), g18 170 _ (by decide) (by omega) (by omega)]
      exact hx
    · rw [v_cd_len]
      refine ⟨⟨?_, ?_, ?_⟩, ⟨?_, ?_, t170⟩, trivial⟩
      · rw [g18 168 _ (by decide) (by omega) (by omega)]; exact o1
      · rw [g18 169 _ (by decide) (by omega) (by omega)]; exact o2
      · rw [g18 170 _ (by decide) (by omega) (by omega)]; exact o3
      · rw [g18 168 _ (by decide) (by omega) (by omega)]; exact o4
      · rw [g18 169 _ (by decide) (by omega) (by omega)]; exact o5
  have m0 : NTB Sd S13 so0 (nz (S6 171), v_round (tbits kA 0) (nz (S 171)) oA.1 (S 136 14) 8 0, [], [], [], (8, S 136 17, 0) :: (v_cd (S 136 15) (v_many (tbits kA 0) 8 0) ++ [(0, S 136 14, 0), (5, S 136 14, S 136 18 + 1 + (v_many (tbits kA 0) 8 0 : Nat) + 2 + (H.length : Nat) + (oA.2.2.2.2.2.length : Nat) + 1)])) := ⟨trivial, trivial, trivial, by rw [e15]; exact mR, trivial, trivial, trivial, by rw [e18]; exact mC⟩
  have d0 : NCT Sd S6 so0 (nz (S6 171), v_round (tbits kA 0) (nz (S 171)) oA.1 (S 136 14) 8 0, [], [], [], (8, S 136 17, 0) :: (v_cd (S 136 15) (v_many (tbits kA 0) 8 0) ++ [(0, S 136 14, 0), (5, S 136 14, S 136 18 + 1 + (v_many (tbits kA 0) 8 0 : Nat) + 2 + (H.length : Nat) + (oA.2.2.2.2.2.length : Nat) + 1)])) := by
    refine ⟨by rw [c614]; simp, rfl, by rw [c616]; simp, rfl, by rw [c617]; simp, rfl, ?_, ?_⟩
    · show S6 136 15 = Sd 136 15 + ((v_round (tbits kA 0) (nz (S 171)) oA.1 (S 136 14) 8 0).length : Nat)
      rw [v_round_len]; exact c615
    · show S6 136 18 = Sd 136 18 + (((8, S 136 17, 0) :: (v_cd (S 136 15) (v_many (tbits kA 0) 8 0) ++ [(0, S 136 14, 0), (5, S 136 14, S 136 18 + 1 + (v_many (tbits kA 0) 8 0 : Nat) + 2 + (H.length : Nat) + (oA.2.2.2.2.2.length : Nat) + 1)]) : List CD).length : Nat)
      rw [List.length_cons, List.length_append, v_cd_len, List.length_cons, List.length_cons, List.length_nil]
      omega
  have total := NTB_app m0 d0 nB
  have dtot := NCT_app d0 dB
  have gh := wh_gh e14 e17 wA wB gd
  have hd := NTB_hl (S := S) (hd := ((4, -1, 0, -1, 0), (-1, S 136 17, S 136 49, S 136 14 + 1 + (PA.1.length : Nat), S 136 14 + 1 + (PA.1.length : Nat)), t)) (mr := (-1, (S 136 15, ((v_many (tbits kA 0) 8 0 : Nat) : Int)), (S 136 15 + (v_many (tbits kA 0) 8 0 : Nat), S 136 15 + (v_many (tbits kA 0) 8 0 : Nat) + (H.length : Nat) + (oA.2.1.length : Nat), (H.length : Nat)), (v_sv (v_now (tbits kA 0) 8 0 (S 136 15) (nz (S 171))) t.2.1, v_sv (v_now (tbits kA 0) 8 0 (S 136 15) (nz (S 171))) t.2.2))) (lr := (S 136 14, S 136 49)) (np := (S 136 15, ((v_many (tbits kA 0) 8 0 : Nat) : Int))) total dtot e14 e15 e16 e17 e18 (by
    refine ⟨?_, ?_, ?_, ?_, ?_, fun _ => ⟨?_, ?_, ?_, ?_, ?_⟩⟩
    · rw [gh 142 _ (Or.inl ⟨Or.inl (by decide), by omega⟩)]; exact r142
    · rw [gh 143 _ (Or.inl ⟨Or.inl (by decide), by omega⟩)]; exact r143
    · rw [gh 144 _ (Or.inl ⟨Or.inl (by decide), by omega⟩)]; exact r144
    · rw [gh 145 _ (Or.inl ⟨Or.inl (by decide), by omega⟩)]; exact r145
    · rw [gh 146 _ (Or.inl ⟨Or.inl (by decide), by omega⟩)]; exact r146
    · rw [gh 164 _ (Or.inl ⟨Or.inr rfl, by omega⟩)]; exact q5
    · rw [gh 165 _ (Or.inr (Or.inl ⟨by decide, by omega⟩))]; exact q1
    · rw [gh 166 _ (Or.inr (Or.inl ⟨by decide, by omega⟩))]; exact q2
    · rw [gh 165 _ (Or.inr (Or.inl ⟨by decide, by omega⟩))]; exact q3
    · rw [gh 166 _ (Or.inr (Or.inl ⟨by decide, by omega⟩))]; exact q4) (by
    intro _
    obtain ⟨-, -, -, -, y5, y6⟩ := ts6
    constructor
    · rw [wB.1 167 _ (bel_165 (by omega) (by decide)) (by omega)]; exact y5
    · rw [wB.1 167 _ (bel_165 (by omega) (by decide)) (by omega)]; exact y6) (by
    refine ⟨?_, ?_⟩
    · rw [gh 160 _ (Or.inr (Or.inr ⟨by decide, by omega⟩))]; exact r160
    · rw [gh 161 _ (Or.inr (Or.inr ⟨by decide, by omega⟩))]; exact r161) (by
    refine ⟨?_, ?_⟩
    · rw [wB.1 162 _ (bel_17 (by omega) (by decide)) (by omega), n162]; exact e15
    · rw [wB.1 163 _ (bel_17 (by omega) (by decide)) (by omega), n163])
  have es := s_wh_eq (t := t) (ar := S 136 49) (pA := pA (S 136 17)) hPA
  have en := n_wh_eq (set := tbits kA 0) (ar := S 136 49) rfl hH hFl hoA
  dsimp only
  rw [es, en, eF]
  obtain ⟨hd1', hd2'⟩ := hd
  simp only [sap_1, sap_2, sap_3, oap_1, oap_2, oap_3, oap_4, oap_5, oap_6, List.append_nil, List.nil_append, List.cons_append, List.append_assoc] at hd1' hd2'
  rw [zB] at hd1' hd2'
  refine ⟨NTB_136 (NTB_136 hd1'), ?_, ?_, ?_⟩
  · refine NCT_cnt (S := S) (S' := S13) (fun _ _ => rfl) (fun i hi => ?_) hd2'
    rw [q_up_ne2 _ _ _ (by omega), q_up_ne2 _ _ _ (by omega)]
  · rw [← zB]
    congr 1
  · rw [← eF]; exact hIV
end NKI
