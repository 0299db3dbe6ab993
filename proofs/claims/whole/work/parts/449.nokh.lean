section NKH
variable {S S0 S1 S2 S' : St} {x how fr too a b i sv0 sv1 : Int} {t : TT} {pl : Int → Int}
theorem n_if_eq {set s k l v c ar : Int} {now : Int → Int} {gA gB : NF} {H Fl : List VR} {oA oB : NO} (hH : H = v_sd t (v_sv now t.2.1) (v_sv now t.2.2) 3 s) (hF : Fl = v_sd t (v_sv now t.2.1) (v_sv now t.2.2) 4 s) (hA : oA = gA (s + 1) k l (v + H.length) (c + 2 + H.length) ar (v_sn t v now)) (hB : oB = gB (s + 1 + oA.2.2.1.length) (k + oA.2.2.2.1.length) (l + oA.2.2.2.2.1.length) (v + H.length + oA.2.1.length + Fl.length) (c + 2 + H.length + oA.2.2.2.2.2.length + 1 + Fl.length) ar (v_sn t (v + H.length + oA.2.1.length) now)) :
    n_if t set gA gB s k l v c ar now = (v_now set 8 0 (v + H.length + oA.2.1.length + Fl.length + oB.2.1.length) now, H ++ (oA.2.1 ++ (Fl ++ (oB.2.1 ++ v_join set oA.1 oB.1 s 8 0))), (-1, (v + H.length + oA.2.1.length + Fl.length + oB.2.1.length, ((v_join set oA.1 oB.1 s 8 0).length : Int)), (v, v + H.length + oA.2.1.length, (H.length : Int)), (v_sv now t.2.1, v_sv now t.2.2)) :: (oA.2.2.1 ++ oB.2.2.1), oA.2.2.2.1 ++ oB.2.2.2.1, oA.2.2.2.2.1 ++ oB.2.2.2.2.1,
      (0, s, 0) :: (5, s, c + 2 + H.length + oA.2.2.2.2.2.length + 1) :: (v_cd v H.length ++ (oA.2.2.2.2.2 ++ ((7, c + 2 + H.length + oA.2.2.2.2.2.length + 1 + Fl.length + oB.2.2.2.2.2.length, 0) :: (v_cd (v + H.length + oA.2.1.length) Fl.length ++ (oB.2.2.2.2.2 ++ v_cd (v + H.length + oA.2.1.length + Fl.length + oB.2.1.length) (v_join set oA.1 oB.1 s 8 0).length)))))) := by
  subst hH hF hA hB
  rfl
theorem s_if_eq {s k l ar : Int} {pA pB : Int → Int → Int → SO} {PA PB : SO} (hA : PA = pA (s + 1) k l) (hB : PB = pB (s + 1 + PA.1.length) (k + PA.2.1.length) (l + PA.2.2.length)) : s_if t pA pB ar s k l = (((3, -1, 0, -1, 0), (-1, -1, ar, s + 1 + PA.1.length, s + 1 + PA.1.length + PB.1.length), t) :: (PA.1 ++ PB.1), PA.2.1 ++ PB.2.1, PA.2.2 ++ PB.2.2) := by
  subst hA hB
  rfl
theorem n_wh_eq {set s k l v c ar : Int} {now now1 : Int → Int} {gA : NF} {H Fl : List VR} {oA : NO} (h1 : now1 = v_now set 8 0 v now) (hH : H = v_sd t (v_sv now1 t.2.1) (v_sv now1 t.2.2) 3 s) (hF : Fl = v_sd t (v_sv now1 t.2.1) (v_sv now1 t.2.2) 4 s) (hA : oA = gA (s + 1) k (l + 1) (v + (v_many set 8 0 : Nat) + H.length) (c + 1 + (v_many set 8 0 : Nat) + 2 + H.length) l (v_sn t (v + (v_many set 8 0 : Nat)) now1)) :
    n_wh t set gA s k l v c ar now = (v_sn t (v + (v_many set 8 0 : Nat) + H.length + oA.2.1.length) now1, v_round set now oA.1 s 8 0 ++ (H ++ (oA.2.1 ++ Fl)), (-1, (v, ((v_many set 8 0 : Nat) : Int)), (v + (v_many set 8 0 : Nat), v + (v_many set 8 0 : Nat) + H.length + oA.2.1.length, (H.length : Int)), (v_sv now1 t.2.1, v_sv now1 t.2.2)) :: oA.2.2.1, oA.2.2.2.1, (v, ((v_many set 8 0 : Nat) : Int)) :: oA.2.2.2.2.1,
      (8, l, 0) :: (v_cd v (v_many set 8 0) ++ ((0, s, 0) :: (5, s, c + 1 + (v_many set 8 0 : Nat) + 2 + H.length + oA.2.2.2.2.2.length + 1) :: (v_cd (v + (v_many set 8 0 : Nat)) H.length ++ (oA.2.2.2.2.2 ++ ((7, c + 1, 0) :: (v_cd (v + (v_many set 8 0 : Nat) + H.length + oA.2.1.length) Fl.length ++ [(9, l, 0)]))))))) := by
  subst h1 hH hF hA
  rfl
theorem FN_if {FA FB : St → St} {pA pB : Int → Int → Int → Int → SO} {gA gB : NF} {kA kB : List (Int × Int)} (hA : FN FA pA gA) (hB : FN FB pB gB) (gfA : GF FA) (gfB : GF FB) (ht : VALt pl t) (hkA : ∀ ar s k l, (pA ar s k l).1.map (fun r => (r.1.1, r.1.2.1)) = kA) (hkB : ∀ ar s k l, (pB ar s k l).1.map (fun r => (r.1.1, r.1.2.1)) = kB) :
    FN (F_if t FA FB) (fun ar => s_if t (pA ar) (pB ar) ar) (n_if t (tbits (kA ++ kB) 0) gA gB) := by
  intro S hP hNW
  have hIV := (GF_if (t := t) gfA gfB S hP).1
  have hP' := hP
  unfold P0 at hP'
  obtain ⟨b14, b15, b16, b17, b18, b49, b51, b171⟩ := beg_c (S := S) (sort := 3)
  obtain ⟨r142, r143, r144, r145, r146⟩ := beg_r (S := S) (sort := 3)
  have eF : F_if t FA FB S = F_if2 t FA FB (S 136 14) (F_beg S 3) := F_if_2
  unfold F_if2 at eF
  dsimp only at eF
  obtain ⟨e1, e2, e3, e4, e5⟩ := test_165 (S := F_beg S 3) (s := S 136 14) (t := t)
  have x171 : nz (F_test (F_beg S 3) (S 136 14) t 171) = nz (S 171) := by
    congr 1
  have ts1 := sv_look (s := S 136 14) e1 e2 e3 e4 ht
  rw [x171] at ts1
  have c1 : ∀ i, F_look (F_test (F_beg S 3) (S 136 14) t) (S 136 14) 136 i = F_beg S 3 136 i := fun i => by rw [look_ne (by decide), test_ne (by decide)]
  have a1 : ∀ i, F_look (F_test (F_beg S 3) (S 136 14) t) (S 136 14) 171 i = S 171 i := fun i => by rw [look_ne (by decide), test_ne (by decide), b171]
  have w147 : ∀ i, F_look (F_test (F_beg S 3) (S 136 14) t) (S 136 14) 147 i = S 147 i := fun i => by
    rw [look_ne (by decide), test_ne (by decide)]
    simp only [F_beg, F_lay_ne, F_lay_f, F_lay_18, F_mk_ne, F_mk_f, F_mk_15, q_up_eq, q_up_ne, q_up_ne2, q_upf_ne, q_upf_eq, not_false_eq_true, Nat.reduceEqDiff, Int.reduceEq]
  have hd1 : ∀ a, 142 ≤ a ∧ a ≤ 146 → ∀ i, F_look (F_test (F_beg S 3) (S 136 14) t) (S 136 14) a i = F_beg S 3 a i := fun a ha i => by rw [look_ne (by omega), test_ne (by omega)]
  have h164 : F_look (F_test (F_beg S 3) (S 136 14) t) (S 136 14) 164 (S 136 14) = t.1 := by rw [look_ne (by decide)]; exact e5
  generalize F_look (F_test (F_beg S 3) (S 136 14) t) (S 136 14) = S1 at *
  have n0 : NOK S1 (F_lay (F_lay S1 0 (S 136 14) 0) 5 (S 136 14) 0) so0 (nz (S1 171), [], [], [], [], [(0, S 136 14, 0), (5, S 136 14, 0)]) := NOK_app (NOK_lay (S := S1) (x := 0) (a := S 136 14) (b := 0)) (NOK_lay (S := F_lay S1 0 (S 136 14) 0) (x := 5) (a := S 136 14) (b := 0))
  have htest : F_lay S1 0 (S 136 14) 0 136 18 = S 136 18 + 1 := by rw [F_lay_18, c1, b18]
  rw [htest] at eF
  have c2 : ∀ i, ¬ i = 18 → F_lay (F_lay S1 0 (S 136 14) 0) 5 (S 136 14) 0 136 i = F_beg S 3 136 i := fun i h => by rw [F_lay_f h, F_lay_f h, c1]
  have c2k : F_lay (F_lay S1 0 (S 136 14) 0) 5 (S 136 14) 0 136 18 = S 136 18 + 2 := by rw [F_lay_18, htest]; omega
  have f2 : ∀ a i, ¬ a = 136 → ¬ a = 168 → ¬ a = 169 → ¬ a = 170 → F_lay (F_lay S1 0 (S 136 14) 0) 5 (S 136 14) 0 a i = S1 a i := fun a i q1 q2 q3 q4 => by rw [F_lay_ne q1 q2 q3 q4, F_lay_ne q1 q2 q3 q4]
  generalize F_lay (F_lay S1 0 (S 136 14) 0) 5 (S 136 14) 0 = S2 at *
  have c214 : S2 136 14 = S 136 14 + 1 := by rw [c2 14 (by decide), b14]
  have c215 : S2 136 15 = S 136 15 := by rw [c2 15 (by decide), b15]
  have c216 : S2 136 16 = S 136 16 := by rw [c2 16 (by decide), b16]
  have c217 : S2 136 17 = S 136 17 := by rw [c2 17 (by decide), b17]
  have c249 : S2 136 49 = S 136 49 := by rw [c2 49 (by decide), b49]
  have c251 : S2 136 51 = S 136 51 := by rw [c2 51 (by decide), b51]
  rw [c251] at eF
  have k2 : ∀ i, ¬ i = 51 → F_keep S2 136 i = S2 136 i := fun i hi => keep_f hi
  have hfirst : F_keep S2 136 14 = S 136 14 + 1 := by rw [k2 14 (by decide), c214]
  rw [hfirst] at eF
  have ts2 : TSR (F_keep S2) (S 136 14) t (v_sv (nz (S 171)) t.2.1) (v_sv (nz (S 171)) t.2.2) := TSR_of ts1 (fun a i ha _ => by rw [keep_ne (by omega) (by omega), f2 a i (by omega) (by omega) (by omega) (by omega)])
  have nK := NOK_none (S := S2) (S' := F_keep S2) (IV_keep IV_refl (by omega)) (fun i hi => k2 i (by omega))
  have n1 := NOK_sides (how := 3) ts2 ht
  have k171 : ∀ i, F_keep S2 171 i = S 171 i := fun i => by rw [keep_ne (by decide) (by decide), f2 171 i (by decide) (by decide) (by decide) (by decide), a1]
  have z2 : nz (F_keep S2 171) = nz (S 171) := by congr 1; funext i; exact k171 i
  have kk15 : F_keep S2 136 15 = S 136 15 := by rw [k2 15 (by decide), c215]
  have kk147 : ∀ i, F_keep S2 147 i = S 147 i := fun i => by rw [keep_ne (by decide) (by decide), f2 147 _ (by decide) (by decide) (by decide) (by decide), w147]
  have nw2 : NW (F_keep S2) := by
    intro i i0 i1
    rw [k171, kk15, kk147]
    exact hNW i i0 i1
  have hsd := OKO_sd (t := t) (sv0 := v_sv (nz (S 171)) t.2.1) (sv1 := v_sv (nz (S 171)) t.2.2) (how := 3) (s := S 136 14) (v := F_keep S2 136 15) (m := ([], [], [], v_cd (F_keep S2 136 15) (v_sd t (v_sv (nz (S 171)) t.2.1) (v_sv (nz (S 171)) t.2.2) 3 (S 136 14)).length)) (nz_nz (f := F_keep S2 171))
  have nw3 := NW_of n1 hsd nw2 (by rw [kk15]; exact hP'.2.1)
  rw [z2, kk15] at n1
  have c3 : ∀ i, ¬ i = 15 → ¬ i = 18 → F_sides (F_keep S2) (S 136 14) 3 136 i = F_keep S2 136 i := fun i h1 h2 => sides_f h1 h2
  have e314 : F_sides (F_keep S2) (S 136 14) 3 136 14 = S 136 14 + 1 := by rw [c3 14 (by decide) (by decide), hfirst]
  have e316 : F_sides (F_keep S2) (S 136 14) 3 136 16 = S 136 16 := by rw [c3 16 (by decide) (by decide), k2 16 (by decide), c216]
  have e317 : F_sides (F_keep S2) (S 136 14) 3 136 17 = S 136 17 := by rw [c3 17 (by decide) (by decide), k2 17 (by decide), c217]
  have e349 : F_sides (F_keep S2) (S 136 14) 3 136 49 = S 136 49 := by rw [c3 49 (by decide) (by decide), k2 49 (by decide), c249]
  have e351 : F_sides (F_keep S2) (S 136 14) 3 136 51 = S 136 51 + 8 := by rw [c3 51 (by decide) (by decide), keep_51, c251]
  have a3 : ∀ j, 0 ≤ j → j ≤ 7 → F_sides (F_keep S2) (S 136 14) 3 172 (S 136 51 + j) = nz (S 171) j := by
    intro j j0 j1
    rw [sides_ne (Or.inl rfl), keep_172, c251, if_pos (by omega), f2 171 _ (by decide) (by decide) (by decide) (by decide), a1, nz_at j0 j1]
    congr 1
    omega
  have iS3 := n1.2.2.2
  have l15 := n1.2.1.2.2.2.2.2.2.1
  have l18 := n1.2.1.2.2.2.2.2.2.2
  have z3 := n1.2.2.1
  dsimp only at l15 l18 z3
  rw [v_cd_len, k2 18 (by decide), c2k] at l18
  rw [kk15] at l15
  have f3 : ∀ a i, bel (F_keep S2) a i → F_sides (F_keep S2) (S 136 14) 3 a i = F_keep S2 a i := iS3.1
  generalize hH : v_sd t (v_sv (nz (S 171)) t.2.1) (v_sv (nz (S 171)) t.2.2) 3 (S 136 14) = H at *
  generalize F_sides (F_keep S2) (S 136 14) 3 = S3 at *
  have hP3 : P0 S3 := by unfold P0; omega
  have nA := hA S3 hP3 nw3
  rw [e349, e314, e316, e317, l15, l18, z3] at nA
  obtain ⟨gA1, gA51, gA49, -⟩ := gfA S3 hP3
  have kA' := hkA (S 136 49) (S 136 14 + 1) (S 136 16) (S 136 17)
  clear nw2 nw3 hsd hA gfA hkA
  generalize hPA : pA (S 136 49) (S 136 14 + 1) (S 136 16) (S 136 17) = PA at *
  generalize hoA : gA (S 136 14 + 1) (S 136 16) (S 136 17) (S 136 15 + (H.length : Nat)) (S 136 18 + 2 + (H.length : Nat)) (S 136 49) (v_sn t (S 136 15) (nz (S 171))) = oA at *
  generalize FA S3 = S4 at *
  obtain ⟨u1, u2, u3, u4, u5, u6, u7, u8⟩ := nA.2.1
  have zA := nA.2.2.1
  have k418 : F_keep S4 136 18 = S4 136 18 := keep_f (by decide)
  rw [gA51, e351, k418] at eF
  have cu3 := iS3.2
  have cu4 := gA1.2
  unfold CU at cu3 cu4
  have kk18 := k2 18 (by decide)
  have hP4 : P0 S4 := by unfold P0; omega
  have all := NOK_app nK (NOK_app n1 nA)
  have hq51 : S4 136 51 = S 136 51 + 8 := by omega
  have hts4 : TSR S4 (S 136 14) t (v_sv (nz (S 171)) t.2.1) (v_sv (nz (S 171)) t.2.2) := TSR_of ts2 (fun a i ha hi => by
    rw [gA1.1 a i (bel_165 (h_two (by omega) hi) ha), f3 a i (bel_165 (h_two (by omega) hi) ha)])
  obtain ⟨SE, PB, oB, Fl, hFl, hPB, hoB, eE, nE, dE, zE, t170, wE⟩ := if_B (s := S 136 14) (q := S 136 51) (test := S 136 18 + 1) (set := tbits (kA ++ kB) 0) (now := nz (S 171)) (LA := PA.1) hB gfB hkB hP4 ht hts4 (by omega) hq51 (by omega) nz_nz (fun j j0 j1 => by
      rw [gA1.1 172 _ (bel_172 (by omega))]; exact a3 j j0 j1) (fun i i0 i1 => by
      obtain ⟨g1, g2, g3⟩ := hNW i i0 i1
      rw [nz_at i0 i1, gA1.1 147 _ (bel_15 (by omega) (by decide)), f3 147 _ (bel_15 (by omega) (by decide)), kk147]
      exact ⟨g1, by omega, g3⟩) (by omega) (by
      have := nA.1.1
      rw [e314] at this
      exact this) (by omega) kA' rfl
  rw [eE] at eF
  -- all of it
  have mAll : NTB S2 SE _ _ := NTB_Wc all.1 all.2.1 wE (by decide) (Or.inl (by omega))
  have iA2 := all.2.2.2
  have hcd0 := n0.1.2.2.2.2.2.2.2
  have g18 : ∀ a i, 168 ≤ a ∧ a ≤ 170 → i < S 136 18 + 2 → ¬ (a = 170 ∧ i = S 136 18 + 1) → SE a i = S2 a i := fun a i ha hi hn => by
    rw [wE.1 a i (bel_18 (by omega) ha) hn, iA2.1 a i (bel_18 (by omega) ha)]
  have s118 : S1 136 18 = S 136 18 := by rw [c1, b18]
  rw [s118] at hcd0
  have stp : CDok SE (S1 136 18) (0, S 136 14, 0) := by
    rw [s118]
    obtain ⟨⟨y1, y2, y3⟩, -⟩ := hcd0
    refine ⟨?_, ?_, ?_⟩
    · rw [g18 168 _ (by decide) (by omega) (by omega)]; exact y1
    · rw [g18 169 _ (by decide) (by omega) (by omega)]; exact y2
    · rw [g18 170 _ (by decide) (by omega) (by omega)]; exact y3
  have tst : CDok SE (S1 136 18 + 1) (5, S 136 14, S4 136 18 + 1) := by
    rw [s118]
    obtain ⟨-, ⟨y1, y2, y3⟩, -⟩ := hcd0
    refine ⟨?_, ?_, t170⟩
    · rw [g18 168 _ (by decide) (by omega) (by omega)]; exact y1
    · rw [g18 169 _ (by decide) (by omega) (by omega)]; exact y2
  have d0 : NCT S1 S2 so0 (nz (S1 171), [], [], [], [], [(0, S 136 14, 0), (5, S 136 14, S4 136 18 + 1)]) := n0.2.1
  have total := NTB_app (NTB_two (f := nz (S1 171)) stp tst) d0 (NTB_app mAll all.2.1 nE)
  have dtot := NCT_app d0 (NCT_app all.2.1 dE)
  have iA1 := n0.2.2.2
  have gh : ∀ a i, ((142 ≤ a ∧ a ≤ 146) ∨ a = 164) ∧ i < S 136 14 + 1 ∨ (165 ≤ a ∧ a ≤ 167) ∧ i < 2 * (S 136 14 + 1) → SE a i = S1 a i := by
    intro a i h
    have hn : ¬ (a = 170 ∧ i = S 136 18 + 1) := by omega
    have s114 : S1 136 14 = S 136 14 + 1 := by rw [c1, b14]
    rcases h with ⟨h1, h2⟩ | ⟨h1, h2⟩
    · rw [wE.1 a i (bel_14 (by omega) h1) hn, iA2.1 a i (bel_14 (by omega) h1), iA1.1 a i (bel_14 (by omega) h1)]
    · rw [wE.1 a i (bel_165 (by omega) h1) hn, iA2.1 a i (bel_165 (by omega) h1), iA1.1 a i (bel_165 (by omega) h1)]
  have hd := NTB_hd (S := S) (hd := ((3, -1, 0, -1, 0), (-1, -1, S 136 49, S 136 14 + 1 + (PA.1.length : Nat), S 136 14 + 1 + (PA.1.length : Nat) + (PB.1.length : Nat)), t)) (mr := (-1, (S 136 15 + (H.length : Nat) + (oA.2.1.length : Nat) + (Fl.length : Nat) + (oB.2.1.length : Nat), ((v_join (tbits (kA ++ kB) 0) oA.1 oB.1 (S 136 14) 8 0).length : Nat)), (S 136 15, S 136 15 + (H.length : Nat) + (oA.2.1.length : Nat), (H.length : Nat)), (v_sv (nz (S 171)) t.2.1, v_sv (nz (S 171)) t.2.2))) total dtot (by rw [c1]; exact b14) (by rw [c1]; exact b15) (by rw [c1]; exact b16) (by rw [c1]; exact b17) (by rw [c1]; exact b18) (by
    obtain ⟨q1, q2, q3, q4, -, -⟩ := ts1
    refine ⟨?_, ?_, ?_, ?_, ?_, fun _ => ⟨?_, ?_, ?_, ?_, ?_⟩⟩
    · rw [gh 142 _ (by omega), hd1 142 (by decide), r142]
    · rw [gh 143 _ (by omega), hd1 143 (by decide), r143]
    · rw [gh 144 _ (by omega), hd1 144 (by decide), r144]
    · rw [gh 145 _ (by omega), hd1 145 (by decide), r145]
    · rw [gh 146 _ (by omega), hd1 146 (by decide), r146]
    · rw [gh 164 _ (by omega), h164]
    · rw [gh 165 _ (by omega)]; exact q1
    · rw [gh 166 _ (by omega)]; exact q2
    · rw [gh 165 _ (by omega)]; exact q3
    · rw [gh 166 _ (by omega)]; exact q4) (by
    intro _
    obtain ⟨-, -, -, -, q5, q6⟩ := ts1
    constructor
    · rw [gh 167 _ (by omega)]; exact q5
    · rw [gh 167 _ (by omega)]; exact q6)
  have e414 : S4 136 14 = S 136 14 + 1 + (PA.1.length : Nat) := by omega
  have e416 : S4 136 16 = S 136 16 + (PA.2.1.length : Nat) := by omega
  have e417 : S4 136 17 = S 136 17 + (PA.2.2.length : Nat) := by omega
  have e449 : S4 136 49 = S 136 49 := by omega
  have e415 : S4 136 15 = S 136 15 + (H.length : Nat) + (oA.2.1.length : Nat) := by omega
  have e418 : S4 136 18 = S 136 18 + 2 + (H.length : Nat) + (oA.2.2.2.2.2.length : Nat) := by omega
  rw [e449, e414, e416, e417] at hPB
  rw [e449, e414, e416, e417, e415, e418, ← u2, ← u4, ← u6] at hoB
  rw [e415, zA] at hd
  rw [e418] at hd
  have es := s_if_eq (t := t) (ar := S 136 49) (pA := pA (S 136 49)) (pB := pB (S 136 49)) hPA.symm hPB
  have en := n_if_eq (set := tbits (kA ++ kB) 0) hH.symm hFl hoA.symm hoB
  dsimp only
  rw [es, en, eF]
  obtain ⟨hd1', hd2'⟩ := hd
  simp only [sap_1, sap_2, sap_3, oap_1, oap_2, oap_3, oap_4, oap_5, oap_6, List.append_nil, List.nil_append, List.cons_append, List.append_assoc] at hd1' hd2'
  rw [v_join_len] at hd1' hd2' ⊢
  rw [e415] at zE
  rw [zE] at hd1' hd2'
  refine ⟨NTB_136 hd1', ?_, ?_, ?_⟩
  · refine NCT_cnt (S := S) (S' := SE) (fun _ _ => rfl) (fun i hi => ?_) hd2'
    rw [q_up_ne2 _ _ _ (by omega)]
  · rw [← zE]
    congr 1
  · rw [← eF]; exact hIV
end NKH
