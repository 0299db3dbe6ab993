section NKD
variable {S S0 S1 S2 S' : St} {x how s fr too a b i v sv0 sv1 : Int} {t : TT} {pl : Int → Int}
theorem NTB_cnt {T : St} {p : SO} {o : NO} (h : ∀ i, 14 ≤ i ∧ i ≤ 18 → S 136 i = T 136 i) (hn : NTB S S' p o) : NTB T S' p o := by
  unfold NTB at *
  rw [← h 14 (by decide), ← h 15 (by decide), ← h 16 (by decide), ← h 17 (by decide), ← h 18 (by decide)]
  exact hn
theorem NCT_cnt {T T' : St} {p : SO} {o : NO} (h : ∀ i, 14 ≤ i ∧ i ≤ 18 → S 136 i = T 136 i) (h' : ∀ i, 14 ≤ i ∧ i ≤ 18 → S' 136 i = T' 136 i) (hn : NCT S S' p o) : NCT T T' p o := by
  unfold NCT at *
  rw [← h 14 (by decide), ← h 15 (by decide), ← h 16 (by decide), ← h 17 (by decide), ← h 18 (by decide), ← h' 14 (by decide), ← h' 15 (by decide), ← h' 16 (by decide), ← h' 17 (by decide), ← h' 18 (by decide)]
  exact hn
theorem told_tab : ∀ (L : List SR) (i m : Int), TAB (SRokR S) i L → F_told S L.length i m = tbits (L.map (fun r => (r.1.1, r.1.2.1))) m := by
  intro L
  induction L with
  | nil => intro i m _; rfl
  | cons r L ih =>
    intro i m h
    obtain ⟨h1, h2⟩ := h
    rw [List.length_cons, F_told, List.map_cons, tbits, h1.1, h1.2.1]
    exact ih _ _ h2
theorem sv_look (h1 : S 165 (2 * s) = F_sk t.2.1.1) (h2 : S 166 (2 * s) = t.2.1.2) (h3 : S 165 (2 * s + 1) = F_sk t.2.2.1) (h4 : S 166 (2 * s + 1) = t.2.2.2) (ht : VALt pl t) : TSR (F_look S s) s t (v_sv (nz (S 171)) t.2.1) (v_sv (nz (S 171)) t.2.2) := by
  have n : ¬ 2 * s = 2 * s + 1 := by omega
  have g : ∀ q : Int × Int, VALs pl q → (if F_sk q.1 = 1 then S 171 q.2 else -1) = v_sv (nz (S 171)) q := by
    intro q hq
    unfold v_sv
    have hk := F_sk_1 (VALs_k hq)
    by_cases e : q.1 = 3
    · rw [if_pos (hk.mpr e), if_pos e, nz_at (by unfold VALs at hq; omega) (by unfold VALs at hq; omega)]
    · rw [if_neg (fun h => e (hk.mp h)), if_neg e]
  refine ⟨?_, ?_, ?_, ?_, ?_, ?_⟩
  · rw [look_ne (by decide)]; exact h1
  · rw [look_ne (by decide)]; exact h2
  · rw [look_ne (by decide)]; exact h3
  · rw [look_ne (by decide)]; exact h4
  · unfold F_look F_look1
    rw [q_up_ne2 _ _ _ n, Int.add_zero, q_up_eq, h1, h2]
    exact g _ ht.2.1
  · unfold F_look F_look1
    rw [q_up_eq, q_up_ne _ _ _ _ (by decide), q_up_ne _ _ _ _ (by decide), q_up_ne _ _ _ _ (by decide), h3, h4]
    exact g _ ht.2.2
theorem OKO_sd {v : Int} {now : Int → Int} {m : List MR × List NC × List NP × List CD} (hn : nz now = now) : OKO v now (v_sn t v now, v_sd t sv0 sv1 how s, m) := by
  have h0 : OKO v now (v_n0 t v now, v_s0 t sv0 sv1 how s, [], [], [], []) := by
    unfold v_n0 v_s0
    split
    · exact OKO_1 rfl hn
    · exact OKO_0
  have hz : nz (v_n0 t v now) = v_n0 t v now := by
    unfold v_n0
    split
    · exact nz_nz
    · exact hn
  have h1 : OKO (v + (v_s0 t sv0 sv1 how s).length) (v_n0 t v now) (v_n1 t (v + (v_s0 t sv0 sv1 how s).length) (v_n0 t v now), v_s1 t sv0 sv1 how s, [], [], [], []) := by
    unfold v_n1 v_s1
    split
    · exact OKO_1 rfl hz
    · exact OKO_0
  have hl : v + (if v_own0 t then (1 : Int) else 0) = v + ((v_s0 t sv0 sv1 how s).length : Nat) := by
    unfold v_s0
    split <;> simp
  have := OKO_app h0 h1
  unfold v_sn v_sd
  rw [hl]
  intro i a1 a2
  exact this i a1 a2
section OAP
variable {o o' : NO} {p p' : SO}
theorem oap_1 : (o_app o o').1 = o'.1 := rfl
theorem oap_2 : (o_app o o').2.1 = o.2.1 ++ o'.2.1 := rfl
theorem oap_3 : (o_app o o').2.2.1 = o.2.2.1 ++ o'.2.2.1 := rfl
theorem oap_4 : (o_app o o').2.2.2.1 = o.2.2.2.1 ++ o'.2.2.2.1 := rfl
theorem oap_5 : (o_app o o').2.2.2.2.1 = o.2.2.2.2.1 ++ o'.2.2.2.2.1 := rfl
theorem oap_6 : (o_app o o').2.2.2.2.2 = o.2.2.2.2.2 ++ o'.2.2.2.2.2 := rfl
theorem sap_1 : (so_app p p').1 = p.1 ++ p'.1 := rfl
theorem sap_2 : (so_app p p').2.1 = p.2.1 ++ p'.2.1 := rfl
theorem sap_3 : (so_app p p').2.2 = p.2.2 ++ p'.2.2 := rfl
end OAP
theorem NTB_hd {Sb : St} {p : SO} {o : NO} {hd : SR} {mr : MR} (h : NTB Sb S' p o) (hc : NCT Sb S' p o) (e14 : Sb 136 14 = S 136 14 + 1) (e15 : Sb 136 15 = S 136 15) (e16 : Sb 136 16 = S 136 16) (e17 : Sb 136 17 = S 136 17) (e18 : Sb 136 18 = S 136 18) (h1 : SRokR S' (S 136 14) hd) (h2 : MRokR S' (S 136 14) mr) : NTB S S' (hd :: p.1, p.2.1, p.2.2) (o.1, o.2.1, mr :: o.2.2.1, o.2.2.2.1, o.2.2.2.2.1, o.2.2.2.2.2) ∧ NCT S S' (hd :: p.1, p.2.1, p.2.2) (o.1, o.2.1, mr :: o.2.2.1, o.2.2.2.1, o.2.2.2.2.1, o.2.2.2.2.2) := NTB_head h hc e14 e15 e16 e17 e18 h1 h2
theorem v_cd_len : ∀ (k : Nat) (v : Int), (v_cd v k).length = k := by
  intro k
  induction k with
  | zero => intro v; rfl
  | succ k ih => intro v; rw [v_cd, List.length_cons, ih]
theorem NTB_136 {p : SO} {o : NO} (h : NTB S0 S p o) : NTB S0 (q_up S 136 i x) p o := by
  obtain ⟨t1, t2, t3, t4, t5, t6, t7, t8⟩ := h
  refine ⟨TAB_mono _ _ (fun j x _ _ hx => ?_) t1, TAB_mono _ _ (fun j x _ _ hx => ?_) t2, TAB_mono _ _ (fun j x _ _ hx => ?_) t3, TAB_mono _ _ (fun j x _ _ hx => ?_) t4, TAB_mono _ _ (fun j x _ _ hx => ?_) t5, TAB_mono _ _ (fun j x _ _ hx => ?_) t6, TAB_mono _ _ (fun j x _ _ hx => ?_) t7, TAB_mono _ _ (fun j x _ _ hx => ?_) t8⟩
  · unfold SRokR at *
    simp only [q_up_ne, not_false_eq_true, Nat.reduceEqDiff]
    exact hx
  · unfold KRokR at *
    simp only [q_up_ne, not_false_eq_true, Nat.reduceEqDiff]
    exact hx
  · unfold LRokR at *
    simp only [q_up_ne, not_false_eq_true, Nat.reduceEqDiff]
    exact hx
  · unfold VRokR at *
    simp only [q_up_ne, not_false_eq_true, Nat.reduceEqDiff]
    exact hx
  · unfold MRokR at *
    simp only [q_up_ne, not_false_eq_true, Nat.reduceEqDiff]
    exact hx
  · unfold NCok at *
    simp only [q_up_ne, not_false_eq_true, Nat.reduceEqDiff]
    exact hx
  · unfold NPok at *
    simp only [q_up_ne, not_false_eq_true, Nat.reduceEqDiff]
    exact hx
  · unfold CDok at *
    simp only [q_up_ne, not_false_eq_true, Nat.reduceEqDiff]
    exact hx
theorem NTB_code {op a b : Int} (h : CDok S (S0 136 18) (op, a, b)) {f : Int → Int} : NTB S0 S so0 (f, [], [], [], [], [(op, a, b)]) := ⟨trivial, trivial, trivial, trivial, trivial, trivial, trivial, ⟨h, trivial⟩⟩
theorem NTB_two {x0 x1 : CD} (h : CDok S (S0 136 18) x0) (h' : CDok S (S0 136 18 + 1) x1) {f : Int → Int} : NTB S0 S so0 (f, [], [], [], [], [x0, x1]) := ⟨trivial, trivial, trivial, trivial, trivial, trivial, trivial, ⟨h, h', trivial⟩⟩
/-- behind the first block of an if -/
theorem if_B {FB : St → St} {pB : Int → Int → Int → Int → SO} {gB : NF} {S4 : St} {s q test set : Int} {now : Int → Int} {LA : List SR} {kA kB : List (Int × Int)} (hB : FN FB pB gB) (gfB : GF FB) (hkB : ∀ ar s k l, (pB ar s k l).1.map (fun r => (r.1.1, r.1.2.1)) = kB) (hP : P0 S4) (ht : VALt pl t) (hts : TSR S4 s t sv0 sv1) (hs : s < S4 136 14) (hq : S4 136 51 = q + 8) (hq0 : 0 ≤ q) (hnow : nz now = now) (haside : ∀ j, 0 ≤ j → j ≤ 7 → S4 172 (q + j) = now j) (hNW : ∀ i, 0 ≤ i → i ≤ 7 → 0 ≤ now i ∧ now i < S4 136 15 ∧ S4 147 (now i) = i) (htest : test < S4 136 18) (hLA : TAB (SRokR S4) (s + 1) LA) (h14 : S4 136 14 = s + 1 + (LA.length : Nat)) (hkA : LA.map (fun r => (r.1.1, r.1.2.1)) = kA) (hset : set = tbits (kA ++ kB) 0) :
    ∃ (SE : St) (PB : SO) (oB : NO) (Fl : List VR), Fl = v_sd t sv0 sv1 4 s ∧ PB = pB (S4 136 49) (S4 136 14) (S4 136 16) (S4 136 17) ∧ oB = gB (S4 136 14) (S4 136 16) (S4 136 17) (S4 136 15 + (Fl.length : Nat)) (S4 136 18 + 1 + (Fl.length : Nat)) (S4 136 49) (v_sn t (S4 136 15) now) ∧
      F_if3 s q (s + 1) (q + 8) (S4 136 18) (FB (F_sides (F_take (q_up (F_lay (F_keep S4) 7 0 0) 170 test (F_lay (F_keep S4) 7 0 0 136 18)) q) s 4)) = q_up SE 136 51 q ∧
      NTB S4 SE PB (nz (SE 171), Fl ++ (oB.2.1 ++ v_join set (nz (S4 171)) oB.1 s 8 0), oB.2.2.1, oB.2.2.2.1, oB.2.2.2.2.1, (7, S4 136 18 + 1 + (Fl.length : Nat) + (oB.2.2.2.2.2.length : Nat), 0) :: (v_cd (S4 136 15) Fl.length ++ (oB.2.2.2.2.2 ++ v_cd (S4 136 15 + (Fl.length : Nat) + (oB.2.1.length : Nat)) (v_many set 8 0)))) ∧
      NCT S4 SE PB (nz (SE 171), Fl ++ (oB.2.1 ++ v_join set (nz (S4 171)) oB.1 s 8 0), oB.2.2.1, oB.2.2.2.1, oB.2.2.2.2.1, (7, S4 136 18 + 1 + (Fl.length : Nat) + (oB.2.2.2.2.2.length : Nat), 0) :: (v_cd (S4 136 15) Fl.length ++ (oB.2.2.2.2.2 ++ v_cd (S4 136 15 + (Fl.length : Nat) + (oB.2.1.length : Nat)) (v_many set 8 0)))) ∧
      nz (SE 171) = v_now set 8 0 (S4 136 15 + (Fl.length : Nat) + (oB.2.1.length : Nat)) now ∧ SE 170 test = S4 136 18 + 1 ∧ WX (fun a i => a = 170 ∧ i = test) S4 SE := by
  have hP' := hP
  unfold P0 at hP'
  have k418 : F_keep S4 136 18 = S4 136 18 := keep_f (by decide)
  have l5 : F_lay (F_keep S4) 7 0 0 136 18 = S4 136 18 + 1 := by rw [F_lay_18, k418]
  rw [l5]
  have c5 : ∀ i, ¬ i = 18 → ¬ i = 51 → F_take (q_up (F_lay (F_keep S4) 7 0 0) 170 test (S4 136 18 + 1)) q 136 i = S4 136 i := fun i h1 h2 => by rw [take_ne (by decide), q_up_ne _ _ _ _ (by decide), F_lay_f h1, keep_f h2]
  have c5k : F_take (q_up (F_lay (F_keep S4) 7 0 0) 170 test (S4 136 18 + 1)) q 136 18 = S4 136 18 + 1 := by rw [take_ne (by decide), q_up_ne _ _ _ _ (by decide), l5]
  have c5a : F_take (q_up (F_lay (F_keep S4) 7 0 0) 170 test (S4 136 18 + 1)) q 136 51 = q + 16 := by rw [take_ne (by decide), q_up_ne _ _ _ _ (by decide), F_lay_f (by decide), keep_51]; omega
  have f5 : ∀ a i, ¬ a = 136 → ¬ a = 168 → ¬ a = 169 → ¬ a = 170 → ¬ a = 171 → ¬ a = 172 → F_take (q_up (F_lay (F_keep S4) 7 0 0) 170 test (S4 136 18 + 1)) q a i = S4 a i := fun a i q1 q2 q3 q4 q5 q6 => by rw [take_ne q5, q_up_ne _ _ _ _ q4, F_lay_ne q1 q2 q3 q4, keep_ne q1 q6]
  have f5a : ∀ j, 0 ≤ j → j ≤ 7 → F_take (q_up (F_lay (F_keep S4) 7 0 0) 170 test (S4 136 18 + 1)) q 172 (q + 8 + j) = S4 171 j := by
    intro j j0 j1
    rw [take_ne (by decide), q_up_ne _ _ _ _ (by decide), F_lay_ne (by decide) (by decide) (by decide) (by decide), keep_172, if_pos (by omega)]
    congr 1
    omega
  have f5b : ∀ j, 0 ≤ j → j ≤ 7 → F_take (q_up (F_lay (F_keep S4) 7 0 0) 170 test (S4 136 18 + 1)) q 172 (q + j) = now j := by
    intro j j0 j1
    rw [take_ne (by decide), q_up_ne _ _ _ _ (by decide), F_lay_ne (by decide) (by decide) (by decide) (by decide), keep_172, if_neg (by omega)]
    exact haside j j0 j1
  have f5n : ∀ j, 0 ≤ j → j ≤ 7 → F_take (q_up (F_lay (F_keep S4) 7 0 0) 170 test (S4 136 18 + 1)) q 171 j = now j := by
    intro j j0 j1
    rw [take_171 j0 j1, q_up_ne _ _ _ _ (by decide), F_lay_ne (by decide) (by decide) (by decide) (by decide), keep_172, if_neg (by omega)]
    exact haside j j0 j1
  have cd7 : F_take (q_up (F_lay (F_keep S4) 7 0 0) 170 test (S4 136 18 + 1)) q 168 (S4 136 18) = 7 ∧ F_take (q_up (F_lay (F_keep S4) 7 0 0) 170 test (S4 136 18 + 1)) q 170 (S4 136 18) = 0 := by
    rw [take_ne (by decide), take_ne (by decide), q_up_ne _ _ _ _ (by decide), q_up_ne2 _ _ _ (by omega), F_lay, k418]
    simp only [q_up_eq, q_up_ne, q_up_ne2, q_upf_ne, q_upf_eq, not_false_eq_true, Nat.reduceEqDiff, and_self]
  have cdT : F_take (q_up (F_lay (F_keep S4) 7 0 0) 170 test (S4 136 18 + 1)) q 170 test = S4 136 18 + 1 := by rw [take_ne (by decide), q_up_eq]
  have w45 : WX (fun a i => a = 170 ∧ i = test) S4 (F_take (q_up (F_lay (F_keep S4) 7 0 0) 170 test (S4 136 18 + 1)) q) := by
    have w1 : WX (fun a i => a = 170 ∧ i = test) S4 (F_lay (F_keep S4) 7 0 0) := WX_IV (IV_lay (IV_keep IV_refl (by omega)))
    have w2 : WX (fun a i => a = 170 ∧ i = test) (F_lay (F_keep S4) 7 0 0) (q_up (F_lay (F_keep S4) 7 0 0) 170 test (S4 136 18 + 1)) := WX_up (by decide) (Or.inl ⟨rfl, rfl⟩)
    exact WX_trans (WX_trans w1 w2) (WX_IV (IV_take IV_refl))
  generalize F_take (q_up (F_lay (F_keep S4) 7 0 0) 170 test (S4 136 18 + 1)) q = S5 at *
  have c514 := c5 14 (by decide) (by decide); have c515 := c5 15 (by decide) (by decide); have c516 := c5 16 (by decide) (by decide); have c517 := c5 17 (by decide) (by decide); have c549 := c5 49 (by decide) (by decide)
  have ts5 : TSR S5 s t sv0 sv1 := TSR_of hts (fun a i ha hi => f5 a i (by omega) (by omega) (by omega) (by omega) (by omega) (by omega))
  have n4 := NOK_sides (how := 4) ts5 ht
  have z5 : nz (S5 171) = now := by
    rw [← hnow]
    funext j
    unfold nz
    by_cases hj : 0 ≤ j ∧ j ≤ 7
    · rw [if_pos hj, if_pos hj, f5n j hj.1 hj.2]
    · rw [if_neg hj, if_neg hj]
  have nw5 : NW S5 := by
    intro i i0 i1
    obtain ⟨g1, g2, g3⟩ := hNW i i0 i1
    rw [f5n i i0 i1, f5 147 _ (by decide) (by decide) (by decide) (by decide) (by decide) (by decide), c515]
    exact ⟨g1, g2, g3⟩
  have hsd5 := OKO_sd (t := t) (sv0 := sv0) (sv1 := sv1) (how := 4) (s := s) (v := S5 136 15) (m := ([], [], [], v_cd (S5 136 15) (v_sd t sv0 sv1 4 s).length)) (nz_nz (f := S5 171))
  have nw6 := NW_of n4 hsd5 nw5 (by omega)
  rw [z5, c515] at n4
  have c6 : ∀ i, ¬ i = 15 → ¬ i = 18 → F_sides S5 s 4 136 i = S5 136 i := fun i h1 h2 => sides_f h1 h2
  have a6 : ∀ j, F_sides S5 s 4 172 j = S5 172 j := fun j => sides_ne (Or.inl rfl)
  have iS6 := n4.2.2.2
  have l15 := n4.2.1.2.2.2.2.2.2.1
  have l18 := n4.2.1.2.2.2.2.2.2.2
  have z6 := n4.2.2.1
  dsimp only at l15 l18 z6
  rw [v_cd_len, c5k] at l18
  rw [c515] at l15
  have e614 : F_sides S5 s 4 136 14 = S4 136 14 := by rw [c6 14 (by decide) (by decide), c514]
  have e616 : F_sides S5 s 4 136 16 = S4 136 16 := by rw [c6 16 (by decide) (by decide), c516]
  have e617 : F_sides S5 s 4 136 17 = S4 136 17 := by rw [c6 17 (by decide) (by decide), c517]
  have e649 : F_sides S5 s 4 136 49 = S4 136 49 := by rw [c6 49 (by decide) (by decide), c549]
  have e651 : F_sides S5 s 4 136 51 = q + 16 := by rw [c6 51 (by decide) (by decide), c5a]
  generalize hFl : v_sd t sv0 sv1 4 s = Fl at *
  generalize hS6 : F_sides S5 s 4 = S6 at *
  have cu6 := iS6.2
  unfold CU at cu6
  have hP6 : P0 S6 := by unfold P0; omega
  have nB := hB S6 hP6 nw6
  rw [e649, e614, e616, e617, l15, l18, z6] at nB
  obtain ⟨gB1, gB51, gB49, -⟩ := gfB S6 hP6
  have kB' := hkB (S4 136 49) (S4 136 14) (S4 136 16) (S4 136 17)
  clear nw5 nw6 hsd5 hB gfB hkB ts5 hts hNW haside f5n
  generalize hPB : pB (S4 136 49) (S4 136 14) (S4 136 16) (S4 136 17) = PB at *
  generalize hoB : gB (S4 136 14) (S4 136 16) (S4 136 17) (S4 136 15 + (Fl.length : Nat)) (S4 136 18 + 1 + (Fl.length : Nat)) (S4 136 49) (v_sn t (S4 136 15) now) = oB at *
  generalize hS8 : FB S6 = S8 at *
  have cu8 := gB1.2
  unfold CU at cu8
  obtain ⟨u1, u2, u3, u4, u5, u6, u7, u8⟩ := nB.2.1
  have zB := nB.2.2.1
  unfold F_if3
  dsimp only
  have k818 : F_keep S8 136 18 = S8 136 18 := keep_f (by decide)
  rw [k818]
  have c9 : ∀ i, ¬ i = 51 → F_take (q_up (F_keep S8) 169 (S4 136 18) (S8 136 18)) q 136 i = S8 136 i := fun i h => by rw [take_ne (by decide), q_up_ne _ _ _ _ (by decide), keep_f h]
  have cdO : F_take (q_up (F_keep S8) 169 (S4 136 18) (S8 136 18)) q 169 (S4 136 18) = S8 136 18 := by rw [take_ne (by decide), q_up_eq]
  have v89 : WX (fun a i => a = 169 ∧ i = S4 136 18) S8 (F_take (q_up (F_keep S8) 169 (S4 136 18) (S8 136 18)) q) := by
    have w1 : WX (fun a i => a = 169 ∧ i = S4 136 18) S8 (F_keep S8) := WX_IV (IV_keep IV_refl (by omega))
    have w2 : WX (fun a i => a = 169 ∧ i = S4 136 18) (F_keep S8) (q_up (F_keep S8) 169 (S4 136 18) (S8 136 18)) := WX_up (by decide) (Or.inl ⟨rfl, rfl⟩)
    exact WX_trans (WX_trans w1 w2) (WX_IV (IV_take IV_refl))
  have aOne : ∀ j, 0 ≤ j → j ≤ 7 → F_take (q_up (F_keep S8) 169 (S4 136 18) (S8 136 18)) q 172 (q + 8 + j) = nz (S4 171) j := by
    intro j j0 j1
    rw [take_ne (by decide), q_up_ne _ _ _ _ (by decide), keep_172, if_neg (by omega), gB1.1 172 _ (bel_172 (by omega)), a6, f5a j j0 j1, nz_at j0 j1]
  have aOth : ∀ j, 0 ≤ j → j ≤ 7 → F_take (q_up (F_keep S8) 169 (S4 136 18) (S8 136 18)) q 172 (S8 136 51 + j) = oB.1 j := by
    intro j j0 j1
    rw [take_ne (by decide), q_up_ne _ _ _ _ (by decide), keep_172, if_pos (by omega), ← zB, nz_at j0 j1]
    congr 1
    omega
  have z9 : nz (F_take (q_up (F_keep S8) 169 (S4 136 18) (S8 136 18)) q 171) = now := by
    rw [← hnow]
    funext j
    unfold nz
    by_cases hj : 0 ≤ j ∧ j ≤ 7
    · rw [if_pos hj, if_pos hj, take_171 hj.1 hj.2, q_up_ne _ _ _ _ (by decide), keep_172, if_neg (by omega), gB1.1 172 _ (bel_172 (by omega)), a6]
      exact f5b j hj.1 hj.2
    · rw [if_neg hj, if_neg hj]
  generalize F_take (q_up (F_keep S8) 169 (S4 136 18) (S8 136 18)) q = S9 at *
  have c914 := c9 14 (by decide); have c915 := c9 15 (by decide); have c918 := c9 18 (by decide)
  have w59 : WX (fun a i => a = 169 ∧ i = S4 136 18) S5 S9 := WX_trans (WX_IV (IV_trans iS6 gB1)) v89
  have w49 : ∀ a i, bel S4 a i → ¬ (a = 170 ∧ i = test) → S9 a i = S4 a i := by
    intro a i hb hx
    have hn : ¬ (a = 169 ∧ i = S4 136 18) := by
      rintro ⟨rfl, rfl⟩
      exact nbel_18 (by decide) hb
    rw [w59.1 a i (bel_up w45.2 hb) hn]
    exact w45.1 a i hb hx
  have hset' : F_told S9 (S9 136 14 - (s + 1)).toNat (s + 1) 0 = set := by
    have tb : TAB (SRokR S9) (s + 1) (LA ++ PB.1) := by
      refine (TAB_app _ _ _).mpr ⟨TAB_mono _ _ (fun j x j1 j2 hx => ?_) hLA, ?_⟩
      · have hj : j < S4 136 14 := by rw [h14]; exact j2
        refine SRokR_of hx (fun a i hai => w49 a i ?_ ?_)
        · rcases hai with ⟨h1, h2⟩ | ⟨h1, h2, h3⟩
          · exact bel_14 (by rw [h2]; exact hj) h1
          · exact bel_165 (h_two hj h3) ⟨h1, Nat.le_succ_of_le h2⟩
        · exact fun h1 => h_ai hai h1.1
      · have := (NTB_Wc nB.1 nB.2.1 v89 (by decide) (Or.inl (by omega))).1
        rw [e614, h14] at this
        exact this
    have := told_tab _ _ 0 tb
    rw [List.map_append, hkA, kB'] at this
    rw [hset, ← this]
    congr 1
    rw [List.length_append]
    omega
  rw [hset']
  have nJ := NOK_join (s := s) (set := set) (one' := q + 8) (other' := S8 136 51) (one := nz (S4 171)) (other := oB.1) 8 0 S9 (by omega) (by omega) (by omega) (fun j j0 j1 => ⟨aOne j j0 (by omega), aOth j j0 (by omega)⟩)
  have e915 : S9 136 15 = S4 136 15 + (Fl.length : Nat) + (oB.2.1.length : Nat) := by omega
  rw [z9, e915] at nJ
  have i9 := nJ.2.2.2
  clear aOne aOth f5a f5b
  generalize F_join set (q + 8) (S8 136 51) s 8 0 S9 = SE at *
  have v5E := WX_trans w59 (WX_IV i9)
  have v8E := WX_trans v89 (WX_IV i9)
  have v6E := WX_trans (WX_IV (X := fun a i => a = 169 ∧ i = S4 136 18) gB1) v8E
  have mF := NTB_Wc n4.1 n4.2.1 v6E (by decide) (Or.inl (by omega))
  have mB := NTB_Wc nB.1 nB.2.1 v8E (by decide) (Or.inl (by omega))
  have e818 : S8 136 18 = S4 136 18 + 1 + (Fl.length : Nat) + (oB.2.2.2.2.2.length : Nat) := by omega
  have jmp : CDok SE (S4 136 18) (7, S4 136 18 + 1 + (Fl.length : Nat) + (oB.2.2.2.2.2.length : Nat), 0) := by
    refine ⟨?_, ?_, ?_⟩
    · rw [v5E.1 168 _ (bel_18 (by omega) (by decide)) (fun h => absurd h.1 (by decide))]; exact cd7.1
    · rw [i9.1 169 _ (bel_18 (by omega) (by decide)), cdO]; exact e818
    · rw [v5E.1 170 _ (bel_18 (by omega) (by decide)) (fun h => absurd h.1 (by decide))]; exact cd7.2
  have dj : NCT S4 S5 so0 (now, [], [], [], [], [(7, S4 136 18 + 1 + (Fl.length : Nat) + (oB.2.2.2.2.2.length : Nat), 0)]) := ⟨by rw [c514]; simp, rfl, by rw [c516]; simp, rfl, by rw [c517]; simp, rfl, by rw [c515]; simp, by rw [c5k]; rfl⟩
  have c89 : ∀ i, 14 ≤ i ∧ i ≤ 18 → S9 136 i = S8 136 i := fun i hi => c9 i (by omega)
  have mJ := NTB_cnt c89 nJ.1
  have dJ := NCT_cnt c89 (fun _ _ => rfl) nJ.2.1
  have total := NTB_app (NTB_code (f := now) jmp) dj (NTB_app mF n4.2.1 (NTB_app mB nB.2.1 mJ))
  have dtot := NCT_app dj (NCT_app n4.2.1 (NCT_app nB.2.1 dJ))
  refine ⟨SE, PB, oB, Fl, rfl, rfl, hoB.symm, rfl, ?_, ?_, nJ.2.2.1, ?_, ?_⟩
  · unfold NTB at total ⊢
    simp only [sap_1, sap_2, sap_3, oap_2, oap_3, oap_4, oap_5, oap_6, List.append_nil, List.nil_append, List.cons_append] at total ⊢
    exact total
  · unfold NCT at dtot ⊢
    simp only [sap_1, sap_2, sap_3, oap_2, oap_3, oap_4, oap_5, oap_6, List.append_nil, List.nil_append, List.cons_append] at dtot ⊢
    exact dtot
  · rw [v5E.1 170 _ (bel_18 (by omega) (by decide)) (fun h => absurd h.1 (by decide))]; exact cdT
  · refine ⟨fun a i hb hx => ?_, ?_⟩
    · rw [i9.1 a i (bel_up w59.2 (bel_up w45.2 hb))]
      exact w49 a i hb hx
    · exact CU_trans w45.2 v5E.2
end NKD
