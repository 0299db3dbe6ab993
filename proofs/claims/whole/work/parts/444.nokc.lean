section NKC
variable {S S0 S1 S2 S' : St} {x how s fr too a b i v sv0 sv1 : Int} {t : TT} {pl : Int → Int}
/-- what is looked at now is of its variable -/
def NW (S : St) : Prop := ∀ i, 0 ≤ i → i ≤ 7 → 0 ≤ S 171 i ∧ S 171 i < S 136 15 ∧ S 147 (S 171 i) = i
def OKO (v : Int) (now : Int → Int) (o : NO) : Prop := ∀ i, 0 ≤ i → i ≤ 7 → o.1 i = now i ∨ ∃ j : Nat, ∃ h : j < o.2.1.length, o.1 i = v + j ∧ (o.2.1[j]).1.1 = i
theorem NW_of {p : SO} {o : NO} (h : NOK S S' p o) (ho : OKO (S 136 15) (nz (S 171)) o) (hn : NW S) (h15 : 0 ≤ S 136 15) : NW S' := by
  intro i h0 h1
  obtain ⟨⟨-, -, -, t4, -⟩, ⟨-, -, -, -, -, -, c7, -⟩, hz, hi⟩ := h
  obtain ⟨n1, n2, n3⟩ := hn i h0 h1
  have e : S' 171 i = o.1 i := by rw [← hz, nz_at h0 h1]
  rcases ho i h0 h1 with e1 | ⟨j, hj, e1, e2⟩
  · rw [e, e1, nz_at h0 h1]
    refine ⟨n1, by omega, ?_⟩
    rw [hi.1 147 _ (by unfold bel; omega)]
    exact n3
  · rw [e, e1]
    have := (TAB_get _ _ t4 j hj).1
    exact ⟨by omega, by omega, by rw [this, e2]⟩
theorem OKO_app {v : Int} {now : Int → Int} {o o' : NO} (h1 : OKO v now o) (h2 : OKO (v + o.2.1.length) o.1 o') : OKO v now (o_app o o') := by
  intro i h0 h1'
  unfold o_app
  dsimp only
  rcases h2 i h0 h1' with e | ⟨j, hj, e, e2⟩
  · rcases h1 i h0 h1' with e' | ⟨j, hj, e', e2⟩
    · exact Or.inl (by rw [e, e'])
    · refine Or.inr ⟨j, by rw [List.length_append]; omega, by rw [e, e'], ?_⟩
      rw [List.getElem_append_left hj]
      exact e2
  · refine Or.inr ⟨o.2.1.length + j, by rw [List.length_append]; omega, by rw [e]; omega, ?_⟩
    rw [List.getElem_append_right (by omega)]
    simp only [Nat.add_sub_cancel_left]
    exact e2
theorem OKO_1 {v x : Int} {now : Int → Int} {y : VR} {m : List MR × List NC × List NP × List CD} (hy : y.1.1 = x) (hn : nz now = now) : OKO v now (un now x v, [y], m) := by
  intro i h0 h1
  have hi : un now x v i = if i = x then v else now i := by
    unfold un nz p_up
    rw [if_pos ⟨h0, h1⟩]
  by_cases e : i = x
  · refine Or.inr ⟨0, by simp, ?_, ?_⟩
    · show un now x v i = _
      rw [hi, if_pos e]; simp
    · simpa [hy] using e.symm
  · left
    show un now x v i = _
    rw [hi, if_neg e]
theorem OKO_0 {v : Int} {now : Int → Int} {l : List VR} {m : List MR × List NC × List NP × List CD} : OKO v now (now, l, m) := fun i _ _ => Or.inl rfl
/-- what a step makes -/
def FN (F : St → St) (p : Int → Int → Int → Int → SO) (g : NF) : Prop := ∀ S, P0 S → NW S → NOK S (F S) (p (S 136 49) (S 136 14) (S 136 16) (S 136 17)) (g (S 136 14) (S 136 16) (S 136 17) (S 136 15) (S 136 18) (S 136 49) (nz (S 171)))
theorem beg_c {sort : Int} : (F_beg S sort) 136 14 = S 136 14 + 1 ∧ (F_beg S sort) 136 15 = S 136 15 ∧ (F_beg S sort) 136 16 = S 136 16 ∧ (F_beg S sort) 136 17 = S 136 17 ∧ (F_beg S sort) 136 18 = S 136 18 ∧ (F_beg S sort) 136 49 = S 136 49 ∧ (F_beg S sort) 136 51 = S 136 51 ∧ (∀ i, F_beg S sort 171 i = S 171 i) :=
  ⟨beg_14, beg_f (by decide), beg_f (by decide), beg_f (by decide), beg_f (by decide), beg_f (by decide), beg_f (by decide), fun i => by simp only [F_beg, F_lay_ne, F_lay_f, F_lay_18, F_mk_ne, F_mk_f, F_mk_15, q_up_eq, q_up_ne, q_up_ne2, q_upf_ne, q_upf_eq, not_false_eq_true, Nat.reduceEqDiff, Int.reduceEq]⟩
theorem FN_b {x : SB} (hx : VALb pl x) : FN (F_b x) (s_b x) (n_b x) := by
  intro S hP hNW
  have hIV := (GF_b x S hP).1
  obtain ⟨b14, b15, b16, b17, b18, b49, b51, b171⟩ := beg_c (S := S) (sort := x.1.1)
  obtain ⟨r142, r143, r144, r145, r146⟩ := beg_r (S := S) (sort := x.1.1)
  obtain ⟨hv, hx⟩ := hx
  have hmr : ∀ S' w, MRokR S' (S 136 14) (w, m_no.2) := fun S' w h => absurd rfl h
  rcases hx with ⟨k0, hx⟩ | ⟨k1, hx⟩ | ⟨k2, hx⟩
  · -- VARIABLE = VALUE
    rw [k0] at b14 b15 b16 b17 b18 b49 b51 b171 r142 r143 r144 r145 r146
    have eF : F_b x S = F_as (F_beg S 0) (S 136 14) x := F_b_as k0
    unfold F_as at eF
    dsimp only at eF
    -- behind the begin
    have q0 : NOK (q_up (F_beg S 0) 143 (S 136 14) x.1.2.1) (F_lay (q_up (F_beg S 0) 143 (S 136 14) x.1.2.1) 0 (S 136 14) 0) so0 (nz (S 171), [], [], [], [], [(0, S 136 14, 0)]) := by
      have := NOK_lay (S := q_up (F_beg S 0) 143 (S 136 14) x.1.2.1) (x := 0) (a := S 136 14) (b := 0)
      have e : nz (q_up (F_beg S 0) 143 (S 136 14) x.1.2.1 171) = nz (S 171) := by
        congr 1
      rw [e] at this
      exact this
    have c0 : ∀ i, q_up (F_beg S 0) 143 (S 136 14) x.1.2.1 136 i = F_beg S 0 136 i := fun i => q_up_ne _ _ _ _ (by decide)
    have hd0 : q_up (F_beg S 0) 143 (S 136 14) x.1.2.1 142 (S 136 14) = 0 ∧ q_up (F_beg S 0) 143 (S 136 14) x.1.2.1 143 (S 136 14) = x.1.2.1 ∧ q_up (F_beg S 0) 143 (S 136 14) x.1.2.1 144 (S 136 14) = -1 ∧ q_up (F_beg S 0) 143 (S 136 14) x.1.2.1 145 (S 136 14) = -1 ∧ q_up (F_beg S 0) 143 (S 136 14) x.1.2.1 146 (S 136 14) = S 136 49 := by
      refine ⟨?_, q_up_eq _ _ _ _, ?_, ?_, ?_⟩ <;> rw [q_up_ne _ _ _ _ (by decide)] <;> assumption
    generalize hSb : q_up (F_beg S 0) 143 (S 136 14) x.1.2.1 = Sb at *
    have s1 : ∀ i, ¬ i = 18 → F_lay Sb 0 (S 136 14) 0 136 i = F_beg S 0 136 i := fun i h => by rw [F_lay_f h, c0]
    have s1k : F_lay Sb 0 (S 136 14) 0 136 18 = S 136 18 + 1 := by rw [F_lay_18, c0, b18]
    have s171 : ∀ i, F_lay Sb 0 (S 136 14) 0 171 i = S 171 i := fun i => by rw [F_lay_ne (by decide) (by decide) (by decide) (by decide), ← hSb, q_up_ne _ _ _ _ (by decide), b171]
    have e16 := s1 16 (by decide)
    have e15 := s1 15 (by decide)
    have e14 := s1 14 (by decide)
    have e49 := s1 49 (by decide)
    generalize F_lay Sb 0 (S 136 14) 0 = S1 at *
    have z171 : nz (S1 171) = nz (S 171) := by congr 1; funext i; exact s171 i
    by_cases k4 : x.1.2.2.1 = 4
    · have hck : x.2.1 = 1 ∧ 0 ≤ x.2.2.2 ∧ x.2.2.2 ≤ 7 := by omega
      rw [if_pos k4] at eF
      obtain ⟨w1, w2, w3, w4, w5⟩ := chk_ok (S := S1) (s := S 136 14) (r' := x.2.2.1) (v := x.2.2.2) (pq := (0, (2, x.2.2.1, -1), (1, 0, 0)))
      have f15 := (F_chk_15 (k := 0) (S := S1) (s := S 136 14) (r' := x.2.2.1) (v := x.2.2.2)).1
      generalize F_chk S1 (S 136 14) x.2.2.1 x.2.2.2 = S2 at *
      rw [if_neg (by omega), if_neg (by omega), if_neg (by omega), if_neg (by omega), if_pos k4, if_neg (by omega), if_pos k4, if_neg (by omega)] at eF
      have q2 := val_ok (S := S2) (x := x.1.2.1) (s := S 136 14) (fr := -1) (e1 := 3) (e2 := S1 136 16) (e3 := x.1.2.2.2.2) (pq := (0, t0, t0))
      rw [← eF] at q2
      generalize F_b x S = SF at *
      have i2 := q2.2.2.2
      have n1 : NTB S1 SF _ _ := NTB_IV w1 w2 i2
      have n12 := NTB_app n1 w2 q2.1
      have c12 := NCT_app w2 q2.2.1
      have wF : WX (fun a i => a = 144 ∧ i = S 136 14) S1 SF := WX_trans w4 (WX_IV i2)
      have n0 : NTB Sb SF _ _ := NTB_W q0.1 q0.2.1 wF (fun a i _ h h' => by have := c0 14; omega) (fun a i _ _ h' => by omega) (fun a i _ _ _ h' => by omega) (fun a i _ _ h' => by omega) (fun a i _ _ h' => by omega) (fun a i _ _ _ h' => by omega)
      have n012 := NTB_app n0 q0.2.1 n12
      have c012 := NCT_app q0.2.1 c12
      have wb : WX (fun a i => a = 144 ∧ i = S 136 14) Sb SF := WX_trans (WX_IV q0.2.2.2) wF
      have g : ∀ a, 142 ≤ a ∧ a ≤ 146 → ¬ a = 144 → SF a (S 136 14) = Sb a (S 136 14) := fun a h1 h2 => wb.1 a _ (by unfold bel; have := c0 14; omega) (by omega)
      have hc44 : SF 144 (S 136 14) = S 136 16 := by
        rw [i2.1 144 _ (by unfold bel; have := w2.1; simp at this; omega), w5]
        omega
      have hd := NTB_head (S := S) (hd := (x.1, (S 136 16, -1, S 136 49, S 136 14 + 1, S 136 14 + 1), (0, (0, 0), (0, 0)))) (mr := (S 136 15 + 1, m_no.2)) n012 c012 (by rw [c0]; exact b14) (by rw [c0]; exact b15) (by rw [c0]; exact b16) (by rw [c0]; exact b17) (by rw [c0]; exact b18) (by
        refine ⟨?_, ?_, ?_, ?_, ?_, ?_⟩
        · rw [g 142 (by decide) (by decide), hd0.1]; exact k0.symm
        · rw [g 143 (by decide) (by decide), hd0.2.1]
        · exact hc44
        · rw [g 145 (by decide) (by decide), hd0.2.2.2.1]
        · rw [g 146 (by decide) (by decide), hd0.2.2.2.2]
        · intro h; rw [k0] at h; exact absurd h (by decide)) (hmr _ _)
      have es : s_b x (S 136 49) (S 136 14) (S 136 16) (S 136 17) = ([(x.1, (S 136 16, -1, S 136 49, S 136 14 + 1, S 136 14 + 1), (0, (0, 0), (0, 0)))], [(S 136 14, x.2.2.1, x.2.2.2)], []) := by
        unfold s_b
        rw [if_pos hck.1, if_pos hck.1]
      have en : n_b x (S 136 14) (S 136 16) (S 136 17) (S 136 15) (S 136 18) (S 136 49) (nz (S 171)) = (un (un (nz (S 171)) x.2.2.2 (S 136 15)) x.1.2.1 (S 136 15 + 1), [v_chk x.2.2.2 (S 136 14) (nz (S 171) x.2.2.2) x.2.2.1, v_val x (S 136 14) (-1) (S 136 16)], [(S 136 15 + 1, m_no.2)], [(nz (S 171) x.2.2.2, S 136 15, S 136 49)], [], [(0, S 136 14, 0), (1, S 136 16, 0), (6, S 136 15, 0), (2, S 136 15 + 1, 0)]) := by
        unfold n_b
        rw [if_pos k0, if_pos k4]
      have ev : v_val x (S 136 14) (-1) (S 136 16) = ((x.1.2.1, 1, S 136 14, -1, -1), (3, S1 136 16, x.1.2.2.2.2), (0, t0, t0)) := by
        unfold v_val
        rw [k4, e16, b16]
        rfl
      have ec : v_chk x.2.2.2 (S 136 14) (nz (S 171) x.2.2.2) x.2.2.1 = ((x.2.2.2, 2, S 136 14, S1 171 x.2.2.2, -1), (0, -1, 0), (0, (2, x.2.2.1, -1), (1, 0, 0))) := by
        unfold v_chk
        rw [nz_at hck.2.1 hck.2.2, s171]
      rw [es, en, ev, ec]
      refine ⟨?_, ?_, ?_, hIV⟩
      · have := hd.1
        rw [f15, e15, b15, e16, b16, e49, b49, z171, w3, z171, e15, b15, s171] at this
        rw [s171, nz_at hck.2.1 hck.2.2, e16, b16]
        exact this
      · have := hd.2
        rw [f15, e15, b15, e16, b16, e49, b49, z171, w3, z171, e15, b15, s171] at this
        rw [s171, nz_at hck.2.1 hck.2.2, e16, b16]
        exact this
      · rw [q2.2.2.1, w3, z171, f15, e15, b15]
    · rw [if_neg k4] at eF
      have q2 := val_ok (S := S1) (x := x.1.2.1) (s := S 136 14) (fr := if x.1.2.2.1 = 3 then S1 171 x.1.2.2.2.1 else -1) (e1 := if x.1.2.2.1 = 1 then 0 else if x.1.2.2.1 = 2 then 2 else if x.1.2.2.1 = 3 then 1 else if x.1.2.2.1 = 4 then 3 else 4) (e2 := if x.1.2.2.1 = 2 ∨ x.1.2.2.1 = 3 then x.1.2.2.2.1 else if x.1.2.2.1 = 4 then S1 136 16 else -1) (e3 := if x.1.2.2.1 = 5 then x.1.2.2.2.1 else x.1.2.2.2.2) (pq := (v_val x (S 136 14) 0 0).2.2)
      rw [← eF] at q2
      have q02 := NOK_app q0 q2
      generalize F_b x S = SF at *
      have i0 := q02.2.2.2
      have g : ∀ a, 142 ≤ a ∧ a ≤ 146 → SF a (S 136 14) = Sb a (S 136 14) := fun a h1 => i0.1 a _ (by unfold bel; have := c0 14; omega)
      have hno : x.2 = p_no := by
        rcases hx with h | h | h | h | h
        · exact h.2.2.2.2
        · exact h.2.2.2.2.2
        · exact h.2.2.2.2.2
        · exact absurd h.1 k4
        · exact h.2.2.2.2
      have hno1 : ¬ x.2.1 = 1 := by rw [hno]; decide
      have hd := NTB_head (S := S) (hd := (x.1, (-1, -1, S 136 49, S 136 14 + 1, S 136 14 + 1), (0, (0, 0), (0, 0)))) (mr := (S 136 15, m_no.2)) q02.1 q02.2.1 (by rw [c0]; exact b14) (by rw [c0]; exact b15) (by rw [c0]; exact b16) (by rw [c0]; exact b17) (by rw [c0]; exact b18) (by
        refine ⟨?_, ?_, ?_, ?_, ?_, ?_⟩
        · rw [g 142 (by decide), hd0.1]; exact k0.symm
        · rw [g 143 (by decide), hd0.2.1]
        · rw [g 144 (by decide), hd0.2.2.1]
        · rw [g 145 (by decide), hd0.2.2.2.1]
        · rw [g 146 (by decide), hd0.2.2.2.2]
        · intro h; rw [k0] at h; exact absurd h (by decide)) (hmr _ _)
      have es : s_b x (S 136 49) (S 136 14) (S 136 16) (S 136 17) = ([(x.1, (-1, -1, S 136 49, S 136 14 + 1, S 136 14 + 1), (0, (0, 0), (0, 0)))], [], []) := by
        unfold s_b
        rw [if_neg hno1, if_neg hno1]
      have en : n_b x (S 136 14) (S 136 16) (S 136 17) (S 136 15) (S 136 18) (S 136 49) (nz (S 171)) = (un (nz (S 171)) x.1.2.1 (S 136 15), [v_val x (S 136 14) (if x.1.2.2.1 = 3 then nz (S 171) x.1.2.2.2.1 else -1) (S 136 16)], [(S 136 15, m_no.2)], [], [], [(0, S 136 14, 0), (2, S 136 15, 0)]) := by
        unfold n_b
        rw [if_pos k0, if_neg k4]
      have efr : (if x.1.2.2.1 = 3 then nz (S 171) x.1.2.2.2.1 else -1) = (if x.1.2.2.1 = 3 then S1 171 x.1.2.2.2.1 else -1) := by
        by_cases k3 : x.1.2.2.1 = 3
        · rw [if_pos k3, if_pos k3, nz_at (by omega) (by omega), s171]
        · rw [if_neg k3, if_neg k3]
      rw [es, en, efr]
      refine ⟨?_, ?_, ?_, hIV⟩
      · have := hd.1
        rw [e15, b15, z171, e16, b16] at this
        exact this
      · have := hd.2
        rw [e15, b15, z171, e16, b16] at this
        exact this
      · rw [q2.2.2.1, z171, e15, b15]
  · -- ROW [ VARIABLE ] = VARIABLE
    rw [k1] at b14 b15 b16 b17 b18 b49 b51 b171 r142 r143 r144 r145 r146
    have eF : F_b x S = F_lay (q_up (F_chk (F_lay (F_beg S 1) 0 (S 136 14) 0) (S 136 14) x.2.2.1 x.2.2.2) 143 (S 136 14) (F_chk (F_lay (F_beg S 1) 0 (S 136 14) 0) (S 136 14) x.2.2.1 x.2.2.2 147 (F_chk (F_lay (F_beg S 1) 0 (S 136 14) 0) (S 136 14) x.2.2.1 x.2.2.2 157 (F_lay (F_beg S 1) 0 (S 136 14) 0 136 16)))) 3 (F_lay (F_beg S 1) 0 (S 136 14) 0 136 16) x.1.2.2.2.1 := by
      unfold F_b
      dsimp only
      rw [if_neg (by omega), if_pos k1]
    have q0 : NOK (F_beg S 1) (F_lay (F_beg S 1) 0 (S 136 14) 0) so0 (nz (S 171), [], [], [], [], [(0, S 136 14, 0)]) := by
      have := NOK_lay (S := F_beg S 1) (x := 0) (a := S 136 14) (b := 0)
      have e : nz (F_beg S 1 171) = nz (S 171) := by congr 1
      rw [e] at this
      exact this
    have s1 : ∀ i, ¬ i = 18 → F_lay (F_beg S 1) 0 (S 136 14) 0 136 i = F_beg S 1 136 i := fun i h => F_lay_f h
    have s171 : ∀ i, F_lay (F_beg S 1) 0 (S 136 14) 0 171 i = S 171 i := fun i => by rw [F_lay_ne (by decide) (by decide) (by decide) (by decide), b171]
    have s147 : ∀ i, F_lay (F_beg S 1) 0 (S 136 14) 0 147 i = S 147 i := fun i => by
      rw [F_lay_ne (by decide) (by decide) (by decide) (by decide)]
      simp only [F_beg, F_lay_ne, F_lay_f, F_lay_18, F_mk_ne, F_mk_f, F_mk_15, q_up_eq, q_up_ne, q_up_ne2, q_upf_ne, q_upf_eq, not_false_eq_true, Nat.reduceEqDiff, Int.reduceEq]
    have e16 := s1 16 (by decide)
    have e15 := s1 15 (by decide)
    have e14 := s1 14 (by decide)
    have e49 := s1 49 (by decide)
    generalize hSb : F_beg S 1 = Sb at *
    generalize F_lay Sb 0 (S 136 14) 0 = S1 at *
    have z171 : nz (S1 171) = nz (S 171) := by congr 1; funext i; exact s171 i
    have hck : x.2.1 = 1 ∧ 0 ≤ x.2.2.2 ∧ x.2.2.2 ≤ 7 := by omega
    obtain ⟨w1, w2, w3, w4, w5⟩ := chk_ok (S := S1) (s := S 136 14) (r' := x.2.2.1) (v := x.2.2.2) (pq := (0, (2, x.2.2.1, -1), (1, 0, 0)))
    have h157 := (F_chk_15 (k := 0) (S := S1) (s := S 136 14) (r' := x.2.2.1) (v := x.2.2.2)).2.2.2.2.2.2.2
    have hnw := hNW x.2.2.2 hck.2.1 hck.2.2
    have h147 : F_chk S1 (S 136 14) x.2.2.1 x.2.2.2 147 (S 171 x.2.2.2) = x.2.2.2 := by
      rw [w4.1 147 _ (by unfold bel; omega) (by omega), s147]
      exact hnw.2.2
    have c14 := w2.1
    generalize F_chk S1 (S 136 14) x.2.2.1 x.2.2.2 = S2 at *
    rw [h157, s171, h147] at eF
    have q3 := NOK_lay (S := q_up S2 143 (S 136 14) x.2.2.2) (x := 3) (a := S1 136 16) (b := x.1.2.2.2.1)
    rw [← eF] at q3
    have c3 : ∀ i, q_up S2 143 (S 136 14) x.2.2.2 136 i = S2 136 i := fun i => q_up_ne _ _ _ _ (by decide)
    have z3 : nz (q_up S2 143 (S 136 14) x.2.2.2 171) = nz (S2 171) := by congr 1
    have q3' : NTB S2 (F_b x S) so0 (nz (S2 171), [], [], [], [], [(3, S1 136 16, x.1.2.2.2.1)]) ∧ NCT S2 (F_b x S) so0 (nz (S2 171), [], [], [], [], [(3, S1 136 16, x.1.2.2.2.1)]) := by
      obtain ⟨t1, t2, t3, -⟩ := q3
      obtain ⟨d1, d2, d3, d4, d5, d6, d7, d8⟩ := t2
      rw [c3] at d1 d3 d5 d7 d8
      unfold NTB at *
      simp only [c3] at t1
      exact ⟨t1, d1, rfl, d3, rfl, d5, rfl, d7, d8⟩
    have w3' : WX (fun a i => (a = 143 ∨ a = 144) ∧ i = S 136 14) S2 (F_b x S) := by
      have a1 : WX (fun a i => (a = 143 ∨ a = 144) ∧ i = S 136 14) S2 (q_up S2 143 (S 136 14) x.2.2.2) := WX_up (by decide) (Or.inl ⟨Or.inl rfl, rfl⟩)
      exact WX_trans a1 (WX_IV q3.2.2.2)
    have w4' : WX (fun a i => (a = 143 ∨ a = 144) ∧ i = S 136 14) S1 S2 := ⟨fun a i hb hx => w4.1 a i hb (fun h => hx ⟨Or.inr h.1, h.2⟩), w4.2⟩
    have s143 : F_b x S 143 (S 136 14) = x.2.2.2 := by
      rw [eF, F_lay_ne (by decide) (by decide) (by decide) (by decide), q_up_eq]
    have s144 : F_b x S 144 (S 136 14) = S 136 16 := by
      rw [eF, F_lay_ne (by decide) (by decide) (by decide) (by decide), q_up_ne _ _ _ _ (by decide), w5]
      omega
    generalize F_b x S = SF at *
    simp at c14
    have n1 : NTB S1 SF _ _ := NTB_W w1 w2 w3' (fun a i _ h h' => by omega) (fun a i _ _ h' => by omega) (fun a i _ _ _ h' => by omega) (fun a i _ _ h' => by omega) (fun a i _ _ h' => by omega) (fun a i _ _ _ h' => by omega)
    have n12 := NTB_app n1 w2 q3'.1
    have c12 := NCT_app w2 q3'.2
    have wF := WX_trans w4' w3'
    have n0 : NTB Sb SF _ _ := NTB_W q0.1 q0.2.1 wF (fun a i _ h h' => by omega) (fun a i _ _ h' => by omega) (fun a i _ _ _ h' => by omega) (fun a i _ _ h' => by omega) (fun a i _ _ h' => by omega) (fun a i _ _ _ h' => by omega)
    have n012 := NTB_app n0 q0.2.1 n12
    have c012 := NCT_app q0.2.1 c12
    have wb := WX_trans (WX_IV (X := fun a i => (a = 143 ∨ a = 144) ∧ i = S 136 14) q0.2.2.2) wF
    have g : ∀ a, 142 ≤ a ∧ a ≤ 146 → ¬ a = 143 → ¬ a = 144 → SF a (S 136 14) = Sb a (S 136 14) := fun a h1 h2 h3 => wb.1 a _ (by unfold bel; omega) (by omega)
    have hd := NTB_head (S := S) (hd := (x.1, (S 136 16, -1, S 136 49, S 136 14 + 1, S 136 14 + 1), (0, (0, 0), (0, 0)))) (mr := m_no) n012 c012 b14 b15 b16 b17 b18 (by
      refine ⟨?_, ?_, s144, ?_, ?_, ?_⟩
      · rw [g 142 (by decide) (by decide) (by decide), r142]; exact k1.symm
      · rw [s143]; exact hx.1.symm
      · rw [g 145 (by decide) (by decide) (by decide), r145]
      · rw [g 146 (by decide) (by decide) (by decide), r146]
      · intro h; rw [k1] at h; exact absurd h (by decide)) (hmr _ _)
    have es : s_b x (S 136 49) (S 136 14) (S 136 16) (S 136 17) = ([(x.1, (S 136 16, -1, S 136 49, S 136 14 + 1, S 136 14 + 1), (0, (0, 0), (0, 0)))], [(S 136 14, x.2.2.1, x.2.2.2)], []) := by
      unfold s_b
      rw [if_pos hck.1, if_pos hck.1]
    have en : n_b x (S 136 14) (S 136 16) (S 136 17) (S 136 15) (S 136 18) (S 136 49) (nz (S 171)) = (un (nz (S 171)) x.2.2.2 (S 136 15), [v_chk x.2.2.2 (S 136 14) (nz (S 171) x.2.2.2) x.2.2.1], [m_no], [(nz (S 171) x.2.2.2, S 136 15, S 136 49)], [], [(0, S 136 14, 0), (1, S 136 16, 0), (6, S 136 15, 0), (3, S 136 16, x.1.2.2.2.1)]) := by
      unfold n_b
      rw [if_neg (by omega), if_pos k1]
    rw [es, en, nz_at hck.2.1 hck.2.2]
    refine ⟨?_, ?_, ?_, hIV⟩
    · have := hd.1
      rw [e15, b15, e16, b16, e49, b49, s171] at this
      exact this
    · have := hd.2
      rw [e15, b15, e16, b16, e49, b49, s171] at this
      exact this
    · rw [q3.2.2.1, z3, w3, z171, e15, b15]
  · -- out
    rw [k2] at b14 b15 b16 b17 b18 b49 b51 b171 r142 r143 r144 r145 r146
    have eF : F_b x S = F_lay (F_lay (q_up (F_beg S 2) 143 (S 136 14) x.1.2.1) 0 (S 136 14) 0) 4 x.1.2.1 0 := by
      unfold F_b
      dsimp only
      rw [if_neg (by omega), if_neg (by omega)]
    have c0 : ∀ i, q_up (F_beg S 2) 143 (S 136 14) x.1.2.1 136 i = F_beg S 2 136 i := fun i => q_up_ne _ _ _ _ (by decide)
    have hd0 : q_up (F_beg S 2) 143 (S 136 14) x.1.2.1 142 (S 136 14) = 2 ∧ q_up (F_beg S 2) 143 (S 136 14) x.1.2.1 143 (S 136 14) = x.1.2.1 ∧ q_up (F_beg S 2) 143 (S 136 14) x.1.2.1 144 (S 136 14) = -1 ∧ q_up (F_beg S 2) 143 (S 136 14) x.1.2.1 145 (S 136 14) = -1 ∧ q_up (F_beg S 2) 143 (S 136 14) x.1.2.1 146 (S 136 14) = S 136 49 := by
      refine ⟨?_, q_up_eq _ _ _ _, ?_, ?_, ?_⟩ <;> rw [q_up_ne _ _ _ _ (by decide)] <;> assumption
    have z0 : nz (q_up (F_beg S 2) 143 (S 136 14) x.1.2.1 171) = nz (S 171) := by congr 1
    generalize q_up (F_beg S 2) 143 (S 136 14) x.1.2.1 = Sb at *
    have q0 := NOK_lay (S := Sb) (x := 0) (a := S 136 14) (b := 0)
    have q1 := NOK_lay (S := F_lay Sb 0 (S 136 14) 0) (x := 4) (a := x.1.2.1) (b := 0)
    rw [← eF] at q1
    have q := NOK_app q0 q1
    have hz : nz (F_lay Sb 0 (S 136 14) 0 171) = nz (S 171) := by rw [q0.2.2.1, z0]
    generalize F_b x S = SF at *
    have g : ∀ a, 142 ≤ a ∧ a ≤ 146 → SF a (S 136 14) = Sb a (S 136 14) := fun a h1 => q.2.2.2.1 a _ (by unfold bel; have := c0 14; omega)
    have hno : x.2 = p_no := hx.2.2.2
    have hno1 : ¬ x.2.1 = 1 := by rw [hno]; decide
    have hd := NTB_head (S := S) (hd := (x.1, (-1, -1, S 136 49, S 136 14 + 1, S 136 14 + 1), (0, (0, 0), (0, 0)))) (mr := m_no) q.1 q.2.1 (by rw [c0]; exact b14) (by rw [c0]; exact b15) (by rw [c0]; exact b16) (by rw [c0]; exact b17) (by rw [c0]; exact b18) (by
      refine ⟨?_, ?_, ?_, ?_, ?_, ?_⟩
      · rw [g 142 (by decide), hd0.1]; exact k2.symm
      · rw [g 143 (by decide), hd0.2.1]
      · rw [g 144 (by decide), hd0.2.2.1]
      · rw [g 145 (by decide), hd0.2.2.2.1]
      · rw [g 146 (by decide), hd0.2.2.2.2]
      · intro h; rw [k2] at h; exact absurd h (by decide)) (hmr _ _)
    have es : s_b x (S 136 49) (S 136 14) (S 136 16) (S 136 17) = ([(x.1, (-1, -1, S 136 49, S 136 14 + 1, S 136 14 + 1), (0, (0, 0), (0, 0)))], [], []) := by
      unfold s_b
      rw [if_neg hno1, if_neg hno1]
    have en : n_b x (S 136 14) (S 136 16) (S 136 17) (S 136 15) (S 136 18) (S 136 49) (nz (S 171)) = (nz (S 171), [], [m_no], [], [], [(0, S 136 14, 0), (4, x.1.2.1, 0)]) := by
      unfold n_b
      rw [if_neg (by omega), if_neg (by omega)]
    rw [es, en]
    exact ⟨hd.1, hd.2, by rw [q1.2.2.1, hz], hIV⟩
end NKC
