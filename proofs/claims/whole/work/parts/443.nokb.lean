section NKB
variable {S S0 S1 S2 S' : St} {x how s fr too a b i v sv0 sv1 : Int} {t : TT} {pl : Int → Int}
/-- the rows of a test's sides -/
def TSR (S : St) (s : Int) (t : TT) (sv0 sv1 : Int) : Prop := S 165 (2 * s) = F_sk t.2.1.1 ∧ S 166 (2 * s) = t.2.1.2 ∧ S 165 (2 * s + 1) = F_sk t.2.2.1 ∧ S 166 (2 * s + 1) = t.2.2.2 ∧ S 167 (2 * s) = sv0 ∧ S 167 (2 * s + 1) = sv1
theorem VALs_k {q : Int × Int} (h : VALs pl q) : q.1 = 1 ∨ q.1 = 2 ∨ q.1 = 3 := by
  unfold VALs at h
  omega
theorem own_0 (h : TSR S s t sv0 sv1) (ht : VALt pl t) : F_own S s 0 ↔ v_own0 t := by
  obtain ⟨a1, a2, a3, a4, -, -⟩ := h
  unfold F_own v_own0
  rw [Int.add_zero, a1, a2, a3, a4, F_sk_1 (VALs_k ht.2.1), F_sk_1 (VALs_k ht.2.2)]
  by_cases e1 : t.2.1.1 = 3 <;> by_cases e2 : t.2.2.1 = 3 <;> by_cases e3 : t.2.1.2 = t.2.2.2 <;> simp [e1, e2, e3]
theorem own_1 (h : TSR S s t sv0 sv1) (ht : VALt pl t) : F_own S s 1 ↔ v_own1 t := by
  obtain ⟨a1, a2, a3, a4, -, -⟩ := h
  unfold F_own v_own1
  rw [a1, a2, a3, a4, F_sk_1 (VALs_k ht.2.1), F_sk_1 (VALs_k ht.2.2)]
  by_cases e1 : t.2.1.1 = 3 <;> by_cases e2 : t.2.2.1 = 3 <;> by_cases e3 : t.2.1.2 = t.2.2.2 <;> simp [e1, e2, e3]
theorem TSR_of (h : TSR S s t sv0 sv1) (h' : ∀ a i, 165 ≤ a ∧ a ≤ 167 → i = 2 * s ∨ i = 2 * s + 1 → S' a i = S a i) : TSR S' s t sv0 sv1 := by
  unfold TSR at *
  rw [h' 165 _ (by decide) (Or.inl rfl), h' 166 _ (by decide) (Or.inl rfl), h' 165 _ (by decide) (Or.inr rfl), h' 166 _ (by decide) (Or.inr rfl), h' 167 _ (by decide) (Or.inl rfl), h' 167 _ (by decide) (Or.inr rfl)]
  exact h
theorem NOK_sides (h : TSR S s t sv0 sv1) (ht : VALt pl t) : NOK S (F_sides S s how) so0 (v_sn t (S 136 15) (nz (S 171)), v_sd t sv0 sv1 how s, [], [], [], v_cd (S 136 15) (v_sd t sv0 sv1 how s).length) := by
  have o0 := own_0 h ht
  have h0 : NOK S (F_side1 S s how 0) so0 (v_n0 t (S 136 15) (nz (S 171)), v_s0 t sv0 sv1 how s, [], [], [], v_cd (S 136 15) (v_s0 t sv0 sv1 how s).length) ∧ F_side1 S s how 0 136 15 = S 136 15 + (if v_own0 t then 1 else 0) := by
    unfold F_side1 v_n0 v_s0
    by_cases e : v_own0 t
    · rw [if_pos (o0.mpr e), if_pos e, if_pos e, if_pos e]
      obtain ⟨a1, a2, a3, a4, a5, a6⟩ := h
      rw [Int.add_zero, a2, a5]
      exact ⟨NOK_ml, by simp only [F_lay_ne, F_lay_f, F_lay_18, F_mk_ne, F_mk_f, F_mk_15, q_up_eq, q_up_ne, q_up_ne2, q_upf_ne, q_upf_eq, not_false_eq_true, Nat.reduceEqDiff, Int.reduceEq]⟩
    · rw [if_neg (fun h => e (o0.mp h)), if_neg e, if_neg e, if_neg e]
      exact ⟨NOK_none IV_refl (fun _ _ => rfl), by omega⟩
  have h1' : TSR (F_side1 S s how 0) s t sv0 sv1 := TSR_of h (fun a i ha _ => side1_ne (by omega))
  have o1 := own_1 h1' ht
  unfold F_sides
  generalize F_side1 S s how 0 = S1 at *
  obtain ⟨h0, e15⟩ := h0
  have h1 : NOK S1 (F_side1 S1 s how 1) so0 (v_n1 t (S1 136 15) (nz (S1 171)), v_s1 t sv0 sv1 how s, [], [], [], v_cd (S1 136 15) (v_s1 t sv0 sv1 how s).length) := by
    unfold F_side1 v_n1 v_s1
    by_cases e : v_own1 t
    · rw [if_pos (o1.mpr e), if_pos e, if_pos e]
      obtain ⟨a1, a2, a3, a4, a5, a6⟩ := h1'
      rw [a4, a6]
      exact NOK_ml
    · rw [if_neg (fun h => e (o1.mp h)), if_neg e, if_neg e]
      exact NOK_none IV_refl (fun _ _ => rfl)
  have hl : S1 136 15 = S 136 15 + ((v_s0 t sv0 sv1 how s).length : Nat) := by
    rw [e15]
    unfold v_s0
    split <;> simp
  have := NOK_app h0 h1
  unfold so_app o_app at this
  rw [h0.2.2.1, hl] at this
  unfold v_sd v_sn
  rw [List.length_append, v_cd_app]
  have hl2 : S 136 15 + (if v_own0 t then (1 : Int) else 0) = S 136 15 + ((v_s0 t sv0 sv1 how s).length : Nat) := by omega
  rw [hl2]
  exact this
theorem beg_r {sort : Int} : F_beg S sort 142 (S 136 14) = sort ∧ F_beg S sort 143 (S 136 14) = -1 ∧ F_beg S sort 144 (S 136 14) = -1 ∧ F_beg S sort 145 (S 136 14) = -1 ∧ F_beg S sort 146 (S 136 14) = S 136 49 := by
  simp only [F_beg, q_up_eq, q_up_ne, q_up_ne2, q_upf_ne, q_upf_eq, not_false_eq_true, Nat.reduceEqDiff, Int.reduceEq, and_self]
theorem chk_ok {r' : Int} {pq : Int × (Int × Int × Int) × (Int × Int × Int)} : NTB S (F_chk S s r' v) ([], [(s, r', v)], []) (un (nz (S 171)) v (S 136 15), [((v, 2, s, S 171 v, -1), (0, -1, 0), pq)], [], [(S 171 v, S 136 15, S 136 49)], [], [(1, S 136 16, 0), (6, S 136 15, 0)]) ∧
    NCT S (F_chk S s r' v) ([], [(s, r', v)], []) (un (nz (S 171)) v (S 136 15), [((v, 2, s, S 171 v, -1), (0, -1, 0), pq)], [], [(S 171 v, S 136 15, S 136 49)], [], [(1, S 136 16, 0), (6, S 136 15, 0)]) ∧
    nz (F_chk S s r' v 171) = un (nz (S 171)) v (S 136 15) ∧ WX (fun a i => a = 144 ∧ i = s) S (F_chk S s r' v) ∧ F_chk S s r' v 144 s = S 136 16 := by
  have hc := F_chk_15 (k := 0) (S := S) (s := s) (r' := r') (v := v)
  obtain ⟨c15, c18, c16, c14, c17, c51, c49, -⟩ := hc
  refine ⟨⟨trivial, ⟨⟨?_, ?_⟩, trivial⟩, trivial, ⟨⟨?_, ?_, ?_, ?_, ?_, ?_, ?_, ?_⟩, trivial⟩, trivial, ⟨⟨?_, ?_, ?_⟩, trivial⟩, trivial, ⟨⟨?_, ?_, ?_⟩, ⟨?_, ?_, ?_⟩, trivial⟩⟩, ⟨?_, rfl, ?_, rfl, ?_, rfl, ?_, ?_⟩, ?_, ?_, ?_⟩
  all_goals first
    | (rw [c14]; simp; done) | (rw [c16]; rfl) | (rw [c17]; simp; done) | (rw [c15]; rfl) | (rw [c18]; rfl)
    | (unfold F_chk; simp only [F_lay_ne, F_lay_f, F_lay_18, F_mk_ne, F_mk_f, F_mk_15, F_mk_147, F_mk_148, F_mk_149, F_mk_150, F_mk_151, F_mk_152, F_mk_153, F_mk_154, q_up_eq, q_up_ne, q_up_ne2, q_upf_ne, q_upf_eq, not_false_eq_true, Nat.reduceEqDiff, Int.reduceEq, if_true]; done)
    | skip
  · simp only [F_chk, F_lay, q_up_app, F_lay_ne, F_lay_f, F_lay_18, F_mk_ne, F_mk_f, F_mk_15, q_up_eq, q_up_ne, q_up_ne2, q_upf_ne, q_upf_eq, not_false_eq_true, Nat.reduceEqDiff, Int.reduceEq, Nat.reduceEqDiff, false_and, if_false, true_and]
    simp <;> omega
  · simp only [F_chk, F_lay, q_up_app, F_lay_ne, F_lay_f, F_lay_18, F_mk_ne, F_mk_f, F_mk_15, q_up_eq, q_up_ne, q_up_ne2, q_upf_ne, q_upf_eq, not_false_eq_true, Nat.reduceEqDiff, Int.reduceEq, Nat.reduceEqDiff, false_and, if_false, true_and]
    simp <;> omega
  · simp only [F_chk, F_lay, q_up_app, F_lay_ne, F_lay_f, F_lay_18, F_mk_ne, F_mk_f, F_mk_15, q_up_eq, q_up_ne, q_up_ne2, q_upf_ne, q_upf_eq, not_false_eq_true, Nat.reduceEqDiff, Int.reduceEq, Nat.reduceEqDiff, false_and, if_false, true_and]
    simp <;> omega
  · simp only [F_chk, F_lay, q_up_app, F_lay_ne, F_lay_f, F_lay_18, F_mk_ne, F_mk_f, F_mk_15, q_up_eq, q_up_ne, q_up_ne2, q_upf_ne, q_upf_eq, not_false_eq_true, Nat.reduceEqDiff, Int.reduceEq, Nat.reduceEqDiff, false_and, if_false, true_and]
    simp <;> omega
  · simp only [F_chk, F_lay, q_up_app, F_lay_ne, F_lay_f, F_lay_18, F_mk_ne, F_mk_f, F_mk_15, q_up_eq, q_up_ne, q_up_ne2, q_upf_ne, q_upf_eq, not_false_eq_true, Nat.reduceEqDiff, Int.reduceEq, Nat.reduceEqDiff, false_and, if_false, true_and]
    simp <;> omega
  · simp only [F_chk, F_lay, q_up_app, F_lay_ne, F_lay_f, F_lay_18, F_mk_ne, F_mk_f, F_mk_15, q_up_eq, q_up_ne, q_up_ne2, q_upf_ne, q_upf_eq, not_false_eq_true, Nat.reduceEqDiff, Int.reduceEq, Nat.reduceEqDiff, false_and, if_false, true_and]
    simp <;> omega
  · funext i
    unfold F_chk un nz p_up
    by_cases h : 0 ≤ i ∧ i ≤ 7
    · rw [if_pos h, if_pos h, F_lay_ne (by decide) (by decide) (by decide) (by decide), F_lay_ne (by decide) (by decide) (by decide) (by decide), q_up_ne _ _ _ _ (by decide), q_up_ne _ _ _ _ (by decide), q_up_ne _ _ _ _ (by decide), F_mk_171]
      simp only [q_up_eq, q_up_ne, q_up_ne2, q_upf_ne, q_upf_eq, not_false_eq_true, Nat.reduceEqDiff, h, and_self, if_true]
    · rw [if_neg h, if_neg h]
  · have hch : CH s S (F_chk S s r' v) := CH_chk CH_refl (Int.le_refl _) (Int.le_refl _) (Int.le_refl _)
    refine ⟨fun a i hb hx => ?_, ?_⟩
    · unfold bel at hb
      by_cases h143 : a = 143 ∧ i = s
      · obtain ⟨rfl, rfl⟩ := h143
        unfold F_chk
        simp only [F_lay_ne, F_lay_f, F_lay_18, F_mk_ne, F_mk_f, F_mk_15, q_up_eq, q_up_ne, q_up_ne2, q_upf_ne, q_upf_eq, not_false_eq_true, Nat.reduceEqDiff, Int.reduceEq]
      · exact hch a i (by omega) (by omega) (by omega) (by omega) (by omega) (by omega)
    · unfold CU
      omega
theorem val_ok {pq : Int × (Int × Int × Int) × (Int × Int × Int)} {e1 e2 e3 : Int} : NOK S (F_lay (q_up (q_up (q_up (F_mk S x 1 s fr (-1)) 152 (S 136 15) e1) 153 (S 136 15) e2) 154 (S 136 15) e3) 2 (S 136 15) 0) so0 (un (nz (S 171)) x (S 136 15), [((x, 1, s, fr, -1), (e1, e2, e3), pq)], [], [], [], [(2, S 136 15, 0)]) := by
  refine ⟨⟨trivial, trivial, trivial, ⟨⟨?_, ?_, ?_, ?_, ?_, ?_, ?_, ?_⟩, trivial⟩, trivial, trivial, trivial, ⟨⟨?_, ?_, ?_⟩, trivial⟩⟩, ⟨?_, rfl, ?_, rfl, ?_, rfl, ?_, ?_⟩, ?_, ?_⟩
  · simp only [F_lay_ne, F_mk_147, q_up_eq, q_up_ne, q_up_ne2, q_upf_ne, q_upf_eq, not_false_eq_true, Nat.reduceEqDiff, if_true]
  · simp only [F_lay_ne, F_mk_148, q_up_eq, q_up_ne, q_up_ne2, q_upf_ne, q_upf_eq, not_false_eq_true, Nat.reduceEqDiff, if_true]
  · simp only [F_lay_ne, F_mk_149, q_up_eq, q_up_ne, q_up_ne2, q_upf_ne, q_upf_eq, not_false_eq_true, Nat.reduceEqDiff, if_true]
  · simp only [F_lay_ne, F_mk_150, q_up_eq, q_up_ne, q_up_ne2, q_upf_ne, q_upf_eq, not_false_eq_true, Nat.reduceEqDiff, if_true]
  · simp only [F_lay_ne, F_mk_151, q_up_eq, q_up_ne, q_up_ne2, q_upf_ne, q_upf_eq, not_false_eq_true, Nat.reduceEqDiff, if_true]
  · simp only [F_lay_ne, q_up_eq, q_up_ne, q_up_ne2, q_upf_ne, q_upf_eq, not_false_eq_true, Nat.reduceEqDiff, if_true]
  · simp only [F_lay_ne, q_up_eq, q_up_ne, q_up_ne2, q_upf_ne, q_upf_eq, not_false_eq_true, Nat.reduceEqDiff, if_true]
  · simp only [F_lay_ne, q_up_eq, q_up_ne, q_up_ne2, q_upf_ne, q_upf_eq, not_false_eq_true, Nat.reduceEqDiff, if_true]
  · simp only [F_lay, F_lay_ne, F_lay_f, F_lay_18, F_mk_ne, F_mk_f, F_mk_15, q_up_eq, q_up_ne, q_up_ne2, q_upf_ne, q_upf_eq, not_false_eq_true, Nat.reduceEqDiff, Int.reduceEq]
  · simp only [F_lay, F_lay_ne, F_lay_f, F_lay_18, F_mk_ne, F_mk_f, F_mk_15, q_up_eq, q_up_ne, q_up_ne2, q_upf_ne, q_upf_eq, not_false_eq_true, Nat.reduceEqDiff, Int.reduceEq]
  · simp only [F_lay, F_lay_ne, F_lay_f, F_lay_18, F_mk_ne, F_mk_f, F_mk_15, q_up_eq, q_up_ne, q_up_ne2, q_upf_ne, q_upf_eq, not_false_eq_true, Nat.reduceEqDiff, Int.reduceEq]
  · simp only [F_lay_ne, F_lay_f, F_lay_18, F_mk_ne, F_mk_f, F_mk_15, q_up_eq, q_up_ne, q_up_ne2, q_upf_ne, q_upf_eq, not_false_eq_true, Nat.reduceEqDiff, Int.reduceEq]; simp
  · simp only [F_lay_ne, F_lay_f, F_lay_18, F_mk_ne, F_mk_f, F_mk_15, q_up_eq, q_up_ne, q_up_ne2, q_upf_ne, q_upf_eq, not_false_eq_true, Nat.reduceEqDiff, Int.reduceEq]; simp
  · simp only [F_lay_ne, F_lay_f, F_lay_18, F_mk_ne, F_mk_f, F_mk_15, q_up_eq, q_up_ne, q_up_ne2, q_upf_ne, q_upf_eq, not_false_eq_true, Nat.reduceEqDiff, Int.reduceEq]; simp
  · simp only [F_lay_ne, F_lay_f, F_lay_18, F_mk_ne, F_mk_f, F_mk_15, q_up_eq, q_up_ne, q_up_ne2, q_upf_ne, q_upf_eq, not_false_eq_true, Nat.reduceEqDiff, Int.reduceEq]; rfl
  · simp only [F_lay_ne, F_lay_f, F_lay_18, F_mk_ne, F_mk_f, F_mk_15, q_up_eq, q_up_ne, q_up_ne2, q_upf_ne, q_upf_eq, not_false_eq_true, Nat.reduceEqDiff, Int.reduceEq]; rfl
  · have e : (F_lay (q_up (q_up (q_up (F_mk S x 1 s fr (-1)) 152 (S 136 15) e1) 153 (S 136 15) e2) 154 (S 136 15) e3) 2 (S 136 15) 0) 171 = F_mk S x 1 s fr (-1) 171 := by
      funext i
      simp only [F_lay_ne, F_lay_f, F_lay_18, F_mk_ne, F_mk_f, F_mk_15, q_up_eq, q_up_ne, q_up_ne2, q_upf_ne, q_upf_eq, not_false_eq_true, Nat.reduceEqDiff, Int.reduceEq]
    rw [e]
    exact nz_mk
  · exact IV_lay (IV_up (IV_up (IV_up (IV_mk IV_refl) (by decide) (nb15 (Int.le_refl _) (by decide))) (by decide) (nb15 (Int.le_refl _) (by decide))) (by decide) (nb15 (Int.le_refl _) (by decide)))
/-- a statement's own row, and what is behind it -/
theorem NTB_head {Sb : St} {p : SO} {o : NO} {hd : SR} {mr : MR} (h : NTB Sb S' p o) (hc : NCT Sb S' p o) (e14 : Sb 136 14 = S 136 14 + 1) (e15 : Sb 136 15 = S 136 15) (e16 : Sb 136 16 = S 136 16) (e17 : Sb 136 17 = S 136 17) (e18 : Sb 136 18 = S 136 18) (h1 : SRokR S' (S 136 14) hd) (h2 : MRokR S' (S 136 14) mr) : NTB S S' (hd :: p.1, p.2) (o.1, o.2.1, mr :: o.2.2.1, o.2.2.2) ∧ NCT S S' (hd :: p.1, p.2) (o.1, o.2.1, mr :: o.2.2.1, o.2.2.2) := by
  obtain ⟨t1, t2, t3, t4, t5, t6, t7, t8⟩ := h
  obtain ⟨c1, c2, c3, c4, c5, c6, c7, c8⟩ := hc
  rw [e14] at t1 t5
  rw [e15] at t4
  rw [e16] at t2 t6
  rw [e17] at t3 t7
  rw [e18] at t8
  refine ⟨⟨⟨h1, t1⟩, t2, t3, t4, ⟨h2, t5⟩, t6, t7, t8⟩, ?_, ?_, by rw [← e16]; exact c3, c4, by rw [← e17]; exact c5, c6, by rw [← e15]; exact c7, by rw [← e18]; exact c8⟩
  · rw [List.length_cons]; omega
  · rw [List.length_cons, List.length_cons, c2]
end NKB
