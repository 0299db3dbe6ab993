section NUG
variable {C r r' r1 r2 : St} {i v s k v' s' k' x n fr how ar rw' ck : Int} {dep : Nat} {o o' : NO} {now : Int → Int} {l : List NP} {cd : List CD}
theorem nz_un40 (h : ∀ i, r' 40 i = if i = x then v else r 40 i) : nz (r' 40) = un (nz (r 40)) x v := by
  funext j
  unfold un nz p_up
  by_cases hj : 0 ≤ j ∧ j ≤ 7
  · rw [if_pos hj, if_pos hj, h]
    dsimp only
    rw [if_pos hj]
  · rw [if_neg hj, if_neg hj]
theorem VOC_one {y : VR} {M : List MR} {K : List NC} (h : INN r v) (hy : VRokC r' v y) (h9 : r' 9 0 = v + 1) (hx : ∀ i, r' 40 i = if i = x then v else r 40 i) (hM : TAB (MRokC r') s M) (hK : TAB (NCokC r') k K) (hf : ∀ a i, ¬ a = 9 → ¬ (i = v ∧ 10 ≤ a ∧ a ≤ 26) → ¬ a = 40 → ¬ (30 ≤ a ∧ a ≤ 38 ∧ s ≤ i) → ¬ (28 ≤ a ∧ a ≤ 29 ∧ k ≤ i) → r' a i = r a i) (hp : v_fol y → -99 ≤ y.2.2.1 ∧ y.2.2.1 ≤ 99) :
    VOC r r' v s k dep (un (nz (r 40)) x v, [y], M, K, l, cd) := by
  refine ⟨⟨hy, trivial⟩, hM, hK, nz_un40 hx, fun a i hb => hf a i ?_ ?_ ?_ ?_ ?_, ?_⟩
  · unfold NBl at hb; omega
  · unfold NBl at hb; omega
  · unfold NBl at hb; omega
  · unfold NBl at hb; omega
  · unfold NBl at hb; omega
  · refine INN_add h hy h9 (fun i _ _ => ?_) (fun i hi => hf 17 i (by decide) (by omega) (by decide) (by omega) (by omega)) hp
    rw [hx]
    split
    · exact Or.inr rfl
    · exact Or.inl rfl
theorem C_chk_ne {a : Nat} (h : ¬ (a = 9 ∧ i = 0)) (h' : ¬ (i = v ∧ 10 ≤ a ∧ a ≤ 26)) (h2 : ¬ (28 ≤ a ∧ a ≤ 29 ∧ i = k)) (h3 : ¬ (a = 40 ∧ i = C 14 k)) : C_chk C r v s k a i = r a i := by
  unfold C_chk
  rw [q_up, if_neg h3, q_up, if_neg (by omega), C_tt_ne (by omega), C_tt_ne (by omega), C_fol_ne (by omega), C_add_ne h h', q_up, if_neg (by omega)]
theorem VOC_chk (h : INN r v) (hx0 : 0 ≤ C 14 k) (hx1 : C 14 k ≤ 7) {M : List MR} (hM : TAB (MRokC (C_chk C r v s k)) s M) : VOC r (C_chk C r v s k) v s k dep (un (nz (r 40)) (C 14 k) v, [v_chk (C 14 k) s (nz (r 40) (C 14 k)) (C 13 k)], M, [(nz (r 40) (C 14 k), v, ar)], l, cd) := by
  have hb := h
  obtain ⟨b1, b2, b3, b4⟩ := hb
  obtain ⟨c1, c2⟩ := b3 _ hx0 hx1
  rw [nz_at hx0 hx1]
  have e40 : C_add (q_up r 28 k (r 40 (C 14 k))) v (C 14 k) 2 s 40 (C 14 k) = r 40 (C 14 k) := by rw [C_add_ne (by omega) (by omega), q_up_ne _ _ _ _ (by decide)]
  refine VOC_one h ?_ ?_ (fun i => ?_) hM ⟨⟨?_, ?_⟩, trivial⟩ (fun a i n1 n2 n3 n4 n5 => C_chk_ne (by omega) n2 (by omega) (by omega)) ?_
  · have q1 := RAW_t1 (k := 1) (n := 0) (sh := 0) (RAW_t0 (k := 2) (n := C 13 k) (sh := -1) (RAW_fol (ah := r 40 (C 14 k)) (n := 0) (RAW_add (r := q_up r 28 k (r 40 (C 14 k))) (v := v) (x := C 14 k) (how := 2) (s := s)) (by omega)))
    unfold VRokC v_chk
    dsimp only
    refine ⟨?_, fun _ => ⟨c1, c2⟩⟩
    rw [if_pos (Or.inl rfl), if_pos (Or.inl rfl), C_chk_ne (by omega) (by omega) (by omega) (by omega), C_chk_ne (by omega) (by omega) (by omega) (by omega)]
    have z16 : C_add (q_up r 28 k (r 40 (C 14 k))) v (C 14 k) 2 s 16 (r 40 (C 14 k)) = r 16 (r 40 (C 14 k)) := by rw [C_add_ne (by omega) (by omega), q_up_ne _ _ _ _ (by decide)]
    have z17 : C_add (q_up r 28 k (r 40 (C 14 k))) v (C 14 k) 2 s 17 (r 40 (C 14 k)) = r 17 (r 40 (C 14 k)) := by rw [C_add_ne (by omega) (by omega), q_up_ne _ _ _ _ (by decide)]
    rw [z16, z17] at q1
    refine RAW_of q1 (fun a ha => ?_)
    unfold C_chk
    rw [q_up_ne _ _ _ _ (by omega), q_up_ne _ _ _ _ (by omega)]
  · unfold C_chk
    rw [q_up_ne _ _ _ _ (by omega), q_up_ne _ _ _ _ (by omega), C_tt_ne (by omega), C_tt_ne (by omega), C_fol_ne (by omega), C_add_9]
  · by_cases hi : i = C 14 k
    · rw [if_pos hi, hi]; unfold C_chk; rw [q_up_eq]
    · rw [if_neg hi, C_chk_ne (by omega) (by omega) (by omega) (by omega)]
  · unfold C_chk
    rw [q_up_ne _ _ _ _ (by decide), q_up_ne _ _ _ _ (by decide), C_tt_ne (by omega), C_tt_ne (by omega), C_fol_ne (by omega), C_add_ne (by omega) (by omega), q_up_eq]
  · unfold C_chk
    rw [q_up_ne _ _ _ _ (by decide), q_up_eq]
  · intro _; unfold v_chk; dsimp only; omega
theorem C_v2_ne {a : Nat} (h : ¬ (a = 9 ∧ i = 0)) (h' : ¬ (i = v ∧ 10 ≤ a ∧ a ≤ 26)) : C_v2 C r v s a i = r a i := by
  have e : C_v1 C r v s a i = r a i := C_add_ne h h'
  unfold C_v2
  split
  · rw [C_tt_ne (by omega), C_tt_ne (by omega), e]
  · split
    · rw [C_tt_ne (by omega), C_tt_ne (by omega), e]
    · split
      · rw [C_fol_ne (by omega), e]
      · exact e
theorem C_v2_9 : C_v2 C r v s 9 0 = v + 1 := by
  have e : C_v1 C r v s 9 0 = v + 1 := C_add_9
  unfold C_v2
  split
  · rw [C_tt_ne (by omega), C_tt_ne (by omega), e]
  · split
    · rw [C_tt_ne (by omega), C_tt_ne (by omega), e]
    · split
      · rw [C_fol_ne (by omega), e]
      · exact e
theorem C_val_ne {a : Nat} (h : ¬ (a = 9 ∧ i = 0)) (h' : ¬ (i = v ∧ 10 ≤ a ∧ a ≤ 26)) (h2 : ¬ (a = 30 ∧ i = s)) (h3 : ¬ (a = 40 ∧ i = C 3 s)) : C_val C r v s a i = r a i := by
  unfold C_val
  rw [q_up, if_neg h3, q_up, if_neg h2, C_v2_ne h h']
theorem VOC_val {y : SB} (h : INN r v) (k1 : C 3 s = y.1.2.1) (k2 : C 4 s = y.1.2.2.1) (k3 : C 5 s = y.1.2.2.2.1) (k4 : C 6 s = y.1.2.2.2.2) (hf3 : y.1.2.2.1 = 3 → (0 ≤ y.1.2.2.2.1 ∧ y.1.2.2.2.1 ≤ 7) ∧ -99 ≤ y.1.2.2.2.2 ∧ y.1.2.2.2.2 ≤ 99) (hfr : fr = if y.1.2.2.1 = 3 then nz (r 40) y.1.2.2.2.1 else -1) :
    VOC r (C_val C r v s) v s k dep (un (nz (r 40)) y.1.2.1 v, [v_val y s fr ck], [(v, m_no.2)], [], l, cd) := by
  have hb := h
  obtain ⟨b1, b2, b3, b4⟩ := hb
  have q0 := RAW_add (r := r) (v := v) (x := y.1.2.1) (how := 1) (s := s)
  have ev : C_add r v y.1.2.1 1 s = C_v1 C r v s := by unfold C_v1; rw [k1]
  rw [ev] at q0
  have fin : ∀ a, 10 ≤ a ∧ a ≤ 26 → C_val C r v s a v = C_v2 C r v s a v := fun a ha => by
    unfold C_val
    rw [q_up_ne _ _ _ _ (by omega), q_up_ne _ _ _ _ (by omega)]
  refine VOC_one h ?_ ?_ (fun i => ?_) ⟨⟨?_, ?_⟩, trivial⟩ trivial (fun a i n1 n2 n3 n4 n5 => C_val_ne (by omega) n2 (by omega) (by omega)) ?_
  · unfold VRokC v_val
    dsimp only
    unfold C_v2 at fin
    rw [k2, k3, k4] at fin
    by_cases g1 : y.1.2.2.1 = 1
    · rw [if_neg (by omega)] at hfr
      subst hfr
      simp only [g1, if_true] at fin
      simp only [v_fol, g1, Int.reduceEq, if_true, if_false, false_or, or_false, and_false, false_implies, and_true]
      exact RAW_of (RAW_t1 (k := 1) (n := y.1.2.2.2.2) (sh := 0) (RAW_t0 (k := 1) (n := y.1.2.2.2.2) (sh := 0) q0)) fin
    · by_cases g2 : y.1.2.2.1 = 2
      · rw [if_neg (by omega)] at hfr
        subst hfr
        simp only [g2, Int.reduceEq, if_true, if_false] at fin
        simp only [v_fol, g2, Int.reduceEq, if_true, if_false, false_or, or_false, and_false, false_implies, and_true]
        exact RAW_of (RAW_t1 (k := 2) (n := y.1.2.2.2.1) (sh := 0) (RAW_t0 (k := 2) (n := y.1.2.2.2.1) (sh := 0) q0)) fin
      · by_cases g3 : y.1.2.2.1 = 3
        · obtain ⟨⟨f1, f2⟩, f3⟩ := hf3 g3
          rw [if_pos g3, nz_at f1 f2] at hfr
          obtain ⟨c1, c2⟩ := b3 _ f1 f2
          rw [← hfr] at c1 c2
          simp only [g3, Int.reduceEq, if_true, if_false] at fin
          rw [← hfr] at fin
          simp only [v_fol, g3, Int.reduceEq, if_true, if_false, false_or, or_true, and_self, true_implies]
          refine ⟨?_, c1, c2⟩
          rw [C_val_ne (by omega) (by omega) (by omega) (by omega), C_val_ne (by omega) (by omega) (by omega) (by omega)]
          have q1 := RAW_fol (ah := fr) (n := y.1.2.2.2.2) q0 (by omega)
          have z16 : C_v1 C r v s 16 fr = r 16 fr := C_add_ne (by omega) (by omega)
          have z17 : C_v1 C r v s 17 fr = r 17 fr := C_add_ne (by omega) (by omega)
          rw [z16, z17] at q1
          exact RAW_of q1 fin
        · rw [if_neg g3] at hfr
          subst hfr
          simp only [g1, g2, g3, if_false] at fin
          have hn : ¬ ((if y.1.2.2.1 = 4 then (3 : Int) else 4) = 1) := by split <;> decide
          simp only [v_fol, g1, g2, g3, hn, Int.reduceEq, if_true, if_false, false_or, or_false, and_false, false_implies, and_true]
          exact RAW_of q0 fin
  · unfold C_val
    rw [q_up_ne _ _ _ _ (by omega), q_up_ne _ _ _ _ (by omega), C_v2_9]
  · by_cases hi : i = y.1.2.1
    · rw [if_pos hi, hi]; unfold C_val; rw [k1, q_up_eq]
    · rw [if_neg hi, C_val_ne (by omega) (by omega) (by omega) (by omega)]
  · intro _
    unfold C_val
    rw [q_up_ne _ _ _ _ (by decide), q_up_eq]
  · intro hh; exact absurd rfl hh
  · intro hh
    unfold v_val at hh ⊢
    dsimp only at hh ⊢
    by_cases g3 : y.1.2.2.1 = 3
    · rw [if_pos g3]; exact (hf3 g3).2
    · rw [if_neg g3]; omega
end NUG
