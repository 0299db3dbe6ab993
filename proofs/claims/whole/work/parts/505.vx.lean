/-! versions behind checks have their check; those behind tests have their statement -/
def VX (G : GT) (s0 s1 k0 k1 i : Int) : Prop := ((gV G i).1.2.1 = 2 → ∃ k, k0 ≤ k ∧ k < k1 ∧ (gC G k).2.1 = i) ∧ ((gV G i).1.2.1 = 3 ∨ (gV G i).1.2.1 = 4 → (s0 ≤ (gV G i).1.2.2.1 ∧ (gV G i).1.2.2.1 < s1) ∧ 3 ≤ (gR G (gV G i).1.2.2.1).1.1 ∧ ¬ (gM G (gV G i).1.2.2.1).2.2.1.1 = -1)
theorem VX_up {G : GT} {s0 s1 k0 k1 s0' s1' k0' k1' i : Int} (h : VX G s0 s1 k0 k1 i) (h1 : s0' ≤ s0) (h2 : s1 ≤ s1') (h3 : k0' ≤ k0) (h4 : k1 ≤ k1') : VX G s0' s1' k0' k1' i := by
  refine ⟨fun q => ?_, fun q => ?_⟩
  · obtain ⟨k, a, b, c⟩ := h.1 q
    exact ⟨k, by omega, by omega, c⟩
  · obtain ⟨a, b⟩ := h.2 q
    exact ⟨by omega, b⟩
def VXN (p : Int → Int → Int → Int → SO) (g : NF) : Prop := ∀ (G : GT) (ar s k l v c : Int) (now : Int → Int), 0 ≤ v → SEG G (p ar s k l) (g s k l v c ar now) s k l v c → ∀ i, v ≤ i → i < v + (g s k l v c ar now).2.1.length → VX G s (s + (p ar s k l).1.length) k (k + (p ar s k l).2.1.length) i
theorem v_sd_at {G : GT} {t : TT} {sv0 sv1 how s w : Int} (hI : IS (gV G) w (v_sd t sv0 sv1 how s)) : ∀ i, w ≤ i → i < w + (v_sd t sv0 sv1 how s).length → (gV G i).1.2.1 = how ∧ (gV G i).1.2.2.1 = s := by
  intro i i0 i1
  obtain ⟨hj, e⟩ := IS_get hI i0 i1
  rw [e]
  have : ∀ y ∈ v_sd t sv0 sv1 how s, y.1.2.1 = how ∧ y.1.2.2.1 = s := by
    intro y hy
    unfold v_sd v_s0 v_s1 at hy
    rcases List.mem_append.mp hy with hy | hy
    · split at hy
      · rw [List.mem_singleton] at hy; subst hy; exact ⟨rfl, rfl⟩
      · exact absurd hy List.not_mem_nil
    · split at hy
      · rw [List.mem_singleton] at hy; subst hy; exact ⟨rfl, rfl⟩
      · exact absurd hy List.not_mem_nil
  exact this _ (List.getElem_mem hj)
theorem VXN_b {pl : Int → Int} {z : SB} (hz : VALb pl z) : VXN (s_b z) (n_b z) := by
  intro G ar s k l v c now h0 h i i0 i1
  obtain ⟨-, hV, -, hC, -⟩ := h
  obtain ⟨-, hz'⟩ := hz
  have zz : z.1.1 = 1 ∨ z.1.2.2.1 = 4 ∧ z.1.1 = 0 → z.2.1 = 1 := by omega
  unfold n_b at hV hC i1
  by_cases g0 : z.1.1 = 0
  · rw [if_pos g0] at hV hC i1
    by_cases g4 : z.1.2.2.1 = 4
    · rw [if_pos g4] at hV hC i1
      dsimp only at i1
      rw [List.length_cons, List.length_cons, List.length_nil] at i1
      obtain ⟨eV, eV2, -⟩ := hV
      obtain ⟨eC, -⟩ := hC
      have e2 : (s_b z ar s k l).2.1.length = 1 := by unfold s_b; dsimp only; rw [if_pos (zz (Or.inr ⟨g4, g0⟩))]; rfl
      rw [e2]
      by_cases e : i = v
      · subst e
        refine ⟨fun _ => ⟨k, by omega, by omega, by rw [eC]⟩, fun q => ?_⟩
        rw [eV] at q
        unfold v_chk at q
        dsimp only at q
        omega
      · have e' : i = v + 1 := by omega
        subst e'
        refine ⟨fun q => ?_, fun q => ?_⟩ <;> (rw [eV2] at q; unfold v_val at q; dsimp only at q; omega)
    · rw [if_neg g4] at hV i1
      dsimp only at i1 hV
      rw [List.length_cons, List.length_nil] at i1
      have e : i = v := by omega
      subst e
      have eV := hV.1
      refine ⟨fun q => ?_, fun q => ?_⟩ <;> (rw [eV] at q; unfold v_val at q; dsimp only at q; omega)
  · rw [if_neg g0] at hV hC i1
    by_cases g1 : z.1.1 = 1
    · rw [if_pos g1] at hV hC i1
      dsimp only at i1
      rw [List.length_cons, List.length_nil] at i1
      obtain ⟨eV, -⟩ := hV
      obtain ⟨eC, -⟩ := hC
      have e2 : (s_b z ar s k l).2.1.length = 1 := by unfold s_b; dsimp only; rw [if_pos (zz (Or.inl g1))]; rfl
      rw [e2]
      have e : i = v := by omega
      subst e
      refine ⟨fun _ => ⟨k, by omega, by omega, by rw [eC]⟩, fun q => ?_⟩
      rw [eV] at q
      unfold v_chk at q
      dsimp only at q
      omega
    · rw [if_neg g1] at i1
      dsimp only at i1
      rw [List.length_nil] at i1
      omega
theorem VXN_S {pl : Int → Int} : ∀ d : Nat, (∀ x : ST d, VALS pl d x → VXN (s_S d x) (n_S d x)) ∧ (∀ L : List (ST d), VALl (VALS pl d) L → VXN (s_L d L) (n_LL d L)) := by
  refine ST_ind (P := fun d x => VXN (s_S d x) (n_S d x)) (PL := fun d L => VXN (s_L d L) (n_LL d L)) ?_ ?_ ?_ ?_ ?_ ?_
  · intro x hx
    rw [show s_S 0 x = s_b x from by funext a b c e; exact s_S_0 x a b c e, n_S_0]
    exact VXN_b hx
  · intro d x hx
    rw [show s_S (d + 1) (Sum.inl x) = s_b x from by funext a b c e; exact s_S_b d x a b c e, n_S_b]
    exact VXN_b hx
  · intro d t A B ht vA vB hA hB G ar s k l v c now h0 h i i0 i1
    rw [s_S_if, n_S_if] at h
    rw [n_S_if] at i1
    rw [s_S_if]
    obtain ⟨oA, oB, PA, PB, vA', vF, vB', vJ, cA, cF, cB, cJ, sB, kB, lB, ⟨eA, ePA, eB, ePB⟩, ⟨x1, x2, x3, x4⟩, -, ⟨w1, w2, w3⟩, ⟨hR, hM⟩, ⟨y1, y2, y3, y4, y5⟩, -, z1, z2, z3, z4⟩ := SEG_if (LN_L d A vA) h
    have ePB' := ePB
    rw [w1, w2, w3] at ePB'
    have es := s_if_eq (t := t) (ar := ar) (pA := s_L d A ar) (pB := s_L d B ar) ePA ePB'
    rw [es]
    dsimp only
    rw [List.length_cons, List.length_append, List.length_append]
    rw [z2] at i1
    have wA := hA G ar (s + 1) k l vA' cA (v_sn t v now) (by omega)
    rw [← eA, ← ePA] at wA
    have wB := hB G ar sB kB lB vB' cB (v_sn t vF now) (by omega)
    rw [← eB, ← ePB] at wB
    have sd : ∀ how, (how = 3 ∨ how = 4) → (gV G i).1.2.1 = how ∧ (gV G i).1.2.2.1 = s → VX G s (s + ((PA.1.length + PB.1.length + 1 : Nat) : Int)) k (k + ((PA.2.1.length + PB.2.1.length : Nat) : Int)) i := by
      intro how hh he
      refine ⟨fun q => by omega, fun q => ?_⟩
      rw [he.2, hR, hM]
      dsimp only
      omega
    by_cases c1 : i < vA'
    · exact sd 3 (Or.inl rfl) (v_sd_at y1 i i0 (by omega))
    · by_cases c2 : i < vF
      · exact VX_up (wA y2 i (by omega) (by omega)) (by omega) (by omega) (by omega) (by omega)
      · by_cases c3 : i < vB'
        · exact sd 4 (Or.inr rfl) (v_sd_at y3 i (by omega) (by omega))
        · by_cases c4 : i < vJ
          · exact VX_up (wB y4 i (by omega) (by omega)) (by omega) (by omega) (by omega) (by omega)
          · obtain ⟨z, z0, z7, e, -⟩ := v_join_at 8 0 vJ (by decide) (by decide) y5 i (by omega) (by omega)
            refine ⟨fun q => ?_, fun q => ?_⟩ <;> (rw [e] at q; unfold v_mk at q; dsimp only at q; omega)
  · intro d t A B ht vA hA G ar s k l v c now h0 h i i0 i1
    rw [s_S_wh, n_S_wh] at h
    rw [n_S_wh] at i1
    rw [s_S_wh]
    obtain ⟨now1, oA, PA, n', vH, vA', vF, cH, cA, cF, ⟨eA, ePA, e1, en⟩, ⟨x1, x2, x3⟩, -, ⟨hR, hM, hL, hP⟩, ⟨y1, y2, y3, y4⟩, -, z1, z2, z3, z4⟩ := SEG_wh h
    have es := s_wh_eq (t := t) (ar := ar) (pA := s_L d A l) ePA
    rw [es]
    dsimp only
    rw [List.length_cons]
    rw [z2] at i1
    have wA := hA G l (s + 1) k (l + 1) vA' cA (v_sn t vH now1) (by omega)
    rw [← eA, ← ePA] at wA
    have sd : ∀ how, (how = 3 ∨ how = 4) → (gV G i).1.2.1 = how ∧ (gV G i).1.2.2.1 = s → VX G s (s + ((PA.1.length + 1 : Nat) : Int)) k (k + (PA.2.1.length : Int)) i := by
      intro how hh he
      refine ⟨fun q => by omega, fun q => ?_⟩
      rw [he.2, hR, hM]
      dsimp only
      omega
    by_cases c0 : i < vH
    · obtain ⟨z, z0, z7, e, -⟩ := v_round_at 8 0 v (by decide) (by decide) y1 i (by omega) (by omega)
      refine ⟨fun q => ?_, fun q => ?_⟩ <;> (rw [e] at q; unfold v_mk at q; dsimp only at q; omega)
    · by_cases c1 : i < vA'
      · exact sd 3 (Or.inl rfl) (v_sd_at y2 i (by omega) (by omega))
      · by_cases c2 : i < vF
        · exact VX_up (wA y3 i (by omega) (by omega)) (by omega) (by omega) (by omega) (by omega)
        · exact sd 4 (Or.inr rfl) (v_sd_at y4 i (by omega) (by omega))
  · intro d G ar s k l v c now h0 h i i0 i1
    have e : (n_LL d ([] : List (ST d)) s k l v c ar now).2.1.length = 0 := rfl
    rw [e] at i1
    omega
  · intro d x L vx vL h1 h2 G ar s k l v c now h0 h i i0 i1
    have en : n_LL d (x :: L) s k l v c ar now = o_app (n_S d x s k l v c ar now) (n_LL d L (s + (n_S d x s k l v c ar now).2.2.1.length) (k + (n_S d x s k l v c ar now).2.2.2.1.length) (l + (n_S d x s k l v c ar now).2.2.2.2.1.length) (v + (n_S d x s k l v c ar now).2.1.length) (c + (n_S d x s k l v c ar now).2.2.2.2.2.length) ar (n_S d x s k l v c ar now).1) := rfl
    have es : s_L d (x :: L) ar s k l = so_app (s_S d x ar s k l) (s_L d L ar (s + (s_S d x ar s k l).1.length) (k + (s_S d x ar s k l).2.1.length) (l + (s_S d x ar s k l).2.2.length)) := rfl
    obtain ⟨q1, q2, q3⟩ := LN_S d x vx ar s k l v c now
    have a1 := h1 G ar s k l v c now h0
    rw [q1, q2, q3] at en
    rw [en] at i1 h
    rw [es] at h ⊢
    generalize n_S d x s k l v c ar now = oA at *
    generalize s_S d x ar s k l = PA at *
    rw [SEG_app q1 q2 q3] at h
    obtain ⟨g1, g2⟩ := h
    rw [oap_2, List.length_append] at i1
    have a2 := h2 G ar (s + PA.1.length) (k + PA.2.1.length) (l + PA.2.2.length) (v + oA.2.1.length) (c + oA.2.2.2.2.2.length) oA.1 (by omega) g2
    unfold so_app
    dsimp only
    rw [List.length_append, List.length_append]
    by_cases c1 : i < v + oA.2.1.length
    · exact VX_up (a1 g1 i i0 c1) (by omega) (by omega) (by omega) (by omega)
    · exact VX_up (a2 i (by omega) (by omega)) (by omega) (by omega) (by omega) (by omega)
theorem VX_of {pl : Int → Int} {L : List (ST 5)} (h : VALl (VALS pl 5) L) : ∀ i : Int, 0 ≤ i → i < (VS L).length → VX (GG L) 0 (s_P L).1.length 0 (s_P L).2.1.length i := by
  intro i i0 i1
  have hbeg := v_beg_at 8 0 (GG_V L).1
  have hlen := VS_len L
  by_cases h8 : i < 8
  · have e := hbeg i i0 (by omega)
    refine ⟨fun q => ?_, fun q => ?_⟩ <;> (rw [e] at q; dsimp only at q; omega)
  · have := (VXN_S (pl := pl) 5).2 L h (GG L) (-1) 0 0 0 8 0 id8 (by decide) (GG_seg L) i (by omega) (by show i < 8 + ((n_P L).2.1.length : Int); omega)
    refine VX_up this (Int.le_refl _) ?_ (Int.le_refl _) ?_
    · show (0 : Int) + ((s_P L).1.length : Int) ≤ _; omega
    · show (0 : Int) + ((s_P L).2.1.length : Int) ≤ _; omega
