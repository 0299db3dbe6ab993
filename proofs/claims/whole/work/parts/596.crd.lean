/-! the class reads -/
section CRD
variable {sc : Nat × (Nat → Int32)} {D : Nat} {bb : Bool} {Q : QP} {c : Nat} {C r r0 r' σ : St} {m : Int} {L : List (ST 5)} {pl f f' inp len inp' len' g : Int → Int} {n n' ft ft' a b x y k w v l s ab p q : Int} {O : OC}
theorem p_rs_pl (hf : t_by f n) : ∀ (m : Nat) (pl : Int → Int) (p : Int) (pl' : Int → Int) (q : Int), 0 ≤ p → (∀ k, -1 ≤ pl k ∧ pl k ≤ 20) → p_rs f n m pl p = .inr (pl', q) → ∀ k, -1 ≤ pl' k ∧ pl' k ≤ 20 := by
  intro m
  induction m with
  | zero => intro pl p pl' q hp hh h; unfold p_rs at h; cases h
  | succ m ih =>
    intro pl p pl' q hp hh h
    unfold p_rs at h
    split at h
    · split at h
      · obtain ⟨v, p2, h2, h⟩ := p_b_i h
        have hv := p_nu_i hf (nx_0 (nx_0 hp)) h2
        obtain ⟨u, p3, h3, h⟩ := p_b_i h
        refine ih _ _ _ _ (p_sg_i hv.2 h3) (fun k => ?_) h
        unfold p_up
        split
        · omega
        · exact hh k
      · cases h
    · cases h; exact hh
theorem p_P_pl {cnt : Int} (hf : t_by f n) (h : p_P f n = .inr ((pl, L, cnt), q)) : ∀ k, -1 ≤ pl k ∧ pl k ≤ 20 := by
  unfold p_P at h
  obtain ⟨pl', p1, h1, h⟩ := p_b_i h
  have a1 := p_rs_pl hf _ _ _ _ _ sk_ge (fun _ => by decide) h1
  obtain ⟨A, p2, h2, h⟩ := p_b_i h
  split at h
  · cases h; exact a1
  · cases h
theorem NS_id (h5 : σ 39 5 = c) (hC : ∀ a i, c ≤ a → a ≤ c + 23 → σ a i = C (a - c) i) : NS c C σ = σ := by
  funext a i
  unfold NS
  by_cases h : a = 39 ∧ i = 5
  · rw [if_pos h, h.1, h.2, h5]
  · rw [if_neg h]
    by_cases h2 : c ≤ a ∧ a ≤ c + 23
    · rw [if_pos h2, hC a i h2.1 h2.2]
    · rw [if_neg h2]
theorem PRG_of {σ' : St} {cnt : Int} (h : PRG c σ pl L cnt) (he : ∀ a i, c ≤ a → a ≤ c + 23 → σ' a i = σ a i) : PRG c σ' pl L cnt := by
  have e : ∀ j : Nat, j ≤ 23 → ∀ i, COD c σ' j i = COD c σ j i := fun j hj i => he (c + j) i (by omega) (by omega)
  obtain ⟨t1, t2, t3, c0, c1, c2, cp, e0, e40, e1, e2⟩ := h
  have E0 : ∀ i, σ' c i = σ c i := fun i => he c i (by omega) (by omega)
  refine ⟨TAB_mono _ _ (fun i x _ _ hx => ?_) t1, TAB_mono _ _ (fun i x _ _ hx => ?_) t2, TAB_mono _ _ (fun i x _ _ hx => ?_) t3, by rw [E0]; exact c0, by rw [E0]; exact c1, by rw [E0]; exact c2, fun i hi => by rw [he (c + 1) i (by omega) (by omega)]; exact cp i hi, by rw [E0]; exact e0, e40, by rw [E0]; exact e1, by rw [E0]; exact e2⟩
  · unfold SRok at hx ⊢
    rw [e 2 (by decide), e 3 (by decide), e 4 (by decide), e 5 (by decide), e 6 (by decide), e 7 (by decide), e 8 (by decide), e 9 (by decide), e 10 (by decide), e 11 (by decide), e 17 (by decide), e 19 (by decide), e 22 (by decide), e 20 (by decide), e 23 (by decide)]
    exact hx
  · unfold KRok at hx ⊢
    rw [e 12 (by decide), e 13 (by decide), e 14 (by decide)]
    exact hx
  · unfold LRok at hx ⊢
    rw [e 15 (by decide)]
    exact hx
/-- read -/
theorem p117 (hI : CI c C r m L pl n f ft inp len) (kF : ∀ q, p_P f n = .inl q → CPO Q bb (NS c C r) (.inr (0, 1)) m L pl 0 f q inp len) (kS : ∀ pl' L' cnt z, p_P f n = .inr ((pl', L', cnt), z) → CPO Q bb (NS c C r) (.inl (nS L')) m L' pl' 0 f (-1) inp len) : qx sc (D + 30) 117 0 [vr 0, vn, vn] [] (0, 0) bb (NS c C r) Q := by
  have hc := hI.1
  obtain ⟨-, h12⟩ := hI.2.2.2.1
  have h11 := hI.2.2.2.1.1
  obtain ⟨h13, n0, n4, hB⟩ := hI.2.2.2.2.2.2.1
  have h9 := hI.2.2.2.2.2.2.2.2
  have hf := BYT_by hB
  obtain ⟨c', hc'⟩ : ∃ c' : Nat, c' = 200 - c := ⟨_, rfl⟩
  rw [← hc'] at h12
  have hc2 : q_C c' := by unfold q_C at hc ⊢; omega
  have hcc : c = 200 - c' := by unfold q_C at hc; omega
  have dis : ∀ a : Nat, c ≤ a ∧ a ≤ c + 23 → ¬ (c' ≤ a ∧ a ≤ c' + 23) := by unfold q_C at hc; omega
  have hc88 := q_C_ge hc
  have hc88' := q_C_ge hc2
  have cm : c < 1000000 := by unfold q_C at hc; omega
  have cm' : c' < 1000000 := by unfold q_C at hc2; omega
  have c136 : c + 23 < 136 ∧ c' + 23 < 136 := by unfold q_C at hc; omega
  simp only [k117_0, k117_1, k117_4, k117_5, k117_6, k117_7, k117_10, k117_11, k117_14, k117_15, k117_18, k117_19, NS_lo hc, NS_g hc, NS_f hc, NS_u hc, NS_uf hc, Nat.reduceLT, Nat.reduceLeDiff, Nat.reduceEqDiff, not_false_eq_true, true_implies, false_implies, not_true_eq_false, not_false_eq_true, true_and, and_true, implies_true, or_true, true_or, or_false, false_or, Int.reduceEq, Int.one_ne_zero, Nat.reduceEqDiff, q_up_eq, q_up_ne, q_up_ne2, q_upf_ne, q_upf_eq, not_false_eq_true, h13, h12, c_nn, Int.toNat_natCast, Int.reduceEq]
  obtain ⟨r1, hr1⟩ : ∃ r1, r1 = q_up r 0 13 0 := ⟨_, rfl⟩
  rw [← hr1]
  have e1 : ∀ a i, ¬ (a = 0 ∧ i = 13) → r1 a i = r a i := fun a i h => by rw [hr1, q_up_app, if_neg h]
  rw [show D + 29 = 18 + (D + 8) + 3 by omega]
  refine n_45 (f := f) hc2 n0 n4 ?_ (fun σ1 res fr1 fr2 kf ks h43 => ?_)
  · have e : NS c C r1 1 = r 1 := funext (fun i => by rw [NS_lo hc (by decide) (by decide), e1 1 i (by omega)])
    rw [e]; exact hB
  have lo : ∀ a i, a < 88 → ¬ (4 ≤ a ∧ a ≤ 8) → ¬ a = 39 → σ1 a i = r1 a i := fun a i h1 h2 h3 => by rw [fr1 a i h2 (by omega), NS_lo hc h1 h3]
  have hi : ∀ a i, 136 ≤ a → σ1 a i = r a i := fun a i ha => by rw [fr1 a i (by omega) (by omega), NS_hi hc ha, e1 a i (by omega)]
  have b12 : σ1 0 12 = (c' : Int) := by rw [lo 0 12 (by decide) (by decide) (by decide), e1 0 12 (by decide)]; exact h12
  have b11 : σ1 0 11 = (c : Int) := by rw [lo 0 11 (by decide) (by decide) (by decide), e1 0 11 (by decide)]; exact h11
  have b13 : σ1 0 13 = 0 := by rw [lo 0 13 (by decide) (by decide) (by decide), hr1, q_up_eq]
  rw [q_kn_v]
  cases hP : p_P f n with
  | inl q =>
    obtain ⟨rfl, h44⟩ := kf q hP
    simp only [k117_22, k117_25, k117_26, k117_27, k117_30, k117_33, k117_36, true_implies, false_implies, not_true_eq_false, not_false_eq_true, true_and, and_true, implies_true, or_true, true_or, or_false, false_or, Int.reduceEq, Int.one_ne_zero, Nat.reduceEqDiff, h44]
    obtain ⟨σ2, hs2⟩ : ∃ σ2, σ2 = q_up σ1 0 14 q := ⟨_, rfl⟩
    rw [← hs2]
    have f2 : ∀ a i, ¬ (a = 0 ∧ i = 14) → σ2 a i = σ1 a i := fun a i h => by rw [hs2, q_up_app, if_neg h]
    have hid : NS c C σ2 = σ2 := NS_id (by rw [f2 39 5 (by decide), fr1 39 5 (by decide) (by omega)]; rfl) (fun a i a1 a2 => by
      rw [f2 a i (by omega), fr1 a i (by omega) (dis a ⟨a1, a2⟩)]
      unfold NS
      rw [if_neg (by omega), if_pos ⟨a1, a2⟩])
    have kq := kF q hP c C σ2 (CI_gen hI (fun a i ha => ?_) ⟨?_, by decide, by decide, fun i i0 i1 => absurd i1 (by omega)⟩ ?_ (fun d d0 d1 => ?_)) (fun a i ha => ?_)
    · rw [hid] at kq
      exact kq
    · rw [f2 a i (by unfold CSX at ha; omega), lo a i (by unfold CSX at ha; omega) (by unfold CSX at ha; omega) (by unfold CSX at ha; omega), e1 a i (by unfold CSX at ha; omega)]
    · rw [f2 0 13 (by decide)]; exact b13
    · rw [hs2, q_up_eq]
    · rw [f2 2 d (by omega), f2 3 d (by omega), lo 2 d (by decide) (by decide) (by decide), lo 3 d (by decide) (by decide) (by decide), e1 2 d (by omega), e1 3 d (by omega)]
      exact h9 d d0 d1
    · rw [hid, NS_hi hc ha, f2 a i (by omega), hi a i ha]
  | inr X =>
    obtain ⟨⟨pl', L', cnt⟩, z⟩ := X
    obtain ⟨rfl, hG⟩ := ks pl' L' cnt z hP
    have hv := p_P_i hf hP
    have hpl' := p_P_pl hf hP
    simp only [k117_22, k117_46, k117_47, k117_48, k117_51, k117_52, k117_55, k117_56, k117_57, k117_58, k117_61, k117_64, k117_65, k117_66, k117_69, k117_70, true_implies, false_implies, not_true_eq_false, not_false_eq_true, true_and, and_true, implies_true, or_true, true_or, or_false, false_or, Int.reduceEq, Int.one_ne_zero, Nat.reduceEqDiff, q_up_eq, q_up_ne, q_up_ne2, q_upf_ne, q_upf_eq, not_false_eq_true, b12, b11, c_nn, Int.toNat_natCast, cm, cm', Int.reduceEq]
    obtain ⟨σ2, hs2⟩ : ∃ σ2, σ2 = q_up (q_up (q_up σ1 0 14 (-1)) 0 12 (c : Int)) 0 11 (c' : Int) := ⟨_, rfl⟩
    rw [← hs2]
    have f2 : ∀ a i, ¬ (a = 0 ∧ (i = 11 ∨ i = 12 ∨ i = 14)) → σ2 a i = σ1 a i := fun a i h => by rw [hs2, q_up_app, if_neg (by omega), q_up_app, if_neg (by omega), q_up_app, if_neg (by omega)]
    have g11 : σ2 0 11 = (c' : Int) := by rw [hs2, q_up_eq]
    have g12 : σ2 0 12 = (c : Int) := by rw [hs2, q_up_ne2 _ _ _ (by decide), q_up_eq]
    have g14 : σ2 0 14 = -1 := by rw [hs2, q_up_ne2 _ _ _ (by decide), q_up_ne2 _ _ _ (by decide), q_up_eq]
    have hG2 : PRG c' σ2 pl' L' cnt := PRG_of hG (fun a i a1 a2 => f2 a i (by omega))
    rw [show 18 + (D + 8) + 3 = (D + 15) + 14 by omega]
    refine n95 (D := D + 14) hc2 g11 hG2 hv (fun k _ => hpl' k) (fun r3 u1 u2 u3 u4 => ?_)
    have v11 : r3 0 11 = (c' : Int) := by rw [u2 0 11 (by decide)]; exact g11
    have hK : nK L' ≤ 40 := by
      have := u1.1.2.1
      have xK : nK L' = (s_P L').2.1.length := rfl
      omega
    have hS0 : COD c' σ2 0 0 = nS L' := u1.2.1.2.1.1
    have hf2 : NS c' (COD c' σ2) r3 c' 0 = nS L' := by rw [NS_f hc2]; exact hS0
    simp only [q_kn_n, k117_73, k117_74, k117_77 hc, k117_80, NS_lo hc2, Nat.reduceLT, Nat.reduceEqDiff, not_false_eq_true, v11, c_nn, Int.toNat_natCast, k117_77 hc2, hf2, true_implies, false_implies, not_true_eq_false, not_false_eq_true, true_and, and_true, implies_true, or_true, true_or, or_false, false_or, Int.reduceEq, Int.one_ne_zero, Nat.reduceEqDiff]
    refine kS pl' L' cnt z hP c' (COD c' σ2) r3 ⟨hc2, hv, u1, ⟨v11, ?_⟩, ?_, fun k k0 k1 => Or.inl (u4 k k0 (by omega)), ⟨?_, by decide, by decide, fun i i0 i1 => absurd i1 (by omega)⟩, ?_, fun d d0 d1 => ?_⟩ (fun a i ha => ?_)
    · rw [u2 0 12 (by decide), g12, ← hcc]
    · rw [u3, f2 66 5 (by decide), lo 66 5 (by decide) (by decide) (by decide), e1 66 5 (by decide)]
      exact ⟨hI.2.2.2.2.1.1, fun w w0 w1 => by rw [u2 67 w (by omega), f2 67 w (by omega), lo 67 w (by decide) (by decide) (by decide), e1 67 w (by omega)]; exact hI.2.2.2.2.1.2 w w0 w1⟩
    · rw [u2 0 13 (by decide), f2 0 13 (by decide)]; exact b13
    · rw [u2 0 14 (by decide)]; exact g14
    · rw [u2 2 d (by decide), u2 3 d (by decide), f2 2 d (by omega), f2 3 d (by omega), lo 2 d (by decide) (by decide) (by decide), lo 3 d (by decide) (by decide) (by decide), e1 2 d (by omega), e1 3 d (by omega)]
      exact h9 d d0 d1
    · rw [NS_hi hc2 ha, NS_hi hc ha, u2 a i (by omega), f2 a i (by omega), hi a i ha]
end CRD
