/-! if and while in a run -/
def LHG (G : GT) (pl : Int → Int) (V K : Nat) (l s : Int) (σ : St) : Prop := ∀ k : Int, 0 ≤ k → k < K → (gdr G pl V k).1 = l → (shD G pl V (-1) k = 0 → 0 ≤ R_low G k σ) ∧ (shU G pl V (-1) k = 0 → R_hi G pl V k s σ < σ 85 (gK G k).2.1)
/-- what is known at a loop's head -/
def LHD (G : GT) (pl : Int → Int) (V K : Nat) (ln : Int → Int) (m n o v l s : Int) (now1 : Int → Int) (σ : St) : Prop := BM m n o V ln σ ∧ (∀ j, l < j → j < 40 → σ 79 j = 0) ∧ INV G pl V ln now1 σ ∧ (∀ j, 0 ≤ j → j < 40 → ¬ j = l → σ 79 j = 1 → (gP G j).1 + (gP G j).2 ≤ v ∧ GIL G pl V K σ j) ∧ (σ 79 l = 1 → LHG G pl V K l s σ)
section RGE
variable {G : GT} {pl ln : Int → Int} {V S K Ln : Nat} {m m' n n' o o' v v' w l l' k s x y how ar c nn : Int} {ks ks' : List (Int × Int)} {now now' now1 now2 : Int → Int} {σ σ' σ1 σ2 σ3 τ : St} {t : TT} {set : Int}
theorem R_ans_t {a b : Int} (hR : (gR G s).2.2 = t) (hM : (gM G s).2.2.1 = (a, b, n)) (h : R_h t τ = true) : R_ans G s τ = R_mk G a n τ := by
  unfold R_ans
  rw [hR, if_pos h, hM]
theorem R_ans_f {a b : Int} (hR : (gR G s).2.2 = t) (hM : (gM G s).2.2.1 = (a, b, n)) (h : ¬ R_h t τ = true) : R_ans G s τ = R_mk G b n τ := by
  unfold R_ans
  rw [hR, if_neg h, hM]
theorem GST_l (h : GST G pl V K ln v l' now σ) (hz : ∀ j, l ≤ j → j < l' → σ 79 j = 0) : GST G pl V K ln v l now σ := by
  obtain ⟨h1, h2, h3⟩ := h
  refine ⟨h1, fun j j0 j1 => ?_, h3⟩
  by_cases q : l' ≤ j
  · exact h2 j q j1
  · exact hz j j0 (by omega)
/-- behind both blocks of if -/
theorem IF_join {one other : Int → Int} {vJ : Int} (hp : PRO G pl V S K Ln) (hI : INV G pl V ln now σ) (hN : NWI now v) (hNV : NWV G now) (v0 : 0 ≤ v) (hvJ : v ≤ vJ) (hJ : IS (gV G) vJ (v_join set one other s 8 0)) (hV : vJ + (v_many set 8 0 : Nat) ≤ V) (hbit : ∀ x, 0 ≤ x → x ≤ 7 → q_bit set x = 0 → NTL ks x) (fr : RFR v l ks σ σ2) (g2 : GST G pl V K ln v' l now2 σ2) (hv' : v' ≤ vJ) (hnow : now2 = one ∨ now2 = other) :
    GST G pl V K ln (vJ + (v_many set 8 0 : Nat)) l (v_now set 8 0 vJ now) (R_mk G vJ (v_many set 8 0 : Nat) σ2) := by
  obtain ⟨h1, h2, h3, h4⟩ := g2
  refine ⟨BM_mk hp h1, h2, ?_, GIN_fr hp h4 (by omega) (fun _ _ _ q => q) (fun j j0 j1 => R_mk_lt (by omega)) (fun i => R_mk_ne (by decide))⟩
  refine INV_join hp hJ (by omega) hV hNV (by rcases hnow with q | q; exact Or.inl (q ▸ h3); exact Or.inr (q ▸ h3)) (fun x x0 x1 b => ?_) (NWI_up hN hvJ)
  have hn := hN x x0 x1
  exact IWX_fr hp hn.1 (by omega) (hI x x0 x1) (fr.2.1 x x0 x1 (hbit x x0 x1 b)) (fun j j0 j1 => fr.2.2.2 j (by omega))
theorem RES_if {pA pB : Int → Int → Int → Int → SO} {gA gB : NF} {oA oB : NO} {PA PB : SO} {vA vF vB vJ cA cF cB cJ sB kB lB : Int} {fA fB : RF} {P : SO} (hp : PRO G pl V S K Ln) (hL : LNO pl ln) (ht : VALt pl t) (hkA : KV ks) (hkB : KV ks') (hlB : lB ≤ 40) (hc : PCX G V S K Ln P (n_if t (tbits (ks ++ ks') 0) gA gB s k l v c ar now) ar s k l v c now) (hS : SIF G t (tbits (ks ++ ks') 0) pA pB gA gB s k l v c ar now oA oB PA PB vA vF vB vJ cA cF cB cJ sB kB lB)
    (hA : ∀ σ, GST G pl V K ln vA l (v_sn t v now) σ → RES G pl V K ln vA (vA + (oA.2.1.length : Nat)) l ks oA.1 σ (fA (s + 1) σ)) (hB : ∀ σ, GST G pl V K ln vB lB (v_sn t vF now) σ → RES G pl V K ln vB (vB + (oB.2.1.length : Nat)) lB ks' oB.1 σ (fB sB σ)) (h : GST G pl V K ln v l now σ) :
    RES G pl V K ln v (v + ((n_if t (tbits (ks ++ ks') 0) gA gB s k l v c ar now).2.1.length : Nat)) l ((3, -1) :: (ks ++ ks')) (n_if t (tbits (ks ++ ks') 0) gA gB s k l v c ar now).1 σ (R_if G fA fB s σ) := by
  obtain ⟨⟨v0, s0, k0, l0⟩, ⟨hN, hnz, hNV⟩, -, ⟨c1, c2, c3, c4⟩, -, hseg⟩ := hc
  obtain ⟨-, ⟨x1, x2, x3, x4⟩, -, ⟨w1, w2, w3⟩, ⟨hR, hM⟩, ⟨y1, y2, y3, y4, y5⟩, -, z1, z2, z3, z4⟩ := hS
  rw [z2] at c4
  rw [z1, show v + ((n_if t (tbits (ks ++ ks') 0) gA gB s k l v c ar now).2.1.length : Int) = vJ + (v_many (tbits (ks ++ ks') 0) 8 0 : Nat) by rw [z2]; omega]
  have hR2 : (gR G s).2.2 = t := by rw [hR]
  have hRm : (gR G s).2.1.2.2.2.1 = sB := by rw [hR]
  have hM2 : (gM G s).2.2.1 = (v, vF, ((v_sd t (v_sv now t.2.1) (v_sv now t.2.2) 3 s).length : Int)) := by rw [hM]
  have hM1 : (gM G s).2.1 = (vJ, ((v_many (tbits (ks ++ ks') 0) 8 0 : Nat) : Int)) := by rw [hM]
  have hbit : ∀ x, 0 ≤ x → x ≤ 7 → q_bit (tbits (ks ++ ks') 0) x = 0 → NTL (ks ++ ks') x := fun x x0 x1 b => NTL_bit (d := 0) (KV_app hkA hkB) x0 x1 b
  have hst := h.1.2.2.2.2.2.1
  unfold R_if
  by_cases hs : σ 87 2 < 300
  · rw [R_step_t hs, R_and_t rfl]
    have h1 := GST_step h hs
    have e2 : q_up σ 87 2 (σ 87 2 + 1) 87 2 = σ 87 2 + 1 := q_up_eq _ _ _ _
    have f1 : RFR v l ((3, -1) :: (ks ++ ks')) σ (q_up σ 87 2 (σ 87 2 + 1)) := RFR_87
    generalize q_up σ 87 2 (σ 87 2 + 1) = τ at *
    dsimp only
    rw [hR2, hRm, hM1]
    by_cases hh : R_h t τ = true
    · rw [if_pos hh, R_ans_t hR2 hM2 hh]
      have g0 := GSM_ans hp hL h1 ht hN (Int.le_refl v) v0 y1 (by omega) (Or.inl ⟨rfl, hh⟩)
      rw [← x1] at g0
      have g1 := GST_of g0 (st := σ 87 2 + 1) e2 (by omega) (by omega) (by omega)
      have f2 : RFR v l ((3, -1) :: (ks ++ ks')) τ (R_mk G v (v_sd t (v_sv now t.2.1) (v_sv now t.2.2) 3 s).length τ) := RFR_mk (Int.le_refl _)
      have e3 : R_mk G v (v_sd t (v_sv now t.2.1) (v_sv now t.2.2) 3 s).length τ 87 2 = σ 87 2 + 1 := e2
      generalize R_mk G v (v_sd t (v_sv now t.2.1) (v_sv now t.2.2) 3 s).length τ = τ2 at *
      obtain ⟨r1, r2, r3⟩ := hA τ2 g1
      generalize fA (s + 1) τ2 = p at *
      obtain ⟨σ2, bo⟩ := p
      have f3 : RFR v l ((3, -1) :: (ks ++ ks')) σ σ2 := RFR_trans f1 (RFR_trans f2 (RFR_mono r1 (by omega) (Int.le_refl _) (fun x hx => (NTL_app.mp (NTL_cons hx)).1)))
      cases bo with
      | false =>
        rw [R_and_f rfl]
        exact ⟨f3, fun q => ft_no q, r3⟩
      | true =>
        rw [R_and_t rfl]
        obtain ⟨g2, ge⟩ := r2 rfl
        dsimp only at g2 ge
        refine ⟨RFR_trans f3 (RFR_mk (by omega)), fun _ => ⟨?_, ?_⟩, fun q => tf_no q⟩
        · exact IF_join (ks := ks ++ ks') hp h.2.2.1 hN hNV v0 (by omega) y5 (by omega) hbit (RFR_mono f3 (Int.le_refl _) (Int.le_refl _) (fun x hx e he => by
            rcases List.mem_cons.mp he with rfl | he
            · dsimp only; omega
            · exact hx e he)) g2 (by omega) (Or.inl rfl)
        · show σ 87 2 ≤ σ2 87 2
          omega
    · rw [if_neg hh, R_ans_f hR2 hM2 hh]
      have g0 := GSM_ans hp hL h1 ht hN (show v ≤ vF by omega) (by omega) y3 (by omega) (Or.inr ⟨rfl, hh⟩)
      rw [z4, ← x3] at g0
      have g1 := GST_of g0 (st := σ 87 2 + 1) e2 (by omega) (by omega) (by omega)
      have g1' : GST G pl V K ln vB lB (v_sn t vF now) (R_mk G vF (v_sd t (v_sv now t.2.1) (v_sv now t.2.2) 3 s).length τ) := ⟨g1.1, fun j j0 j1 => g1.2.1 j (by omega) j1, g1.2.2⟩
      have f2 : RFR v l ((3, -1) :: (ks ++ ks')) τ (R_mk G vF (v_sd t (v_sv now t.2.1) (v_sv now t.2.2) 3 s).length τ) := RFR_mk (by omega)
      have e3 : R_mk G vF (v_sd t (v_sv now t.2.1) (v_sv now t.2.2) 3 s).length τ 87 2 = σ 87 2 + 1 := e2
      generalize R_mk G vF (v_sd t (v_sv now t.2.1) (v_sv now t.2.2) 3 s).length τ = τ2 at *
      obtain ⟨r1, r2, r3⟩ := hB τ2 g1'
      generalize fB sB τ2 = p at *
      obtain ⟨σ2, bo⟩ := p
      have f3 : RFR v l ((3, -1) :: (ks ++ ks')) σ σ2 := RFR_trans f1 (RFR_trans f2 (RFR_mono r1 (by omega) (by omega) (fun x hx => (NTL_app.mp (NTL_cons hx)).2)))
      cases bo with
      | false =>
        rw [R_and_f rfl]
        exact ⟨f3, fun q => ft_no q, r3⟩
      | true =>
        rw [R_and_t rfl]
        obtain ⟨g2, ge⟩ := r2 rfl
        dsimp only at g2 ge r1
        have g2' := GST_l g2 (l := l) (fun j j0 j1 => by rw [r1.2.2.1 j j1]; have := g1.2.1 j j0; exact this (by omega))
        refine ⟨RFR_trans f3 (RFR_mk (by omega)), fun _ => ⟨?_, ?_⟩, fun q => tf_no q⟩
        · exact IF_join (ks := ks ++ ks') hp h.2.2.1 hN hNV v0 (by omega) y5 (by omega) hbit (RFR_mono f3 (Int.le_refl _) (Int.le_refl _) (fun x hx e he => by
            rcases List.mem_cons.mp he with rfl | he
            · dsimp only; omega
            · exact hx e he)) g2' (by omega) (Or.inr rfl)
        · show σ 87 2 ≤ σ2 87 2
          omega
  · rw [R_step_f hs, R_and_f rfl]
    exact ⟨RFR_87, fun q => ft_no q, fun _ => FST_step h.1 (by omega) (by omega)⟩
/-- asked ahead of a loop -/
theorem R_ah_ok : ∀ (d : Nat) (k n : Int) (σ : St), BM m n o V ln σ → BM m (n + 2 * d) o V ln (R_ah G pl V l s d k σ).1 ∧ (∀ a i, ¬ (a = 87 ∧ (i = 4 ∨ i = 6)) → (R_ah G pl V l s d k σ).1 a i = σ a i) ∧ ((R_ah G pl V l s d k σ).2 = true → ∀ j, k ≤ j → j < k + d → (gdr G pl V j).1 = l → (shD G pl V (-1) j = 0 → 0 ≤ R_low G j σ) ∧ (shU G pl V (-1) j = 0 → R_hi G pl V j s σ < σ 85 (gK G j).2.1)) := by
  intro d
  induction d with
  | zero =>
    intro k n σ h
    exact ⟨BM_le h (Int.le_refl _) (by omega) (Int.le_refl _), fun _ _ _ => rfl, fun _ j j0 j1 => by omega⟩
  | succ d ih =>
    intro k n σ h
    rw [R_ah]
    have ca : ∀ σ : St, ∀ a i, ¬ (a = 87 ∧ (i = 4 ∨ i = 6)) → R_ca σ a i = σ a i := by
      intro σ a i hi
      unfold R_ca
      by_cases ha : a = 87
      · subst ha
        rw [q_up_ne2 _ _ _ (by omega), q_up_ne2 _ _ _ (by omega)]
      · rw [q_up_ne _ _ _ _ ha, q_up_ne _ _ _ _ ha]
    have lw : ∀ (j : Int) (σ σ' : St), (∀ a i, ¬ (a = 87 ∧ (i = 4 ∨ i = 6)) → σ' a i = σ a i) → R_low G j σ' = R_low G j σ ∧ R_hi G pl V j s σ' = R_hi G pl V j s σ ∧ ∀ i, σ' 85 i = σ 85 i := by
      intro j σ σ' hh
      have e1 : R_low G j σ' = R_low G j σ := by unfold R_low; rw [hh 80 _ (by omega)]
      have e2 : ∀ q, R_sd q σ' = R_sd q σ := by intro q; unfold R_sd; rw [hh 78 _ (by omega), hh 85 _ (by omega)]
      refine ⟨e1, ?_, fun i => hh 85 i (by omega)⟩
      unfold R_hi
      rw [e1, e2]
    by_cases hg : (gdr G pl V k).1 = l
    · rw [if_neg (fun q => q hg)]
      -- below
      obtain ⟨p, hpp⟩ : ∃ p : St × Bool, p = (if shD G pl V (-1) k = 0 then (R_ca σ, decide (0 ≤ R_low G k σ)) else (σ, true)) := ⟨_, rfl⟩
      have P1 : BM m (n + 1) o V ln p.1 ∧ (∀ a i, ¬ (a = 87 ∧ (i = 4 ∨ i = 6)) → p.1 a i = σ a i) ∧ (p.2 = true → shD G pl V (-1) k = 0 → 0 ≤ R_low G k σ) := by
        rw [hpp]
        by_cases q : shD G pl V (-1) k = 0
        · rw [if_pos q]; exact ⟨BM_ca h, ca σ, fun z _ => of_decide_eq_true z⟩
        · rw [if_neg q]; exact ⟨BM_le h (Int.le_refl _) (by omega) (Int.le_refl _), fun _ _ _ => rfl, fun _ z => absurd z q⟩
      rw [← hpp]
      obtain ⟨σ1, b1⟩ := p
      obtain ⟨u1, u2, u3⟩ := P1
      dsimp only at u1 u2 u3
      cases b1 with
      | false =>
        rw [R_and_f rfl]
        exact ⟨BM_le u1 (Int.le_refl _) (by omega) (Int.le_refl _), u2, fun q => ft_no q⟩
      | true =>
        rw [R_and_t rfl]
        dsimp only
        obtain ⟨p, hpp2⟩ : ∃ p : St × Bool, p = (if shU G pl V (-1) k = 0 then (R_ca σ1, decide (R_hi G pl V k s σ1 < σ1 85 (gK G k).2.1)) else (σ1, true)) := ⟨_, rfl⟩
        have P2 : BM m (n + 2) o V ln p.1 ∧ (∀ a i, ¬ (a = 87 ∧ (i = 4 ∨ i = 6)) → p.1 a i = σ1 a i) ∧ (p.2 = true → shU G pl V (-1) k = 0 → R_hi G pl V k s σ1 < σ1 85 (gK G k).2.1) := by
          rw [hpp2]
          by_cases q : shU G pl V (-1) k = 0
          · rw [if_pos q]; exact ⟨BM_le (BM_ca u1) (Int.le_refl _) (by omega) (Int.le_refl _), ca σ1, fun z _ => of_decide_eq_true z⟩
          · rw [if_neg q]; exact ⟨BM_le u1 (Int.le_refl _) (by omega) (Int.le_refl _), fun _ _ _ => rfl, fun _ z => absurd z q⟩
        rw [← hpp2]
        obtain ⟨σ2, b2⟩ := p
        obtain ⟨w1, w2, w3⟩ := P2
        dsimp only at w1 w2 w3
        have w2' : ∀ a i, ¬ (a = 87 ∧ (i = 4 ∨ i = 6)) → σ2 a i = σ a i := fun a i hi => by rw [w2 a i hi, u2 a i hi]
        cases b2 with
        | false =>
          rw [R_and_f rfl]
          exact ⟨BM_le w1 (Int.le_refl _) (by omega) (Int.le_refl _), w2', fun q => ft_no q⟩
        | true =>
          rw [R_and_t rfl]
          dsimp only
          obtain ⟨i1, i2, i3⟩ := ih (k + 1) (n + 2) σ2 w1
          refine ⟨BM_le i1 (Int.le_refl _) (by omega) (Int.le_refl _), fun a i hi => by rw [i2 a i hi, w2' a i hi], fun q j j0 j1 hj => ?_⟩
          obtain ⟨l1, l2, l3⟩ := lw j σ σ2 w2'
          by_cases e : j = k
          · subst e
            obtain ⟨r1, r2, r3⟩ := lw j σ σ1 u2
            have w3' := w3 rfl
            rw [r2, r3] at w3'
            exact ⟨u3 rfl, w3'⟩
          · have := i3 q j (by omega) (by omega) hj
            rw [l1, l2, l3] at this
            exact this
    · rw [if_pos hg]
      obtain ⟨i1, i2, i3⟩ := ih (k + 1) n σ h
      refine ⟨BM_le i1 (Int.le_refl _) (by omega) (Int.le_refl _), i2, fun q j j0 j1 hj => ?_⟩
      by_cases e : j = k
      · subst e; exact absurd hj hg
      · exact i3 q j (by omega) (by omega) hj
end RGE
