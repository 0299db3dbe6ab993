/-! all pieces of a run -/
section RGF
variable {G : GT} {pl ln : Int → Int} {V S K Ln : Nat} {m m' n n' o o' v v' w l l' k s x y how ar c nn : Int} {ks ks' : List (Int × Int)} {now now' now1 now2 : Int → Int} {σ σ' σ1 σ2 σ3 τ : St} {t : TT} {set : Int} {pA : Int → Int → Int → Int → SO} {gA : NF} {oA : NO} {PA : SO} {vH vA vF cH cA cF : Int} {fA : RF}
theorem RES_pre {r : St × Bool} (f : RFR v l ks σ σ1) (hs : σ 87 2 ≤ σ1 87 2) (h : RES G pl V K ln v v' l ks now' σ1 r) : RES G pl V K ln v v' l ks now' σ r := by
  obtain ⟨h1, h2, h3⟩ := h
  exact ⟨RFR_trans f h1, fun q => ⟨(h2 q).1, by have := (h2 q).2; omega⟩, h3⟩
theorem RES_lp (hp : PRO G pl V S K Ln) (hL : LNO pl ln) (ht : VALt pl t) (hS : SWH G t set pA gA s k l v c ar now now1 oA PA nn vH vA vF cH cA cF) (hN : NWI now v) (hNV : NWV G now) (hn1 : NWI now1 vH) (v0 : 0 ≤ v) (hV : vF + nn ≤ V) (l0 : 0 ≤ l) (hbit : ∀ x, 0 ≤ x → x ≤ 7 → q_bit set x = 0 → NTL ks x)
    (hA : ∀ σ, GST G pl V K ln vA (l + 1) (v_sn t vH now1) σ → RES G pl V K ln vA (vA + (oA.2.1.length : Nat)) (l + 1) ks oA.1 σ (fA (s + 1) σ)) :
    ∀ (fu : Nat) (σ : St), 301 ≤ fu + σ 87 2 → LHD G pl V K ln (σ 87 2 + 1) (100 * (σ 87 2 + 1) + 81) (σ 87 2) v l s now1 σ → RES G pl V K ln v (vF + nn) l ((4, -1) :: ks) (v_sn t vF now1) σ (R_lp G fA l s fu σ) := by
  have hS' := hS
  obtain ⟨⟨eA, ePA, e1, en⟩, ⟨x1, x2, x3⟩, -, ⟨hR, hM, hLl, hP⟩, ⟨y1, y2, y3, y4⟩, -, z1, z2, z3, z4⟩ := hS'
  have hR2 : (gR G s).2.2 = t := by rw [hR]
  have hM2 : (gM G s).2.2.1 = (vH, vF, nn) := by rw [hM]
  have hM1 : (gM G s).2.1 = (v, ((v_many set 8 0 : Nat) : Int)) := by rw [hM]
  have n0 : 0 ≤ nn := by omega
  intro fu
  induction fu with
  | zero =>
    intro σ hf h
    have := h.1.2.2.2.2.2.1
    omega
  | succ fu ih =>
    intro σ hf h
    have hst := h.1.2.2.2.2.2.1
    rw [R_lp]
    by_cases hs : σ 87 2 < 300
    · rw [R_step_t hs, R_and_t rfl]
      have h1 := LHD_step h hs
      have e2 : q_up σ 87 2 (σ 87 2 + 1) 87 2 = σ 87 2 + 1 := q_up_eq _ _ _ _
      have f1 : RFR v l ((4, -1) :: ks) σ (q_up σ 87 2 (σ 87 2 + 1)) := RFR_87
      generalize q_up σ 87 2 (σ 87 2 + 1) = τ at *
      dsimp only
      rw [hR2, hM1]
      by_cases hh : R_h t τ = true
      · rw [if_pos hh, R_ans_t hR2 hM2 hh]
        have g0 := LHD_body hp hL ht hS hn1 v0 (by omega) l0 h1 hh
        have f2 : RFR v l ((4, -1) :: ks) τ (R_mk G vH nn τ) := RFR_mk (by omega)
        have e3 : R_mk G vH nn τ 87 2 = σ 87 2 + 1 := e2
        have g1 := GST_of g0 (st := σ 87 2 + 1) e3 (by omega) (by omega) (by omega)
        obtain ⟨r1, r2, r3⟩ := hA _ g1
        generalize hr : fA (s + 1) (R_mk G vH nn τ) = p at *
        obtain ⟨σ2, bo⟩ := p
        dsimp only at r1 r2 r3
        have f3 : RFR v l ((4, -1) :: ks) σ σ2 := RFR_trans f1 (RFR_trans f2 (RFR_mono r1 (by omega) (by omega) (fun x hx => NTL_cons hx)))
        cases bo with
        | false =>
          rw [R_and_f rfl]
          exact ⟨f3, fun q => ft_no q, r3⟩
        | true =>
          rw [R_and_t rfl]
          obtain ⟨g2, ge⟩ := r2 rfl
          dsimp only
          have h3 := LHD_next hp ht hS hN hNV v0 (by omega) l0 hbit h1 r1 g2
          have h3' : LHD G pl V K ln (R_mk G v (v_many set 8 0 : Nat) σ2 87 2 + 1) (100 * (R_mk G v (v_many set 8 0 : Nat) σ2 87 2 + 1) + 81) (R_mk G v (v_many set 8 0 : Nat) σ2 87 2) v l s now1 (R_mk G v (v_many set 8 0 : Nat) σ2) := ⟨BM_le h3.1 (Int.le_refl _) (show 100 * (σ2 87 2 + 1) ≤ 100 * (σ2 87 2 + 1) + 81 by omega) (Int.le_refl _), h3.2⟩
          have e4 : R_mk G v (v_many set 8 0 : Nat) σ2 87 2 = σ2 87 2 := rfl
          exact RES_pre (RFR_trans f3 (RFR_mk (Int.le_refl _))) (by rw [e4]; omega) (ih _ (by rw [e4]; omega) h3')
      · rw [if_neg hh, R_ans_f hR2 hM2 hh]
        have g0 := LHD_exit hp hL ht hS hn1 v0 hV l0 h1 hh
        have e3 : q_up (R_mk G vF nn τ) 79 l 0 87 2 = σ 87 2 + 1 := e2
        refine ⟨RFR_trans f1 (RFR_trans (RFR_mk (by omega)) (RFR_79 (Int.le_refl _))), fun _ => ⟨GST_of g0 (st := σ 87 2 + 1) e3 (by omega) (by omega) (by omega), ?_⟩, fun q => tf_no q⟩
        show σ 87 2 ≤ q_up (R_mk G vF nn τ) 79 l 0 87 2
        rw [e3]; omega
    · rw [R_step_f hs, R_and_f rfl]
      exact ⟨RFR_87, fun q => ft_no q, fun _ => FST_step h.1 (by omega) (by omega)⟩
theorem RES_wh (hp : PRO G pl V S K Ln) (hL : LNO pl ln) (ht : VALt pl t) (hS : SWH G t set pA gA s k l v c ar now now1 oA PA nn vH vA vF cH cA cF) (hN : NWI now v) (hNV : NWV G now) (hn1 : NWI now1 vH) (v0 : 0 ≤ v) (hV : vF + nn ≤ V) (l0 : 0 ≤ l) (l40 : l < 40) (hbit : ∀ x, 0 ≤ x → x ≤ 7 → q_bit set x = 0 → NTL ks x)
    (hA : ∀ σ, GST G pl V K ln vA (l + 1) (v_sn t vH now1) σ → RES G pl V K ln vA (vA + (oA.2.1.length : Nat)) (l + 1) ks oA.1 σ (fA (s + 1) σ)) (h : GST G pl V K ln v l now σ) : RES G pl V K ln v (vF + nn) l ((4, -1) :: ks) (v_sn t vF now1) σ (R_wh G pl V K how fA s σ) := by
  have hS' := hS
  obtain ⟨⟨eA, ePA, e1, en⟩, ⟨x1, x2, x3⟩, -, ⟨hR, hM, hLl, hP⟩, -⟩ := hS'
  have hRl : (gR G s).2.1.2.1 = l := by rw [hR]
  have hM1 : (gM G s).2.1 = (v, ((v_many set 8 0 : Nat) : Int)) := by rw [hM]
  have n0 : 0 ≤ nn := by omega
  unfold R_wh
  rw [hRl, hM1]
  obtain ⟨a1, a2⟩ := LHD_enter hp hS hN hNV v0 (by omega) l0 l40 h
  obtain ⟨b1, b2, b3⟩ := R_ent_ok (how := how) (ks := (4, -1) :: ks) hp a1 a2 l0
  dsimp only
  have e4 : R_mk G v (v_many set 8 0 : Nat) σ 87 2 = σ 87 2 := rfl
  rw [e4] at b3
  have hst := h.1.2.2.2.2.2.1
  rw [← b3] at b1
  refine RES_pre (RFR_trans (RFR_mk (Int.le_refl _)) b2) (by omega) (RES_lp hp hL ht hS hN hNV hn1 v0 hV l0 hbit hA 301 _ (by omega) b1)
/-- where the next statement begins -/
theorem aft_S : ∀ (d : Nat) (x : ST d) (ar s k l : Int), ∃ r rest, (s_S d x ar s k l).1 = r :: rest ∧ r.2.1.2.2.2.2 = s + ((s_S d x ar s k l).1.length : Nat) := by
  intro d x ar s k l
  have hb : ∀ z : SB, ∃ r rest, (s_b z ar s k l).1 = r :: rest ∧ r.2.1.2.2.2.2 = s + ((s_b z ar s k l).1.length : Nat) := fun z => ⟨_, [], rfl, rfl⟩
  cases d with
  | zero => exact hb x
  | succ d =>
    rcases x with x | ⟨⟨w, t⟩, A, B⟩
    · rw [s_S_b]; exact hb x
    · cases w with
      | true =>
        rw [s_S_wh, s_wh_eq rfl]
        refine ⟨_, _, rfl, ?_⟩
        dsimp only
        rw [List.length_cons]
        omega
      | false =>
        rw [s_S_if, s_if_eq rfl rfl]
        refine ⟨_, _, rfl, ?_⟩
        dsimp only
        rw [List.length_cons, List.length_append]
        omega
theorem aft_G {d : Nat} {x : ST d} {P : SO} {oo : NO} (h : SEG G P oo s k l v c) (e : P = s_S d x ar s k l) : (gR G s).2.1.2.2.2.2 = s + (P.1.length : Nat) := by
  obtain ⟨r, rest, h1, h2⟩ := aft_S d x ar s k l
  obtain ⟨⟨h3, -⟩, -⟩ := h
  subst e
  rw [h1] at h3
  rw [h3.1, h2]
theorem RES_S (hp : PRO G pl V S K Ln) (hL : LNO pl ln) : ∀ d : Nat, (∀ x : ST d, VALS pl d x → ∀ ar s k l v c now, PCX G V S K Ln (s_S d x ar s k l) (n_S d x s k l v c ar now) ar s k l v c now → ∀ σ, GST G pl V K ln v l now σ → RES G pl V K ln v (v + ((n_S d x s k l v c ar now).2.1.length : Nat)) l (ks_S d x) (n_S d x s k l v c ar now).1 σ (r_S G pl V K how d x s σ)) ∧
    (∀ L : List (ST d), VALl (VALS pl d) L → ∀ ar s k l v c now, PCX G V S K Ln (s_L d L ar s k l) (n_LL d L s k l v c ar now) ar s k l v c now → ∀ σ, GST G pl V K ln v l now σ → RES G pl V K ln v (v + ((n_LL d L s k l v c ar now).2.1.length : Nat)) l (ks_L d L) (n_LL d L s k l v c ar now).1 σ (r_L G pl V K how d L s σ)) := by
  have hb40 := hp.2.1
  refine PC_ind (P := fun d x ar s k l v c now => ∀ σ, GST G pl V K ln v l now σ → RES G pl V K ln v (v + ((n_S d x s k l v c ar now).2.1.length : Nat)) l (ks_S d x) (n_S d x s k l v c ar now).1 σ (r_S G pl V K how d x s σ)) (PL := fun d L ar s k l v c now => ∀ σ, GST G pl V K ln v l now σ → RES G pl V K ln v (v + ((n_LL d L s k l v c ar now).2.1.length : Nat)) l (ks_L d L) (n_LL d L s k l v c ar now).1 σ (r_L G pl V K how d L s σ)) ?_ ?_ ?_ ?_ ?_ ?_
  · intro x ar s k l v c now hx hc σ h
    rw [n_S_0, ks_S_0]
    exact RES_b hp hL hx hc h
  · intro d x ar s k l v c now hx hc σ h
    rw [n_S_b, ks_S_b]
    exact RES_b hp hL hx hc h
  · intro d t A B ar s k l v c now ht vA vB hc oA oB PA PB vA' vF vB' vJ cA cF cB cJ sB kB lB hS cA' cB' hA hB σ h
    rw [n_S_if, ks_S_if, r_S_if]
    obtain ⟨⟨eA, ePA, eB, ePB⟩, -⟩ := id hS
    rw [← eA] at hA
    rw [← eB] at hB
    have hlB : lB ≤ 40 := by have := cB'.2.2.2.1.2.2.1; omega
    exact RES_if hp hL ht ((KV_S (pl := pl) d).2 A vA) ((KV_S (pl := pl) d).2 B vB) hlB hc hS hA hB h
  · intro d t A B ar s k l v c now ht vA hc now1 oA PA n' vH vA' vF cH cA cF hS hn1 cA' hA σ h
    rw [n_S_wh, ks_S_wh, r_S_wh]
    obtain ⟨⟨eA, ePA, e1, en⟩, -, -, -, -, -, z1, z2, -⟩ := id hS
    rw [← eA] at hA
    obtain ⟨⟨v0, s0, k0, l0⟩, ⟨hN, hnz, hNV⟩, -, ⟨c1, c2, c3, c4⟩, -⟩ := hc
    rw [z2] at c4
    have l40 : l < 40 := by have := cA'.2.2.2.1.2.2.1; omega
    rw [z1, show v + ((n_wh t (tbits (ks_L d A) 0) (n_LL d A) s k l v c ar now).2.1.length : Int) = vF + n' by rw [z2]; omega]
    exact RES_wh hp hL ht hS hN hNV hn1.1 v0 (by omega) l0 l40 (fun x x0 x1 b => NTL_bit (d := d) ((KV_S (pl := pl) d).2 A vA) x0 x1 b) hA h
  · intro d ar s k l v c now hc σ h
    have e : v + ((n_LL d ([] : List (ST d)) s k l v c ar now).2.1.length : Int) = v := by show v + ((0 : Nat) : Int) = v; omega
    rw [e]
    exact ⟨RFR_refl, fun _ => ⟨h, Int.le_refl _⟩, fun q => tf_no q⟩
  · intro d x L ar s k l v c now vx vL oA PA oB PB eoA ePA eoB ePB en es cA cB hx hLl σ h
    have haft := aft_G cA.2.2.2.2.2 ePA
    rw [en, oap_1, oap_2, List.length_append, ks_L_c, r_L_c, haft]
    rw [← eoA] at hx
    rw [← eoB] at hLl
    obtain ⟨r1, r2, r3⟩ := hx σ h
    generalize r_S G pl V K how d x s σ = p at *
    obtain ⟨σ1, bo⟩ := p
    dsimp only at r1 r2 r3
    have f1 : RFR v l (ks_S d x ++ ks_L d L) σ σ1 := RFR_mono r1 (Int.le_refl _) (Int.le_refl _) (fun x hx => (NTL_app.mp hx).1)
    cases bo with
    | false =>
      rw [R_and_f rfl]
      exact ⟨f1, fun q => ft_no q, r3⟩
    | true =>
      rw [R_and_t rfl]
      obtain ⟨g1, ge⟩ := r2 rfl
      dsimp only
      obtain ⟨⟨v0, s0, k0, l0⟩, -, -, ⟨c1, c2, c3, c4⟩, -⟩ := cA
      have g1' : GST G pl V K ln (v + (oA.2.1.length : Nat)) (l + (PA.2.2.length : Nat)) oA.1 σ1 := ⟨g1.1, fun j j0 j1 => g1.2.1 j (by omega) j1, g1.2.2⟩
      obtain ⟨q1, q2, q3⟩ := hLl σ1 g1'
      refine ⟨RFR_trans f1 (RFR_mono q1 (by omega) (by omega) (fun x hx => (NTL_app.mp hx).2)), fun q => ⟨?_, ?_⟩, q3⟩
      · rw [show v + ((oA.2.1.length + oB.2.1.length : Nat) : Int) = v + (oA.2.1.length : Nat) + (oB.2.1.length : Nat) by omega]
        refine GST_l (q2 q).1 (fun j j0 j1 => ?_)
        rw [q1.2.2.1 j j1]
        exact g1.2.1 j j0 (by omega)
      · have := (q2 q).2
        omega
end RGF
