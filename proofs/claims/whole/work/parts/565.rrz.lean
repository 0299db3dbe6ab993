/-! while, and whole runs, in the reference -/
section RSA
variable {sc : Nat × (Nat → Int32)} {D : Nat} {bb : Bool} {Q : QP} {V S K Ln Cn : Nat} {ρ ρ' σ τ σ' : St} {G : GT} {pl ln : Int → Int} {how s k l x y v w m n o b i j mm ar c nn : Int} {t : TT} {now now1 : Int → Int} {ks ks' : List (Int × Int)} {z : SB} {set : Int} {pA : Int → Int → Int → Int → SO} {gA : NF} {oA : NO} {PA : SO} {vH vA vF cH cA cF : Int} {fA : RF}
theorem RCP_leave (hC : Cn ≤ 2000) (i0 : 0 ≤ c) (i1 : c < Cn) (hd : gD G c = (9, l, 0)) (l0 : 0 ≤ l) (l40 : l < 40) : RCP sc D bb G pl V S K Ln Cn how c (c + 1) σ (q_up σ 79 l 0, true) := by
  intro Q ρ l1 hx hl h70 kS kF
  refine X_leave (D := D + 3) hx hC h70 i0 i1 hd l0 l40 ?_
  have f1 : FRR ρ (q_up ρ 187 l 0) := FRR_a (by decide)
  exact kS rfl _ (RRX_of hx f1) (RLT_lv hl) f1 h70
theorem RCP_lp (hp : PRO G pl V S K Ln) (hL : LNO pl ln) (hC : Cn ≤ 2000) (ht : VALt pl t) (s0 : 0 ≤ s) (s1 : s < S) (hS : SWH G t set pA gA s k l v c ar now now1 oA PA nn vH vA vF cH cA cF) (hN : NWI now v) (hNV : NWV G now) (hn1 : NWI now1 vH) (v0 : 0 ≤ v) (hV : vF + nn ≤ V) (l0 : 0 ≤ l) (l40 : l < 40) (c0 : 0 ≤ c) (hc : cF + nn + 1 ≤ Cn) (hbit : ∀ x, 0 ≤ x → x ≤ 7 → q_bit set x = 0 → NTL ks x)
    (hA : ∀ σ, GST G pl V K ln vA (l + 1) (v_sn t vH now1) σ → RES G pl V K ln vA (vA + (oA.2.1.length : Nat)) (l + 1) ks oA.1 σ (fA (s + 1) σ))
    (hgo : ∀ σ, GST G pl V K ln vA (l + 1) (v_sn t vH now1) σ → HF how σ → RCP sc D bb G pl V S K Ln Cn how cA (cA + (oA.2.2.2.2.2.length : Nat)) σ (fA (s + 1) σ)) :
    ∀ (fu : Nat) (σ : St), 301 ≤ fu + σ 87 2 → LHD G pl V K ln (σ 87 2 + 1) (100 * (σ 87 2 + 1) + 81) (σ 87 2) v l s now1 σ → HF how σ → RCP sc D bb G pl V S K Ln Cn how cH (cF + nn + 1) σ (R_lp G fA l s fu σ) := by
  have hS' := hS
  obtain ⟨⟨eA, ePA, e1, en⟩, ⟨x1, x2, x3⟩, ⟨u1, u2, u3⟩, ⟨hR, hM, hLl, hP⟩, ⟨y1, y2, y3, y4⟩, ⟨d1, d2, d3, d4, d5, d6, d7, d8⟩, z1, z2, z3, z4⟩ := hS'
  have hb := hp.2.1
  have s40 : s < 40 := by omega
  have hR2 : (gR G s).2.2 = t := by rw [hR]
  have hR3 : 3 ≤ (gR G s).1.1 := by rw [hR]; show (3 : Int) ≤ 4; decide
  have hM2 : (gM G s).2.2.1 = (vH, vF, nn) := by rw [hM]
  have hM1 : (gM G s).2.1 = (v, ((v_many set 8 0 : Nat) : Int)) := by rw [hM]
  have n0 : 0 ≤ nn := by omega
  intro fu
  induction fu with
  | zero =>
    intro σ hf h _
    have := h.1.2.2.2.2.2.1
    omega
  | succ fu ih =>
    intro σ hf h hH
    have hst := h.1.2.2.2.2.2.1
    rw [R_lp]
    refine RCP_step hC (by omega) (by omega) d3 hst rfl (fun hs => ?_)
    have h1 := LHD_step h hs
    have e2 : q_up σ 87 2 (σ 87 2 + 1) 87 2 = σ 87 2 + 1 := q_up_eq _ _ _ _
    have hH1 : HF how (q_up σ 87 2 (σ 87 2 + 1)) := hH
    generalize q_up σ 87 2 (σ 87 2 + 1) = τ at *
    rw [hR2, hM1]
    dsimp only
    refine RCP_test hC (by omega) (by omega) d4 s0 s1 s40 hR2 hR3 ht (fun hh => ?_) (fun hh => ?_)
    · rw [if_pos hh, R_ans_t hR2 hM2 hh]
      have g0 := LHD_body hp hL ht hS hn1 v0 (by omega) l0 h1 hh
      have e3 : R_mk G vH nn τ 87 2 = σ 87 2 + 1 := e2
      have g1 := GST_of g0 (st := σ 87 2 + 1) e3 (by omega) (by omega) (by omega)
      rw [show cH + 1 + 1 = cH + 2 by omega]
      refine RCP_mk (w := vH) (d := (v_sd t (v_sv now1 t.2.1) (v_sv now1 t.2.2) 3 s).length) hp hC (by omega) (by omega) (by omega) (by omega) d5 ?_
      rw [← en, show cH + 2 + nn = cA by omega]
      have hH2 : HF how (R_mk G vH nn τ) := hH1
      refine RCP_and (c1 := cF - 1) (RCP_e (hgo _ g1 hH2) (by omega)) (fun hok => ?_)
      obtain ⟨r1, r2, -⟩ := hA _ g1
      obtain ⟨g2, ge⟩ := r2 hok
      have hH3 := HF_fr hH2 r1 g2.2.1
      have h3 := LHD_next hp ht hS hN hNV v0 (by omega) l0 hbit h1 r1 g2
      generalize (fA (s + 1) (R_mk G vH nn τ)).1 = σ2 at *
      refine RCP_jump hC (by omega) (by omega) d6 ?_
      refine RCP_mk (w := v) (d := v_many set 8 0) hp hC (by omega) v0 (by omega) (by omega) d2 ?_
      rw [show c + 1 + ((v_many set 8 0 : Nat) : Int) = cH by omega]
      have h3' : LHD G pl V K ln (R_mk G v (v_many set 8 0 : Nat) σ2 87 2 + 1) (100 * (R_mk G v (v_many set 8 0 : Nat) σ2 87 2 + 1) + 81) (R_mk G v (v_many set 8 0 : Nat) σ2 87 2) v l s now1 (R_mk G v (v_many set 8 0 : Nat) σ2) := ⟨BM_le h3.1 (Int.le_refl _) (show 100 * (σ2 87 2 + 1) ≤ 100 * (σ2 87 2 + 1) + 81 by omega) (Int.le_refl _), h3.2⟩
      have e4 : R_mk G v (v_many set 8 0 : Nat) σ2 87 2 = σ2 87 2 := rfl
      exact ih _ (by rw [e4]; omega) h3' hH3
    · rw [if_neg hh, R_ans_f hR2 hM2 hh]
      rw [z4] at d7
      refine RCP_mk (w := vF) (d := (v_sd t (v_sv now1 t.2.1) (v_sv now1 t.2.2) 3 s).length) hp hC (by omega) (by omega) (by omega) (by omega) d7 ?_
      rw [← en]
      exact RCP_leave hC (by omega) (by omega) d8 l0 l40
theorem R_ent_ne {a : Nat} (hB : BM m n o V ln σ) (h79 : ¬ a = 79) (h87 : ¬ a = 87) : R_ent G pl V K how l s σ a i = σ a i := by
  obtain ⟨-, u2, -⟩ := R_ah_ok (G := G) (pl := pl) (V := V) (l := l) (s := s) K 0 n σ hB
  unfold R_ent
  split
  · split
    · rw [q_up_ne _ _ _ _ h87, q_up_ne _ _ _ _ h79]; exact u2 a i (fun q => h87 q.1)
    · exact u2 a i (fun q => h87 q.1)
  · rfl
theorem R_mk_ent (hB : BM m n o V ln (R_mk G v mm σ)) : R_mk G v mm (q_upf (R_ent G pl V K how l s (R_mk G v mm σ)) 80 (σ 80)) = R_ent G pl V K how l s (R_mk G v mm σ) := by
  funext a i
  by_cases ha : a = 80
  · subst ha
    rw [R_mk_80, R_ent_ne hB (by decide) (by decide), R_mk_80, q_upf_eq]
    by_cases q : v ≤ i ∧ i < v + mm
    · rw [if_pos q, if_pos q, q_upf_ne _ _ _ (by decide), R_ent_ne hB (by decide) (by decide), R_mk_78]
    · rw [if_neg q, if_neg q]
  · rw [R_mk_ne ha, q_upf_ne _ _ _ ha]
theorem RCP_wh (hp : PRO G pl V S K Ln) (hL : LNO pl ln) (hC : Cn ≤ 2000) (hhow : how ≤ 2) (ht : VALt pl t) (s0 : 0 ≤ s) (s1 : s < S) (hS : SWH G t set pA gA s k l v c ar now now1 oA PA nn vH vA vF cH cA cF) (hN : NWI now v) (hNV : NWV G now) (hn1 : NWI now1 vH) (v0 : 0 ≤ v) (hV : vF + nn ≤ V) (l0 : 0 ≤ l) (l1 : l < Ln) (c0 : 0 ≤ c) (hc : cF + nn + 1 ≤ Cn) (hbit : ∀ x, 0 ≤ x → x ≤ 7 → q_bit set x = 0 → NTL ks x)
    (hA : ∀ σ, GST G pl V K ln vA (l + 1) (v_sn t vH now1) σ → RES G pl V K ln vA (vA + (oA.2.1.length : Nat)) (l + 1) ks oA.1 σ (fA (s + 1) σ))
    (hgo : ∀ σ, GST G pl V K ln vA (l + 1) (v_sn t vH now1) σ → HF how σ → RCP sc D bb G pl V S K Ln Cn how cA (cA + (oA.2.2.2.2.2.length : Nat)) σ (fA (s + 1) σ)) (h : GST G pl V K ln v l now σ) (hH : HF how σ) : RCP sc D bb G pl V S K Ln Cn how c (cF + nn + 1) σ (R_wh G pl V K how fA s σ) := by
  have hS' := hS
  obtain ⟨⟨eA, ePA, e1, en⟩, ⟨x1, x2, x3⟩, ⟨u1, u2, u3⟩, ⟨hR, hM, hLl, hP⟩, ⟨y1, y2, y3, y4⟩, ⟨d1, d2, d3, d4, d5, d6, d7, d8⟩, z1, z2, z3, z4⟩ := hS'
  have hb := hp.2.1
  have l40 : l < 40 := by omega
  have n0 : 0 ≤ nn := by omega
  have hR2 : (gR G s).2.2 = t := by rw [hR]
  have hR3 : 3 ≤ (gR G s).1.1 := by rw [hR]; show (3 : Int) ≤ 4; decide
  have hRl : (gR G s).2.1.2.1 = l := by rw [hR]
  have hM1 : (gM G s).2.1 = (v, ((v_many set 8 0 : Nat) : Int)) := by rw [hM]
  have hLs : (gL G l).1 = s := by rw [hLl]
  have hst := h.1.2.2.2.2.2.1
  unfold R_wh
  rw [hRl, hM1]
  dsimp only
  obtain ⟨a1, a2⟩ := LHD_enter hp hS hN hNV v0 (by omega) l0 l40 h
  obtain ⟨b1, b2, b3⟩ := R_ent_ok (how := how) (ks := (4, -1) :: ks) hp a1 a2 l0
  have e4 : R_mk G v (v_many set 8 0 : Nat) σ 87 2 = σ 87 2 := rfl
  rw [e4] at b3
  rw [← b3] at b1
  have hH2 : HF how (R_ent G pl V K how l s (R_mk G v (v_many set 8 0 : Nat) σ)) := by
    rcases hH with q | q
    · exact Or.inl q
    · by_cases h2 : how = 2
      · exact Or.inl h2
      · right
        intro j j0 j1
        unfold R_ent
        rw [if_neg (fun z => h2 z.1)]
        exact q j j0 j1
  have lp := RCP_lp (sc := sc) (D := D) (bb := bb) (Cn := Cn) (how := how) hp hL hC ht s0 s1 hS hN hNV hn1 v0 hV l0 l40 c0 hc hbit hA hgo 301 _ (by omega) b1 hH2
  intro Q ρ l1' hx hl h70 kS kF
  refine X_enter (D := D) (f := σ 80) (v := v) (mm := ((v_many set 8 0 : Nat) : Int)) (τ := R_mk G v ((v_many set 8 0 : Nat) : Int) σ) hx hp hl (fun j j0 j1 => ?_) hP l0 l1 hLs s0 s1 hR2 hR3 ht a1.1 (by omega) (by omega) a2 hhow hC h70 c0 (by omega) d1 (fun ρ' q1 q2 q3 q4 => ?_)
  · rw [R_mk_80, R_mk_78]
  · have mk := RCP_mk (sc := sc) (D := D) (bb := bb) (Cn := Cn) (how := how) (c := c + 1) (w := v) (d := v_many set 8 0) (e := cF + nn + 1) (σ := q_upf (R_ent G pl V K how l s (R_mk G v ((v_many set 8 0 : Nat) : Int) σ)) 80 (σ 80)) (r := R_lp G fA l s 301 (R_ent G pl V K how l s (R_mk G v ((v_many set 8 0 : Nat) : Int) σ))) hp hC (by omega) v0 (by omega) (by omega) d2 (by
      rw [R_mk_ent a1.1, show c + 1 + ((v_many set 8 0 : Nat) : Int) = cH by omega]
      exact lp)
    exact mk Q ρ' l1' q1 q2 q4 (fun z ρ2 w1 w2 w3 w4 => kS z ρ2 w1 w2 (FRR_trans q3 w3) w4) (fun z ρ2 w1 w2 w3 => kF z ρ2 w1 (FRE_t q3 w2) w3)
end RSA
section RSB
variable {V S K Ln Cn : Nat} {G : GT} {pl ln : Int → Int} {how : Int}
def RCS (G : GT) (pl ln : Int → Int) (V S K Ln Cn : Nat) (how : Int) : PST := fun d x ar s k l v c now => ∀ (sc : Nat × (Nat → Int32)) (D : Nat) (bb : Bool) (σ : St), 0 ≤ c → c + ((n_S d x s k l v c ar now).2.2.2.2.2.length : Nat) ≤ Cn → GST G pl V K ln v l now σ → HF how σ → RCP sc D bb G pl V S K Ln Cn how c (c + ((n_S d x s k l v c ar now).2.2.2.2.2.length : Nat)) σ (r_S G pl V K how d x s σ)
def RCL (G : GT) (pl ln : Int → Int) (V S K Ln Cn : Nat) (how : Int) : PLT := fun d L ar s k l v c now => ∀ (sc : Nat × (Nat → Int32)) (D : Nat) (bb : Bool) (σ : St), 0 ≤ c → c + ((n_LL d L s k l v c ar now).2.2.2.2.2.length : Nat) ≤ Cn → GST G pl V K ln v l now σ → HF how σ → RCP sc D bb G pl V S K Ln Cn how c (c + ((n_LL d L s k l v c ar now).2.2.2.2.2.length : Nat)) σ (r_L G pl V K how d L s σ)
theorem RCO (hp : PRO G pl V S K Ln) (hL : LNO pl ln) (hC : Cn ≤ 2000) (hhow : 0 ≤ how ∧ how ≤ 2) : ∀ d : Nat, (∀ x : ST d, VALS pl d x → ∀ ar s k l v c now, PCX G V S K Ln (s_S d x ar s k l) (n_S d x s k l v c ar now) ar s k l v c now → RCS G pl ln V S K Ln Cn how d x ar s k l v c now) ∧ (∀ L : List (ST d), VALl (VALS pl d) L → ∀ ar s k l v c now, PCX G V S K Ln (s_L d L ar s k l) (n_LL d L s k l v c ar now) ar s k l v c now → RCL G pl ln V S K Ln Cn how d L ar s k l v c now) := by
  have hb := hp.2.1
  refine PC_ind (P := RCS G pl ln V S K Ln Cn how) (PL := RCL G pl ln V S K Ln Cn how) ?_ ?_ ?_ ?_ ?_ ?_
  · intro x ar s k l v c now hx hcx sc D bb σ c0 c1 h hH
    exact RCP_b hp hL hC hhow hx hcx c0 c1 h hH
  · intro d x ar s k l v c now hx hcx sc D bb σ c0 c1 h hH
    exact RCP_b hp hL hC hhow hx hcx c0 c1 h hH
  · intro d t A B ar s k l v c now ht vA vB hcx oA oB PA PB vA' vF vB' vJ cA cF cB cJ sB kB lB hS cxA cxB hA hB sc D bb σ c0 c1 h hH
    obtain ⟨⟨eA, ePA, eB, ePB⟩, ⟨x1, x2, x3, x4⟩, ⟨u1, u2, u3, u4⟩, ⟨w1, w2, w3⟩, -, -, -, z1, z2, z3, -⟩ := id hS
    obtain ⟨⟨v0, s0, k0, l0⟩, ⟨hN, hnz, hNV⟩, -, ⟨e1, e2, e3, e4⟩, -, -⟩ := hcx
    rw [n_S_if] at c1 ⊢
    rw [z2] at e4
    have hlen : c + ((n_if t (tbits (ks_L d A ++ ks_L d B) 0) (n_LL d A) (n_LL d B) s k l v c ar now).2.2.2.2.2.length : Nat) = cJ + (v_many (tbits (ks_L d A ++ ks_L d B) 0) 8 0 : Nat) := by rw [z3]; omega
    rw [hlen] at c1 ⊢
    rw [r_S_if]
    refine RCP_if hp hL hC ht hN v0 l0 s0 (by have := cxA.2.2.2.1.1; omega) (by omega) c0 c1 hS (fun q hq hH' => ?_) (fun q hq hH' => ?_) h hH
    · have := hA sc D bb q (by omega)
      rw [← eA] at this
      exact this (by omega) hq hH'
    · have := hB sc D bb q (by omega)
      rw [← eB] at this
      exact this (by omega) hq hH'
  · intro d t A B ar s k l v c now ht vA hcx now1 oA PA n' vH vA' vF cH cA cF hS hn1 cxA hA sc D bb σ c0 c1 h hH
    obtain ⟨⟨eA, ePA, e1', en⟩, ⟨x1, x2, x3⟩, ⟨u1, u2, u3⟩, -, -, -, z1, z2, z3, -⟩ := id hS
    obtain ⟨⟨v0, s0, k0, l0⟩, ⟨hN, hnz, hNV⟩, -, ⟨e1, e2, e3, e4⟩, -, -⟩ := hcx
    rw [n_S_wh] at c1 ⊢
    rw [z2] at e4
    have hlen : c + ((n_wh t (tbits (ks_L d A) 0) (n_LL d A) s k l v c ar now).2.2.2.2.2.length : Nat) = cF + n' + 1 := by rw [z3]; omega
    rw [hlen] at c1 ⊢
    rw [r_S_wh]
    have cxA' := cxA
    rw [eA, ePA] at cxA'
    have rsA := (RES_S (how := how) hp hL d).2 A vA _ _ _ _ _ _ _ cxA'
    rw [← eA] at rsA
    have n0 : 0 ≤ n' := by omega
    refine RCP_wh hp hL hC hhow.2 ht s0 (by have := cxA.2.2.2.1.1; omega) hS hN hNV hn1.1 v0 (by omega) l0 (by have := cxA.2.2.2.1.2.2.1; omega) c0 c1 (fun x x0 x1 b => NTL_bit (d := d) ((KV_S (pl := pl) d).2 A vA) x0 x1 b) rsA (fun q hq hH' => ?_) h hH
    have := hA sc D bb q (by omega)
    rw [← eA] at this
    exact this (by omega) hq hH'
  · intro d ar s k l v c now hcx sc D bb σ c0 c1 h hH
    have e : c + ((n_LL d ([] : List (ST d)) s k l v c ar now).2.2.2.2.2.length : Int) = c := by show c + ((0 : Nat) : Int) = c; omega
    rw [e]
    exact RCP_done
  · intro d x L ar s k l v c now vx vL oA PA oB PB eoA ePA eoB ePB en es cxA cxB hx hLl sc D bb σ c0 c1 h hH
    have haft := aft_G cxA.2.2.2.2.2 ePA
    have cxA' := cxA
    rw [eoA, ePA] at cxA'
    have rsx := (RES_S (how := how) hp hL d).1 x vx _ _ _ _ _ _ _ cxA' σ h
    rw [← eoA] at rsx
    rw [en, oap_6, List.length_append] at c1 ⊢
    rw [r_L_c, haft]
    have hx' := hx sc D bb σ c0
    rw [← eoA] at hx'
    refine RCP_and (hx' (by omega) h hH) (fun hok => ?_)
    obtain ⟨r1, r2, -⟩ := rsx
    obtain ⟨g1, -⟩ := r2 hok
    obtain ⟨⟨v0, s0, k0, l0⟩, -⟩ := cxA
    have g1' : GST G pl V K ln (v + (oA.2.1.length : Nat)) (l + (PA.2.2.length : Nat)) oA.1 (r_S G pl V K how d x s σ).1 := ⟨g1.1, fun j j0 j1 => g1.2.1 j (by omega) j1, g1.2.2⟩
    have hl' := hLl sc D bb (r_S G pl V K how d x s σ).1 (by omega)
    rw [← eoB] at hl'
    rw [show c + ((oA.2.2.2.2.2.length + oB.2.2.2.2.2.length : Nat) : Int) = c + (oA.2.2.2.2.2.length : Nat) + (oB.2.2.2.2.2.length : Nat) by omega]
    exact hl' (by omega) g1' (HF_fr hH r1 g1.2.1)
end RSB
