/-! while in a run -/
section RGL
variable {G : GT} {pl ln : Int → Int} {V S K Ln : Nat} {m m' n n' o o' v v' w l l' k s x y how ar c nn : Int} {ks ks' : List (Int × Int)} {now now' now1 now2 : Int → Int} {σ σ' σ1 σ2 σ3 τ : St} {t : TT} {set : Int} {pA : Int → Int → Int → Int → SO} {gA : NF} {oA : NO} {PA : SO} {vH vA vF cH cA cF : Int}
/-- a loop that counts: what is told of its sides -/
theorem cnt_sd (hS : SWH G t set pA gA s k l v c ar now now1 oA PA nn vH vA vF cH cA cF) {root : Int} (h : gCnt G l root) (hr0 : 0 ≤ root) : (t.2.1.1 = 3 ∧ now1 t.2.1.2 = root) ∧ ¬ t.1 = 2 ∧ v_sv now1 t.2.2 < v ∧ (v ≤ root ∧ root < v + (v_many set 8 0 : Nat)) ∧ (RT G (gV G root).1.2.2.2.2).1 = root ∧ 0 ≤ (RT G (gV G root).1.2.2.2.2).2 := by
  obtain ⟨-, -, -, ⟨hR, hM, hL, hP⟩, -⟩ := hS
  obtain ⟨g1, ⟨g2, g3⟩, ⟨g4, g5⟩, g6⟩ := h
  rw [hL] at g4 g5 g6
  rw [hP] at g1 g6
  dsimp only at g1 g4 g5 g6
  rw [hR] at g4
  rw [hM] at g5 g6
  dsimp only at g4 g5 g6
  refine ⟨?_, g4, g6, g1, g2, g3⟩
  unfold v_sv at g5
  by_cases q : t.2.1.1 = 3
  · rw [if_pos q] at g5; exact ⟨q, g5⟩
  · rw [if_neg q] at g5; omega
theorem LHD_step (h : LHD G pl V K ln m n o v l s now1 σ) (hs : σ 87 2 < 300) : LHD G pl V K ln m n o v l s now1 (q_up σ 87 2 (σ 87 2 + 1)) := ⟨BM_step h.1 hs, h.2⟩
/-- the test holds: into the block -/
theorem LHD_body (hp : PRO G pl V S K Ln) (hL : LNO pl ln) (ht : VALt pl t) (hS : SWH G t set pA gA s k l v c ar now now1 oA PA nn vH vA vF cH cA cF) (hn1 : NWI now1 vH) (v0 : 0 ≤ v) (hV : vA ≤ V) (l0 : 0 ≤ l) (h : LHD G pl V K ln m n o v l s now1 σ) (hh : R_h t σ = true) : GSM G pl V K ln m n o vA (l + 1) (v_sn t vH now1) (R_mk G vH nn σ) := by
  have hS' := hS
  obtain ⟨⟨eA, ePA, e1, en⟩, ⟨x1, x2, x3⟩, -, ⟨hR, hM, hLl, hP⟩, ⟨y1, y2, y3, y4⟩, -⟩ := hS'
  obtain ⟨h1, h2, h3, h4, h5⟩ := h
  rw [en]
  refine ⟨BM_mk hp h1, fun j j0 j1 => h2 j (by omega) j1, INV_sn hp hL h3 (fun b b0 b1 => (h1.2.2.2.1.1 b b0 b1).1) ht hn1 (Int.le_refl _) (by omega) y2 (by omega) (Or.inl ⟨rfl, hh⟩), fun j j0 j1 hj => ?_⟩
  by_cases e : j = l
  · subst e
    have hG := h5 hj
    rw [hP]
    refine ⟨by dsimp only; omega, fun q q0 q1 hq => ?_⟩
    have hl := gdr_l hp q0 q1 hq (by omega)
    have hr := gdr_root hp hq hl.1 hl.2
    have hb := root_b hp q0 q1
    rw [hP] at hr
    dsimp only at hr
    have el : R_low G q (R_mk G vH ((v_sd t (v_sv now1 t.2.1) (v_sv now1 t.2.2) 3 s).length : Nat) σ) = R_low G q σ := by unfold R_low; rw [R_mk_lt (by omega)]
    rw [el]
    obtain ⟨a1, a2⟩ := hG q q0 q1 hq
    refine ⟨a1, fun hu => ?_⟩
    have a2 := a2 hu
    show R_low G q σ < σ 85 (gK G q).2.1
    have hw := gdr_why hq (by omega)
    unfold R_hi at a2
    rcases hw with ⟨w1, -⟩ | ⟨w1, w2⟩
    · rw [if_pos w1] at a2; exact a2
    · rw [if_neg (by omega), hR] at a2
      dsimp only at a2
      obtain ⟨⟨c1, c2⟩, c3, c4, c5, -⟩ := cnt_sd hS w2 hb.1
      obtain ⟨hT, hl', hr'⟩ := ht
      have hx : 0 ≤ t.2.1.2 ∧ t.2.1.2 ≤ 7 := by unfold VALs at hl'; omega
      have hi := (h3 _ hx.1 hx.2).2.1
      rw [c2] at hi
      have es : R_sd t.2.1 σ = σ 78 t.2.1.2 := by unfold R_sd; rw [if_pos c1]
      have hH := (R_h_HLD hT).mp hh
      rw [es] at hH
      unfold HLD at hH
      unfold R_low
      rw [hi]
      split at a2 <;> omega
  · obtain ⟨a1, a2⟩ := h4 j j0 j1 e hj
    exact ⟨by omega, GIL_fr hp j0 a1 a2 (fun i i0 i1 => R_mk_lt (by omega)) (fun i => R_mk_ne (by decide))⟩
/-- the test fails: the loop is left -/
theorem LHD_exit (hp : PRO G pl V S K Ln) (hL : LNO pl ln) (ht : VALt pl t) (hS : SWH G t set pA gA s k l v c ar now now1 oA PA nn vH vA vF cH cA cF) (hn1 : NWI now1 vH) (v0 : 0 ≤ v) (hV : vF + nn ≤ V) (l0 : 0 ≤ l) (h : LHD G pl V K ln m n o v l s now1 σ) (hh : ¬ R_h t σ = true) : GSM G pl V K ln m n o (vF + nn) l (v_sn t vF now1) (q_up (R_mk G vF nn σ) 79 l 0) := by
  have hS' := hS
  obtain ⟨⟨eA, ePA, e1, en⟩, ⟨x1, x2, x3⟩, -, ⟨hR, hM, hLl, hP⟩, ⟨y1, y2, y3, y4⟩, -, z1, z2, z3, z4⟩ := hS'
  obtain ⟨h1, h2, h3, h4, h5⟩ := h
  have n0 : 0 ≤ nn := by omega
  have hI := INV_sn hp hL h3 (fun b b0 b1 => (h1.2.2.2.1.1 b b0 b1).1) ht hn1 (show vH ≤ vF by omega) (by omega) y4 (by omega) (Or.inr ⟨rfl, hh⟩)
  rw [z4, ← en] at hI
  refine ⟨BM_fl (BM_mk hp h1) (Or.inl rfl), fun j j0 j1 => ?_, hI, fun j j0 j1 hj => ?_⟩
  · by_cases e : j = l
    · subst e; exact q_up_eq _ _ _ _
    · rw [q_up_ne2 _ _ _ e]; exact h2 j (by omega) j1
  · by_cases e : j = l
    · subst e; rw [q_up_eq] at hj; omega
    · rw [q_up_ne2 _ _ _ e] at hj
      obtain ⟨a1, a2⟩ := h4 j j0 j1 e hj
      exact ⟨by omega, GIL_fr hp j0 a1 a2 (fun i i0 i1 => R_mk_lt (by omega)) (fun i => rfl)⟩
/-- behind the block: at the head again -/
theorem LHD_next (hp : PRO G pl V S K Ln) (ht : VALt pl t) (hS : SWH G t set pA gA s k l v c ar now now1 oA PA nn vH vA vF cH cA cF) (hN : NWI now v) (hNV : NWV G now) (v0 : 0 ≤ v) (hV : vF ≤ V) (l0 : 0 ≤ l) (hbit : ∀ x, 0 ≤ x → x ≤ 7 → q_bit set x = 0 → NTL ks x) (h : LHD G pl V K ln m n o v l s now1 σ) (fr : RFR vA (l + 1) ks (R_mk G vH nn σ) σ2) (g2 : GSM G pl V K ln m' n' o' v' (l + 1) oA.1 σ2) : LHD G pl V K ln m' n' o' v l s now1 (R_mk G v (v_many set 8 0 : Nat) σ2) := by
  have hS' := hS
  obtain ⟨⟨eA, ePA, e1, en⟩, ⟨x1, x2, x3⟩, -, ⟨hR, hM, hLl, hP⟩, ⟨y1, y2, y3, y4⟩, -⟩ := hS'
  obtain ⟨h1, h2, h3, h4, h5⟩ := h
  obtain ⟨b1, b2, b3, b4⟩ := g2
  have n0 : 0 ≤ nn := by omega
  have f80 : ∀ j, j < v + (v_many set 8 0 : Nat) → σ2 80 j = σ 80 j := fun j hj => by rw [fr.2.2.2 j (by omega), R_mk_lt (by omega)]
  have f79 : ∀ j, j ≤ l → σ2 79 j = σ 79 j := fun j hj => by rw [fr.2.2.1 j (by omega)]; rfl
  have f85 : ∀ i, σ2 85 i = σ 85 i := fun i => by rw [fr.1 85 i (by unfold RUC; omega)]; rfl
  have f78 : ∀ x, 0 ≤ x → x ≤ 7 → q_bit set x = 0 → σ2 78 x = σ 78 x := fun x x0 x1 hb => by rw [fr.2.1 x x0 x1 (hbit x x0 x1 hb)]; rfl
  have nat : ∀ x, 0 ≤ x → x ≤ 7 → q_bit set x = 0 → now1 x = now x := fun x x0 x1 hb => by
    rw [e1]; exact (v_now_at (set := set) 8 0 v now (by decide) (by decide) x x0 x1).2 (Or.inr (Or.inr hb))
  refine ⟨BM_mk hp b1, fun j j0 j1 => b2 j (by omega) j1, ?_, fun j j0 j1 e hj => ?_, fun hj => ?_⟩
  · rw [e1]
    refine INV_round hp y1 v0 (by omega) hNV (Or.inr b3) (fun x x0 x1 hb => ?_) hN
    have hi := h3 x x0 x1
    rw [nat x x0 x1 hb] at hi
    have hn := hN x x0 x1
    exact IWX_fr hp hn.1 (by omega) hi (f78 x x0 x1 hb) (fun j j0 j1 => f80 j (by omega))
  · have hjl : j < l := by
      by_cases q : l < j
      · have := b2 j (by omega) j1
        have : σ2 79 j = 1 := hj
        omega
      · omega
    have hj' : σ 79 j = 1 := by rw [← f79 j (by omega)]; exact hj
    obtain ⟨a1, a2⟩ := h4 j j0 j1 e hj'
    exact ⟨a1, GIL_fr hp j0 a1 a2 (fun i i0 i1 => by rw [R_mk_lt i1, f80 i (by omega)]) (fun i => by rw [R_mk_ne (by decide), f85])⟩
  · have hj' : σ 79 l = 1 := by rw [← f79 l (Int.le_refl _)]; exact hj
    have hG := h5 hj'
    intro q q0 q1 hq
    obtain ⟨a1, a2⟩ := hG q q0 q1 hq
    have hb := root_b hp q0 q1
    have hw := gdr_why hq (by omega)
    have e85 : R_mk G v (v_many set 8 0 : Nat) σ2 85 (gK G q).2.1 = σ 85 (gK G q).2.1 := by rw [R_mk_ne (by decide), f85]
    rw [e85]
    rcases hw with ⟨w1, w2⟩ | ⟨w1, w2⟩
    · rw [hP] at w2
      dsimp only at w2
      have el : R_low G q (R_mk G v (v_many set 8 0 : Nat) σ2) = R_low G q σ := by unfold R_low; rw [R_mk_lt (by omega), f80 _ (by omega)]
      unfold R_hi at a2 ⊢
      rw [if_pos w1] at a2 ⊢
      rw [el]
      exact ⟨a1, a2⟩
    · obtain ⟨⟨c1, c2⟩, c3, c4, c5, c6, c7⟩ := cnt_sd hS w2 hb.1
      obtain ⟨z, z0, z1, hg, -⟩ := v_round_at 8 0 v (by decide) (by decide) y1 (RT G (gC G q).1).1 c5.1 c5.2
      have i3 := (b3 z z0 z1).2.2
      rw [hg] at c6 c7
      have c6' : (RT G (oA.1 z)).1 = (RT G (gC G q).1).1 := c6
      have c7' : 0 ≤ (RT G (oA.1 z)).2 := c7
      rw [c6', f80 _ c5.2] at i3
      have er : R_mk G v (v_many set 8 0 : Nat) σ2 80 (RT G (gC G q).1).1 = σ2 78 z := by
        rw [R_mk_80, if_pos c5, hg]; rfl
      refine ⟨fun hd => ?_, fun hu => ?_⟩
      · have := a1 hd
        unfold R_low at this ⊢
        rw [er]
        omega
      · have a2 := a2 hu
        unfold R_hi at a2 ⊢
        rw [if_neg (by omega), hR] at a2 ⊢
        dsimp only at a2 ⊢
        have es : R_sd t.2.2 (R_mk G v (v_many set 8 0 : Nat) σ2) = R_sd t.2.2 σ := by
          unfold R_sd
          rw [R_mk_78, R_mk_ne (by decide), f85]
          by_cases q3 : t.2.2.1 = 3
          · rw [if_pos q3, if_pos q3]
            obtain ⟨hT, hl', hr'⟩ := ht
            have hx : 0 ≤ t.2.2.2 ∧ t.2.2.2 ≤ 7 := by unfold VALs at hr'; omega
            refine f78 _ hx.1 hx.2 ?_
            unfold v_sv at c4
            rw [if_pos q3, e1] at c4
            have hna := (v_now_at (set := set) 8 0 v now (by decide) (by decide) t.2.2.2 hx.1 hx.2).1 hx.1 (by omega)
            by_cases hb : q_bit set t.2.2.2 = 0
            · exact hb
            · have := (hna hb).1
              omega
          · rw [if_neg q3, if_neg q3]
        rw [es]
        exact a2
/-- a loop is come to -/
theorem LHD_enter (hp : PRO G pl V S K Ln) (hS : SWH G t set pA gA s k l v c ar now now1 oA PA nn vH vA vF cH cA cF) (hN : NWI now v) (hNV : NWV G now) (v0 : 0 ≤ v) (hV : vH ≤ V) (l0 : 0 ≤ l) (l40 : l < 40) (h : GSM G pl V K ln m n o v l now σ) : LHD G pl V K ln m n o v l s now1 (R_mk G v (v_many set 8 0 : Nat) σ) ∧ R_mk G v (v_many set 8 0 : Nat) σ 79 l = 0 := by
  obtain ⟨⟨eA, ePA, e1, en⟩, ⟨x1, x2, x3⟩, -, ⟨hR, hM, hLl, hP⟩, ⟨y1, y2, y3, y4⟩, -⟩ := hS
  obtain ⟨b1, b2, b3, b4⟩ := h
  have z0 : R_mk G v (v_many set 8 0 : Nat) σ 79 l = 0 := b2 l (Int.le_refl _) l40
  refine ⟨⟨BM_mk hp b1, fun j j0 j1 => b2 j (by omega) j1, ?_, fun j j0 j1 e hj => ?_, fun hj => ?_⟩, z0⟩
  · rw [e1]
    exact INV_round hp y1 v0 (by omega) hNV (Or.inl b3) (fun x x0 x1 hb => b3 x x0 x1) hN
  · obtain ⟨a1, a2⟩ := b4 j j0 j1 hj
    exact ⟨a1, GIL_fr hp j0 a1 a2 (fun i i0 i1 => R_mk_lt i1) (fun i => R_mk_ne (by decide))⟩
  · rw [z0] at hj; omega
theorem R_ent_ok (hp : PRO G pl V S K Ln) (h : LHD G pl V K ln m n o v l s now1 σ) (h0 : σ 79 l = 0) (l0 : 0 ≤ l) : LHD G pl V K ln m (n + 81) o v l s now1 (R_ent G pl V K how l s σ) ∧ RFR v l ks σ (R_ent G pl V K how l s σ) ∧ R_ent G pl V K how l s σ 87 2 = σ 87 2 := by
  obtain ⟨h1, h2, h3, h4, h5⟩ := h
  have hK := hp.2.1
  obtain ⟨r1, r2, r3⟩ := R_ah_ok (G := G) (pl := pl) (V := V) (l := l) (s := s) K 0 n σ h1
  have base : LHD G pl V K ln m (n + 81) o v l s now1 σ := ⟨BM_le h1 (Int.le_refl _) (by omega) (Int.le_refl _), h2, h3, h4, h5⟩
  -- what is asked changes counts alone
  have mv : ∀ σ' : St, (∀ a i, ¬ (a = 87 ∧ (i = 4 ∨ i = 6)) → σ' a i = σ a i) → INV G pl V ln now1 σ' ∧ (∀ j, GIL G pl V K σ j → GIL G pl V K σ' j) := by
    intro σ' hh
    refine ⟨fun x x0 x1 => ?_, fun j hj q q0 q1 hq => ?_⟩
    · obtain ⟨i1, i2, i3⟩ := h3 x x0 x1
      unfold IWX
      rw [hh 78 _ (by omega), hh 80 _ (by omega), hh 80 _ (by omega)]
      exact ⟨i1, i2, i3⟩
    · have := hj q q0 q1 hq
      unfold R_low at this ⊢
      rw [hh 80 _ (by omega), hh 85 _ (by omega)]
      exact this
  obtain ⟨mv1, mv2⟩ := mv _ r2
  have fr : RFR v l ks σ (R_ah G pl V l s K 0 σ).1 := ⟨fun a i ha => r2 a i (fun q => ha (by have := q.1; unfold RUC; omega)), fun x _ _ _ => r2 78 x (by omega), fun j _ => r2 79 j (by omega), fun j _ => r2 80 j (by omega)⟩
  have st : (R_ah G pl V l s K 0 σ).1 87 2 = σ 87 2 := r2 87 2 (by omega)
  unfold R_ent
  by_cases hg : how = 2 ∧ 0 < gdn G pl V K l
  · rw [if_pos hg]
    by_cases hr : (R_ah G pl V l s K 0 σ).2 = true
    · rw [if_pos hr]
      have r3 := r3 hr
      generalize (R_ah G pl V l s K 0 σ).1 = σa at *
      refine ⟨⟨?_, fun j j0 j1 => ?_, mv1, fun j j0 j1 e hj => ?_, fun _ q q0 q1 hq => ?_⟩, RFR_trans fr (RFR_trans (RFR_79 (Int.le_refl _)) RFR_87), st⟩
      · have b := BM_fl (l := l) r1 (y := 1) (Or.inr rfl)
        obtain ⟨b1, ⟨c1, c2, c3⟩, b3⟩ := b
        refine ⟨b1, ?_, b3⟩
        obtain ⟨-, ⟨-, d2, -⟩, -⟩ := h1
        have c2' : 0 ≤ σa 87 5 ∧ σa 87 5 ≤ n := by rw [r2 87 5 (by omega)]; exact d2
        have c1' : 0 ≤ σa 87 4 ∧ σa 87 4 ≤ n + 2 * (K : Int) := c1
        have c3' : 0 ≤ σa 87 6 ∧ σa 87 6 ≤ n + 2 * (K : Int) := c3
        show (0 ≤ σa 87 4 ∧ σa 87 4 ≤ n + 81) ∧ (0 ≤ σa 87 5 + 1 ∧ σa 87 5 + 1 ≤ n + 81) ∧ (0 ≤ σa 87 6 ∧ σa 87 6 ≤ n + 81)
        omega
      · show q_up σa 79 l 1 79 j = 0
        rw [q_up_ne2 _ _ _ (by omega), r2 79 j (by omega)]
        exact h2 j j0 j1
      · have hj2 : q_up σa 79 l 1 79 j = 1 := hj
        rw [q_up_ne2 _ _ _ e, r2 79 j (by omega)] at hj2
        obtain ⟨a1, a2⟩ := h4 j j0 j1 e hj2
        exact ⟨a1, mv2 j a2⟩
      · have a := r3 q q0 (by omega) hq
        have e1 : R_low G q (q_up (q_up σa 79 l 1) 87 5 (σa 87 5 + 1)) = R_low G q σ := by
          show R_low G q σa = R_low G q σ
          unfold R_low; rw [r2 80 _ (by omega)]
        have e2 : R_hi G pl V q s (q_up (q_up σa 79 l 1) 87 5 (σa 87 5 + 1)) = R_hi G pl V q s σ := by
          unfold R_hi
          rw [e1]
          have e3 : ∀ z, R_sd z (q_up (q_up σa 79 l 1) 87 5 (σa 87 5 + 1)) = R_sd z σ := by
            intro z
            show R_sd z σa = R_sd z σ
            unfold R_sd
            rw [r2 78 _ (by omega), r2 85 _ (by omega)]
          rw [e3]
        rw [e1, e2]
        have e4 : q_up (q_up σa 79 l 1) 87 5 (σa 87 5 + 1) 85 (gK G q).2.1 = σ 85 (gK G q).2.1 := r2 85 _ (by omega)
        rw [e4]
        exact a
    · rw [if_neg hr]
      refine ⟨⟨BM_le r1 (Int.le_refl _) (by omega) (Int.le_refl _), fun j j0 j1 => by rw [r2 79 j (by omega)]; exact h2 j j0 j1, mv1, fun j j0 j1 e hj => ?_, fun hj => ?_⟩, fr, st⟩
      · rw [r2 79 j (by omega)] at hj
        obtain ⟨a1, a2⟩ := h4 j j0 j1 e hj
        exact ⟨a1, mv2 j a2⟩
      · rw [r2 79 l (by omega)] at hj; omega
  · rw [if_neg hg]
    exact ⟨base, RFR_refl, rfl⟩
end RGL
