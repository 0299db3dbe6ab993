/-! pieces of a run in the reference -/
/-- from code c on: the piece is done and code e is next, or the run has ended -/
def RCP (sc : Nat × (Nat → Int32)) (D : Nat) (bb : Bool) (G : GT) (pl : Int → Int) (V S K Ln Cn : Nat) (how c e : Int) (σ : St) (r : St × Bool) : Prop := ∀ (Q : QP) (ρ : St) (l1 : V2), RRX ρ G pl V S K Ln Cn → RLT ρ σ pl V how → ρ 136 70 = -1 →
  (r.2 = true → ∀ ρ', RRX ρ' G pl V S K Ln Cn → RLT ρ' r.1 pl V how → FRR ρ ρ' → ρ' 136 70 = -1 → qx sc (D + 5) 209 130 [vr 136, l1, vi e] [] (0, 0) bb ρ' Q) →
  (r.2 = false → ∀ ρ', RLT ρ' r.1 pl V how → FRE ρ ρ' → ρ' 136 70 = r.1 87 0 → Q (.inl none) bb ρ') → qx sc (D + 5) 209 130 [vr 136, l1, vi c] [] (0, 0) bb ρ Q
section RRZ
variable {sc : Nat × (Nat → Int32)} {D : Nat} {bb : Bool} {V S K Ln Cn : Nat} {ρ ρ' σ τ σ' : St} {G : GT} {pl ln : Int → Int} {how s k l x y v w m n o b i j mm ar c nn : Int} {t : TT} {now now1 : Int → Int} {ks ks' : List (Int × Int)} {z : SB} {set : Int}
/-- a step at the beginning -/
theorem RCP_step {r : St × Bool} {e : Int} {f : St → St × Bool} (hC : Cn ≤ 2000) (i0 : 0 ≤ c) (i1 : c < Cn) (hd : gD G c = (0, s, 0)) (hst : 0 ≤ σ 87 2 ∧ σ 87 2 ≤ 300) (hr : r = R_and (R_step σ) f) (h1 : σ 87 2 < 300 → RCP sc D bb G pl V S K Ln Cn how (c + 1) e (q_up σ 87 2 (σ 87 2 + 1)) (f (q_up σ 87 2 (σ 87 2 + 1)))) : RCP sc D bb G pl V S K Ln Cn how c e σ r := by
  intro Q ρ l1 hx hl h70 kS kF
  have e72 : ρ 136 72 = σ 87 2 := hl.2.2.2.2.2.1.2.1
  refine X_step (D := D + 3) hx hC h70 i0 i1 hd (by omega) (fun g => ?_) (fun g => ?_)
  · have hs : σ 87 2 < 300 := by omega
    rw [hr, R_step_t hs, R_and_t rfl] at kS kF
    have f1 : FRR ρ (q_up ρ 136 72 (ρ 136 72 + 1)) := FRR_136 (by decide)
    exact h1 hs Q _ l1 (RRX_of hx f1) (RLT_st hl) h70 (fun q ρ' a1 a2 a3 a4 => kS q ρ' a1 a2 (FRR_trans f1 a3) a4) (fun q ρ' a1 a2 a3 => kF q ρ' a1 (FRE_t f1 a2) a3)
  · have hs : ¬ σ 87 2 < 300 := by omega
    rw [hr, R_step_f hs, R_and_f rfl] at kF
    exact kF rfl _ hl FRE_70 rfl
/-- nothing is left to do -/
theorem RCP_done {e : Int} : RCP sc D bb G pl V S K Ln Cn how e e σ (σ, true) := fun Q ρ l1 hx hl h70 kS _ => kS rfl ρ hx hl FRR_refl h70
theorem RCP_e {r : St × Bool} {e e' : Int} (h : RCP sc D bb G pl V S K Ln Cn how c e σ r) (he : e = e') : RCP sc D bb G pl V S K Ln Cn how c e' σ r := he ▸ h
/-- one piece behind another -/
theorem RCP_and {p : St × Bool} {f : St → St × Bool} {c1 e : Int} (h : RCP sc D bb G pl V S K Ln Cn how c c1 σ p) (h2 : p.2 = true → RCP sc D bb G pl V S K Ln Cn how c1 e p.1 (f p.1)) : RCP sc D bb G pl V S K Ln Cn how c e σ (R_and p f) := by
  intro Q ρ l1 hx hl h70 kS kF
  refine h Q ρ l1 hx hl h70 (fun q ρ' a1 a2 a3 a4 => ?_) (fun q ρ' a1 a2 a3 => ?_)
  · rw [R_and_t q] at kS kF
    exact h2 q Q ρ' l1 a1 a2 a4 (fun q' ρ2 b1 b2 b3 b4 => kS q' ρ2 b1 b2 (FRR_trans a3 b3) b4) (fun q' ρ2 b1 b2 b3 => kF q' ρ2 b1 (FRE_t a3 b2) b3)
  · rw [R_and_f q] at kF
    exact kF q ρ' a1 a2 a3
/-- versions are made, then a piece -/
theorem RCP_mk {r : St × Bool} {e : Int} {d : Nat} (hp : PRO G pl V S K Ln) (hC : Cn ≤ 2000) (i0 : 0 ≤ c) (w0 : 0 ≤ w) (h1 : w + d ≤ V) (h2 : c + d ≤ Cn) (hI : IS (gD G) c (v_cd w d)) (h : RCP sc D bb G pl V S K Ln Cn how (c + d) e (R_mk G w d σ) r) : RCP sc D bb G pl V S K Ln Cn how c e σ r := by
  intro Q ρ l1 hx hl h70 kS kF
  refine X_mk (D := D + 3) hp hC i0 w0 h1 h2 hI hx hl h70 (fun ρ' a1 a2 a3 a4 => ?_)
  exact h Q ρ' l1 a1 a2 a4 (fun q ρ2 b1 b2 b3 b4 => kS q ρ2 b1 b2 (FRR_trans a3 b3) b4) (fun q ρ2 b1 b2 b3 => kF q ρ2 b1 (FRE_t a3 b2) b3)
theorem RCP_jump {r : St × Bool} {e a : Int} (hC : Cn ≤ 2000) (i0 : 0 ≤ c) (i1 : c < Cn) (hd : gD G c = (7, a, 0)) (h : RCP sc D bb G pl V S K Ln Cn how a e σ r) : RCP sc D bb G pl V S K Ln Cn how c e σ r := by
  intro Q ρ l1 hx hl h70 kS kF
  exact X_jump (D := D + 3) hx hC h70 i0 i1 hd (h Q ρ l1 hx hl h70 kS kF)
theorem RCP_test {r : St × Bool} {e a : Int} (hC : Cn ≤ 2000) (i0 : 0 ≤ c) (i1 : c < Cn) (hd : gD G c = (5, s, a)) (s0 : 0 ≤ s) (s1 : s < S) (s40 : s < 40) (hR : (gR G s).2.2 = t) (h3 : 3 ≤ (gR G s).1.1) (ht : VALt pl t) (k1 : R_h t σ = true → RCP sc D bb G pl V S K Ln Cn how (c + 1) e σ r) (k2 : ¬ R_h t σ = true → RCP sc D bb G pl V S K Ln Cn how a e σ r) : RCP sc D bb G pl V S K Ln Cn how c e σ r := by
  intro Q ρ l1 hx hl h70 kS kF
  exact X_test (D := D + 1) hx hl hC h70 i0 i1 hd s0 s1 s40 hR h3 ht (fun q => k1 q Q ρ l1 hx hl h70 kS kF) (fun q => k2 q Q ρ l1 hx hl h70 kS kF)
/-- a statement without a block -/
theorem RCP_b (hp : PRO G pl V S K Ln) (hL : LNO pl ln) (hC : Cn ≤ 2000) (hhow : 0 ≤ how ∧ how ≤ 2) (hz : VALb pl z) (hcx : PCX G V S K Ln (s_b z ar s k l) (n_b z s k l v c ar now) ar s k l v c now) (c0 : 0 ≤ c) (c1 : c + ((n_b z s k l v c ar now).2.2.2.2.2.length : Nat) ≤ Cn) (h : GST G pl V K ln v l now σ) (hH : HF how σ) : RCP sc D bb G pl V S K Ln Cn how c (c + ((n_b z s k l v c ar now).2.2.2.2.2.length : Nat)) σ (R_b G pl V how s σ) := by
  obtain ⟨⟨v0, s0, k0, l0⟩, ⟨hN, hnz, hNV⟩, -, ⟨d1, d2, d3, d4⟩, -, hseg⟩ := hcx
  have hB := BPC_of hz hseg
  have ek : (s_b z ar s k l).2.1.length = if z.2.1 = 1 then 1 else 0 := by unfold s_b; dsimp only; split <;> rfl
  rw [ek] at d2
  generalize n_b z s k l v c ar now = oo at *
  obtain ⟨⟨hR1, hR2⟩, hD0, hB⟩ := hB
  have hst := h.1.2.2.2.2.2.1
  have hb := hp.2.1
  have clen : c < Cn := by rcases hB with ⟨-, -, -, ⟨-, -, -, -, -, -, -, q⟩ | ⟨-, -, -, -, -, q⟩⟩ | ⟨-, ⟨-, -, -, -, -, -, -, q⟩ | ⟨-, -, -, -, q⟩⟩ <;> omega
  refine RCP_step hC c0 clen hD0 hst rfl (fun hs => ?_)
  have h1 := GST_step h hs
  have hH1 : HF how (q_up σ 87 2 (σ 87 2 + 1)) := hH
  generalize q_up σ 87 2 (σ 87 2 + 1) = τ at *
  have hm0 : 0 ≤ σ 87 2 + 1 := by omega
  intro Q ρ l1 hx hl h70 kS kF
  rcases hB with ⟨g1, ⟨gK', gC', gV'⟩, ⟨hD1, hD2⟩, hB⟩ | ⟨g1, hB⟩
  · rw [if_pos g1] at hR2 d2
    have hk1 : (gR G s).2.1.1 = k := by rw [hR2]
    have hkn : ¬ k = -1 := by omega
    have eK2 : (gK G k).2.2 = z.2.2.2 := by rw [gK']
    have eK1 : (gK G k).2.1 = z.2.2.1 := by rw [gK']
    have eK0 : (gK G k).1 = s := by rw [gK']
    obtain ⟨⟨-, w2, w3, -⟩, -⟩ := PRO_k hp k0 (by omega)
    rw [eK1] at w2
    rw [eK2] at w3
    have clen2 : c + 4 ≤ Cn := by rcases hB with ⟨-, -, -, -, -, -, -, q⟩ | ⟨-, -, -, -, -, q⟩ <;> omega
    refine X_chk (D := D + 2) hx hp hl h1 hH1 hhow (by omega) k0 (by omega) (by rw [gC', eK2]) hC h70 (by omega) (by omega) hD1 (fun hin => ?_) (fun hin => ?_)
    · rw [R_pass_in hk1 hkn hin, R_and_t rfl] at kS kF
      rw [eK2, eK1] at hin
      rw [eK2, gC'] at kS kF
      rw [eK2]
      dsimp only at kS kF
      have hcn := R_cn_b (G := G) (pl := pl) (V := V) (how := how) (k := k) (x := τ 78 z.2.2.2) (σ := τ)
      generalize R_cn G pl V how k (τ 78 z.2.2.2) τ = cn at *
      have vV : v < V := by rcases hB with ⟨-, -, -, -, -, -, q, -⟩ | ⟨-, -, -, -, q, -⟩ <;> omega
      have h2 := GSM_pass (cn := cn) hp hL h1 hN v0 vV w3 w2 gV' hin hcn
      have ln40 := (h1.1.2.2.2.1.1 _ w2.1 w2.2.1)
      have f1 : FRR ρ (q_up ρ 136 74 (ρ 136 74 + cn)) := FRR_136 (by decide)
      have r1 : RLT (q_up ρ 136 74 (ρ 136 74 + cn)) (q_up τ 87 4 (τ 87 4 + cn)) pl V how := RLT_4 hl
      have x1 := RRX_of hx f1
      have h701 : q_up ρ 136 74 (ρ 136 74 + cn) 136 70 = -1 := h70
      generalize q_up ρ 136 74 (ρ 136 74 + cn) = ρ1 at *
      have eg : (gV G v).1.1 = z.2.2.2 := by rw [gV']; rfl
      have e183 : ρ1 183 z.2.2.2 = τ 78 z.2.2.2 := r1.1 _ w3.1 w3.2
      rw [show c + 1 + 1 = c + 2 by omega]
      refine X_make (D := D + 3) x1 hp hC h701 (by omega) (by omega) hD2 v0 vV ?_
      rw [eg, e183]
      have f2 : FRR ρ1 (q_up ρ1 185 v (τ 78 z.2.2.2)) := FRR_a (by decide)
      have r2 : RLT (q_up ρ1 185 v (τ 78 z.2.2.2)) (q_up (q_up τ 87 4 (τ 87 4 + cn)) 80 v (τ 78 z.2.2.2)) pl V how := RLT_mk1 r1
      have x2 := RRX_of x1 f2
      have h702 : q_up ρ1 185 v (τ 78 z.2.2.2) 136 70 = -1 := h701
      have i78 : q_up (q_up τ 87 4 (τ 87 4 + cn)) 80 v (τ 78 z.2.2.2) 78 z.2.2.2 = τ 78 z.2.2.2 := rfl
      generalize q_up ρ1 185 v (τ 78 z.2.2.2) = ρ2 at *
      generalize q_up (q_up τ 87 4 (τ 87 4 + cn)) 80 v (τ 78 z.2.2.2) = τ2 at *
      rw [show c + 2 + 1 = c + 3 by omega]
      rcases hB with ⟨q0, q4, q5, q6, hD3, q7, q8, q9⟩ | ⟨q0, q1, hD3, q7, q8, q9⟩
      · have hk0 : (gR G s).1.1 = 0 := by rw [hR1]; exact q0
        rw [R_do_0 hk0, q6, hR1] at kS
        refine X_asg (D := D + 2) x2 hp r2 hC h702 (by omega) (by omega) hD3 hz q0 hR1 (by omega) (by omega) q5 h2.1 (by omega) (fun _ => ⟨hk1, k0, by omega, gK', by rw [i78]; omega, by rw [i78]; omega⟩) ?_
        have f3 : FRR ρ2 (q_up (q_up ρ2 183 z.1.2.1 (R_val G s τ2)) 185 (v + 1) (R_val G s τ2)) := FRR_trans (FRR_a (by decide)) (FRR_a (by decide))
        rw [show c + 3 + 1 = c + (oo.2.2.2.2.2.length : Nat) by omega]
        exact kS rfl _ (RRX_of x2 f3) (RLT_asg r2) (FRR_trans f1 (FRR_trans f2 f3)) h702
      · have hk0 : (gR G s).1.1 = 1 := by rw [hR1]; exact q0
        rw [R_do_1 hk0, hk1, eK1] at kS
        have hz7' : 0 ≤ z.1.2.2.2.1 ∧ z.1.2.2.2.1 ≤ 7 := by
          rcases hz.2 with ⟨q, -⟩ | ⟨-, -, -, a, b, -⟩ | ⟨q, -⟩
          · omega
          · exact ⟨a, b⟩
          · omega
        have e9 : (gR G s).1.2.2.2.1 = z.1.2.2.2.1 := by rw [hR1]
        have e8 : (gR G s).1.2.1 = z.2.2.2 := by rw [hR1]; exact q1
        rw [e9, e8] at kS
        refine X_store (D := D + 3) x2 hp r2 hC h702 (by omega) (by omega) hD3 k0 (by omega) hz7'.1 hz7'.2 (by rw [eK2, i78]; omega) ?_
        rw [eK2, eK1, r2.1 _ hz7'.1 hz7'.2]
        have f3 : FRR ρ2 (q_up ρ2 184 (41 * z.2.2.1 + τ2 78 z.2.2.2) (τ2 78 z.1.2.2.2.1)) := FRR_a (by decide)
        rw [show c + 3 + 1 = c + (oo.2.2.2.2.2.length : Nat) by omega]
        exact kS rfl _ (RRX_of x2 f3) (RLT_sto r2 w2.1 w2.2.1 (by rw [i78]; omega) (by rw [i78]; omega)) (FRR_trans f1 (FRR_trans f2 f3)) h702
    · rw [R_pass_out hk1 hkn hin, R_and_f rfl] at kF
      rw [eK0]
      refine kF rfl _ ?_ ?_ rfl
      · obtain ⟨h1, h2, h3, h4, h5, ⟨b1, b2⟩, h7⟩ := RLT_4 (z := R_cn G pl V how k (τ 78 (gK G k).2.2) τ) hl
        exact ⟨h1, h2, h3, h4, h5, ⟨rfl, b2⟩, h7⟩
      · exact FRE_t (FRR_136 (by decide)) (FRE_t (FRR_136 (by decide)) FRE_70)
  · rw [if_neg g1] at hR2
    have hk1 : (gR G s).2.1.1 = -1 := by rw [hR2]
    rw [R_pass_no hk1, R_and_t rfl] at kS kF
    dsimp only at kS kF
    rcases hB with ⟨q0, q4, q5, q6, hD1, q7, q8, q9⟩ | ⟨q0, hD1, q7, q8, q9⟩
    · have hk0 : (gR G s).1.1 = 0 := by rw [hR1]; exact q0
      rw [R_do_0 hk0, q6, hR1] at kS
      refine X_asg (D := D + 2) hx hp hl hC h70 (by omega) (by omega) hD1 hz q0 hR1 v0 (by omega) q5 h1.1 (by omega) (fun q => absurd q q4) ?_
      have f3 : FRR ρ (q_up (q_up ρ 183 z.1.2.1 (R_val G s τ)) 185 v (R_val G s τ)) := FRR_trans (FRR_a (by decide)) (FRR_a (by decide))
      rw [show c + 1 + 1 = c + (oo.2.2.2.2.2.length : Nat) by omega]
      exact kS rfl _ (RRX_of hx f3) (RLT_asg hl) f3 h70
    · have hk0 : (gR G s).1.1 = 2 := by rw [hR1]; exact q0
      rw [R_do_2 hk0, hR1] at kS
      have o3 := h1.1.2.2.1
      have e73 : ρ 136 73 = τ 87 3 := hl.2.2.2.2.2.1.2.2.1
      refine X_out (D := D + 3) hx hC h70 (by omega) (by omega) hD1 hz.1.1 hz.1.2 (by omega) ?_
      rw [hl.1 _ hz.1.1 hz.1.2]
      have f3 : FRR ρ (q_up (q_up ρ 186 (ρ 136 73) (τ 78 z.1.2.1)) 136 73 (ρ 136 73 + 1)) := FRR_trans (FRR_a (by decide)) (FRR_136 (by decide))
      rw [show c + 1 + 1 = c + (oo.2.2.2.2.2.length : Nat) by omega]
      exact kS rfl _ (RRX_of hx f3) (RLT_out hl o3.1) f3 h70
/-- if -/
theorem RCP_if {pA pB : Int → Int → Int → Int → SO} {gA gB : NF} {oA oB : NO} {PA PB : SO} {vA vF vB vJ cA cF cB cJ sB kB lB : Int} {fA fB : RF} (hp : PRO G pl V S K Ln) (hL : LNO pl ln) (hC : Cn ≤ 2000) (ht : VALt pl t) (hN : NWI now v) (v0 : 0 ≤ v) (l0 : 0 ≤ l) (s0 : 0 ≤ s) (s1 : s < S) (hV : vJ + (v_many set 8 0 : Nat) ≤ V) (c0 : 0 ≤ c) (hc : cJ + (v_many set 8 0 : Nat) ≤ Cn) (hS : SIF G t set pA pB gA gB s k l v c ar now oA oB PA PB vA vF vB vJ cA cF cB cJ sB kB lB)
    (hA : ∀ σ, GST G pl V K ln vA l (v_sn t v now) σ → HF how σ → RCP sc D bb G pl V S K Ln Cn how cA (cA + (oA.2.2.2.2.2.length : Nat)) σ (fA (s + 1) σ)) (hB : ∀ σ, GST G pl V K ln vB lB (v_sn t vF now) σ → HF how σ → RCP sc D bb G pl V S K Ln Cn how cB (cB + (oB.2.2.2.2.2.length : Nat)) σ (fB sB σ)) (h : GST G pl V K ln v l now σ) (hH : HF how σ) : RCP sc D bb G pl V S K Ln Cn how c (cJ + (v_many set 8 0 : Nat)) σ (R_if G fA fB s σ) := by
  obtain ⟨-, ⟨x1, x2, x3, x4⟩, ⟨u1, u2, u3, u4⟩, ⟨w1, w2, w3⟩, ⟨hR, hM⟩, ⟨y1, y2, y3, y4, y5⟩, ⟨d1, d2, d3, d4, d5, d6⟩, -, -, -, z4⟩ := hS
  have hb := hp.2.1
  have s40 : s < 40 := by omega
  have hR2 : (gR G s).2.2 = t := by rw [hR]
  have hR3 : 3 ≤ (gR G s).1.1 := by rw [hR]; exact Int.le_refl 3
  have hRm : (gR G s).2.1.2.2.2.1 = sB := by rw [hR]
  have hM2 : (gM G s).2.2.1 = (v, vF, ((v_sd t (v_sv now t.2.1) (v_sv now t.2.2) 3 s).length : Int)) := by rw [hM]
  have hM1 : (gM G s).2.1 = (vJ, ((v_many set 8 0 : Nat) : Int)) := by rw [hM]
  have hst := h.1.2.2.2.2.2.1
  have joinP : ∀ σ2 : St, RCP sc D bb G pl V S K Ln Cn how cJ (cJ + (v_many set 8 0 : Nat)) σ2 (R_mk G vJ ((v_many set 8 0 : Nat) : Int) σ2, true) := fun σ2 => RCP_mk hp hC (by omega) (by omega) hV hc d6 RCP_done
  refine RCP_step hC c0 (by omega) d1 hst rfl (fun hs => ?_)
  have h1 := GST_step h hs
  have e2 : q_up σ 87 2 (σ 87 2 + 1) 87 2 = σ 87 2 + 1 := q_up_eq _ _ _ _
  have hH1 : HF how (q_up σ 87 2 (σ 87 2 + 1)) := hH
  generalize q_up σ 87 2 (σ 87 2 + 1) = τ at *
  rw [hR2, hRm, hM1]
  dsimp only
  refine RCP_test hC (by omega) (by omega) d2 s0 s1 s40 hR2 hR3 ht (fun hh => ?_) (fun hh => ?_)
  · rw [if_pos hh, R_ans_t hR2 hM2 hh]
    have g0 := GSM_ans hp hL h1 ht hN (Int.le_refl v) v0 y1 (by omega) (Or.inl ⟨rfl, hh⟩)
    rw [← x1] at g0
    have g1 := GST_of g0 (st := σ 87 2 + 1) e2 (by omega) (by omega) (by omega)
    rw [show c + 1 + 1 = c + 2 by omega]
    refine RCP_mk hp hC (by omega) v0 (by omega) (by omega) d3 ?_
    rw [show c + 2 + ((v_sd t (v_sv now t.2.1) (v_sv now t.2.2) 3 s).length : Int) = cA by omega]
    refine RCP_and (c1 := cF - 1) (RCP_e (hA _ g1 hH1) (by omega)) (fun _ => ?_)
    exact RCP_jump hC (by omega) (by omega) d4 (joinP _)
  · rw [if_neg hh, R_ans_f hR2 hM2 hh]
    have g0 := GSM_ans hp hL h1 ht hN (show v ≤ vF by omega) (by omega) y3 (by omega) (Or.inr ⟨rfl, hh⟩)
    rw [z4, ← x3] at g0
    have g1 := GST_of g0 (st := σ 87 2 + 1) e2 (by omega) (by omega) (by omega)
    have g1' : GST G pl V K ln vB lB (v_sn t vF now) (R_mk G vF (v_sd t (v_sv now t.2.1) (v_sv now t.2.2) 3 s).length τ) := ⟨g1.1, fun j j0 j1 => g1.2.1 j (by omega) j1, g1.2.2⟩
    rw [z4] at d5
    refine RCP_mk hp hC (by omega) (by omega) (by omega) (by omega) d5 ?_
    rw [show cF + ((v_sd t (v_sv now t.2.1) (v_sv now t.2.2) 3 s).length : Int) = cB by omega]
    exact RCP_and (c1 := cJ) (RCP_e (hB _ g1' hH1) (by omega)) (fun _ => joinP _)
end RRZ
