/-! statements in a run: what holds behind each -/
theorem tf_no {p : Prop} (h : true = false) : p := by cases h
theorem ft_no {p : Prop} (h : false = true) : p := by cases h
section RGC
variable {G : GT} {pl ln : Int → Int} {V S K Ln : Nat} {m m' n n' o o' v v' w l l' k s x y how ar c : Int} {ks ks' : List (Int × Int)} {now now' now1 : Int → Int} {σ σ' σ1 σ2 σ3 : St} {t : TT} {set : Int}
theorem R_pass_no (h : (gR G s).2.1.1 = -1) : R_pass G pl V how s σ = (σ, true) := if_pos h
theorem R_pass_in (hk : (gR G s).2.1.1 = k) (hn : ¬ k = -1) (h : 0 ≤ σ 78 (gK G k).2.2 ∧ σ 78 (gK G k).2.2 < σ 85 (gK G k).2.1) : R_pass G pl V how s σ = (q_up (q_up σ 87 4 (σ 87 4 + R_cn G pl V how k (σ 78 (gK G k).2.2) σ)) 80 (gC G k).2.1 (σ 78 (gK G k).2.2), true) := by
  unfold R_pass
  rw [hk, if_neg hn, if_pos h]
theorem R_pass_out (hk : (gR G s).2.1.1 = k) (hn : ¬ k = -1) (h : ¬ (0 ≤ σ 78 (gK G k).2.2 ∧ σ 78 (gK G k).2.2 < σ 85 (gK G k).2.1)) : R_pass G pl V how s σ = (q_up (q_up (q_up σ 87 4 (σ 87 4 + R_cn G pl V how k (σ 78 (gK G k).2.2) σ)) 87 0 1) 87 1 s, false) := by
  unfold R_pass
  rw [hk, if_neg hn, if_neg h]
theorem R_do_0 (h : (gR G s).1.1 = 0) : R_do G s σ = q_up (q_up σ 78 (gR G s).1.2.1 (R_val G s σ)) 80 (gM G s).1 (R_val G s σ) := if_pos h
theorem R_do_1 (h : (gR G s).1.1 = 1) : R_do G s σ = q_up σ (82 + (gK G (gR G s).2.1.1).2.1.toNat) (σ 78 (gR G s).1.2.1) (σ 78 (gR G s).1.2.2.2.1) := by
  unfold R_do
  rw [if_neg (by omega), if_pos h]
theorem R_do_2 (h : (gR G s).1.1 = 2) : R_do G s σ = q_up (q_up σ 86 (σ 87 3) (σ 78 (gR G s).1.2.1)) 87 3 (σ 87 3 + 1) := by
  unfold R_do
  rw [if_neg (by omega), if_neg (by omega)]
theorem FST_out (h : BM m n o V ln σ) (hn : n + 2 ≤ 40000) (ho : o ≤ 300) {cn : Int} (hc : 0 ≤ cn ∧ cn ≤ 2) : FST (q_up (q_up (q_up σ 87 4 (σ 87 4 + cn)) 87 0 1) 87 1 s) := by
  obtain ⟨h1, ⟨c1, c2, c3⟩, h3, h4, h5, h6, h7⟩ := h
  refine ⟨?_, ?_, h6⟩
  · show (0 ≤ σ 87 4 + cn ∧ σ 87 4 + cn ≤ 40000) ∧ (0 ≤ σ 87 5 ∧ σ 87 5 ≤ 40000) ∧ (0 ≤ σ 87 6 ∧ σ 87 6 ≤ 40000)
    omega
  · show 0 ≤ σ 87 3 ∧ σ 87 3 ≤ 300
    omega
theorem row_c {row : Int} (h : 0 ≤ row ∧ row ≤ 2) : 82 + row.toNat = 82 ∨ 82 + row.toNat = 83 ∨ 82 + row.toNat = 84 := by omega
theorem row_B {row i : Int} (h : BV m V σ) (hr : 0 ≤ row ∧ row ≤ 2) (i0 : 0 ≤ i) (i1 : i < 40) : B99 m (σ (82 + row.toNat) i) := by
  rcases row_c hr with e | e | e <;> rw [e]
  · exact h.2.2.1 i i0 i1
  · exact h.2.2.2.1 i i0 i1
  · exact h.2.2.2.2 i i0 i1
/-- the value, as VALb says -/
theorem R_val_ok {z : SB} (hx : VALb pl z) (h0 : z.1.1 = 0) (hR : (gR G s).1 = z.1) (hB : BM m n o V ln σ) (m0 : 0 ≤ m) (hel : z.1.2.2.1 = 4 → (gR G s).2.1.1 = k ∧ gK G k = (s, z.2.2.1, z.2.2.2) ∧ 0 ≤ σ 78 z.2.2.2 ∧ σ 78 z.2.2.2 < 40) :
    (z.1.2.2.1 = 1 ∧ R_val G s σ = z.1.2.2.2.2 ∧ -99 ≤ R_val G s σ ∧ R_val G s σ ≤ 99) ∨ (z.1.2.2.1 = 2 ∧ R_val G s σ = σ 85 z.1.2.2.2.1 ∧ 0 ≤ z.1.2.2.2.1 ∧ z.1.2.2.2.1 ≤ 2 ∧ ¬ pl z.1.2.2.2.1 = -1) ∨ (z.1.2.2.1 = 3 ∧ R_val G s σ = σ 78 z.1.2.2.2.1 + z.1.2.2.2.2 ∧ 0 ≤ z.1.2.2.2.1 ∧ z.1.2.2.2.1 ≤ 7 ∧ -99 ≤ z.1.2.2.2.2 ∧ z.1.2.2.2.2 ≤ 99) ∨ ((z.1.2.2.1 = 4 ∨ z.1.2.2.1 = 5) ∧ B99 (m + 1) (R_val G s σ)) := by
  obtain ⟨-, hx⟩ := hx
  rcases hx with ⟨-, hv⟩ | ⟨q, -⟩ | ⟨q, -⟩
  · unfold R_val
    rw [hR]
    rcases hv with ⟨q, q1, q2, q3, -⟩ | ⟨q, q1, q2, q3, -⟩ | ⟨q, q1, q2, q3, q4, -⟩ | ⟨q, -, -, -, q4, q5, -⟩ | ⟨q, q1, q2, -⟩
    · left
      rw [if_neg (by omega), if_neg (by omega), if_neg (by omega), if_neg (by omega)]
      exact ⟨q, rfl, q2, q3⟩
    · right; left
      rw [if_pos q]
      exact ⟨q, rfl, q1, q2, q3⟩
    · right; right; left
      rw [if_neg (by omega), if_pos q]
      exact ⟨q, rfl, q1, q2, q3, q4⟩
    · right; right; right
      rw [if_neg (by omega), if_neg (by omega), if_pos q]
      obtain ⟨e1, e2, e3, e4⟩ := hel q
      rw [e1, e2]
      have := row_B (row := z.2.2.1) (i := σ 78 z.2.2.2) hB.1 ⟨q4, q5⟩ e3 e4
      refine ⟨Or.inl q, ?_⟩
      unfold B99 at *
      dsimp only
      omega
    · right; right; right
      rw [if_neg (by omega), if_neg (by omega), if_neg (by omega), if_pos q]
      have := hB.2.2.2.1.2 _ q1 q2
      refine ⟨Or.inr q, ?_⟩
      unfold B99
      omega
  · omega
  · omega
/-- a statement without a block -/
theorem RES_b {z : SB} (hp : PRO G pl V S K Ln) (hL : LNO pl ln) (hx : VALb pl z) (hc : PCX G V S K Ln (s_b z ar s k l) (n_b z s k l v c ar now) ar s k l v c now) (h : GST G pl V K ln v l now σ) : RES G pl V K ln v (v + ((n_b z s k l v c ar now).2.1.length : Nat)) l [(z.1.1, z.1.2.1)] (n_b z s k l v c ar now).1 σ (R_b G pl V how s σ) := by
  obtain ⟨⟨v0, s0, k0, l0⟩, ⟨hN, hnz, hNV⟩, -, ⟨c1, c2, c3, c4⟩, -, hseg⟩ := hc
  have hB := BPC_of hx hseg
  have ek : (s_b z ar s k l).2.1.length = if z.2.1 = 1 then 1 else 0 := by unfold s_b; dsimp only; split <;> rfl
  rw [ek] at c2
  generalize n_b z s k l v c ar now = oo at *
  obtain ⟨⟨hR1, hR2⟩, -, hB⟩ := hB
  have hz7 := hx.1
  have hst := h.1.2.2.2.2.2.1
  unfold R_b
  by_cases hs : σ 87 2 < 300
  · rw [R_step_t hs, R_and_t rfl]
    have h1 := GST_step h hs
    have e2 : q_up σ 87 2 (σ 87 2 + 1) 87 2 = σ 87 2 + 1 := q_up_eq _ _ _ _
    have f1 : RFR v l [(z.1.1, z.1.2.1)] σ (q_up σ 87 2 (σ 87 2 + 1)) := RFR_87
    have ge1 : σ 87 2 ≤ q_up σ 87 2 (σ 87 2 + 1) 87 2 := by rw [e2]; omega
    generalize q_up σ 87 2 (σ 87 2 + 1) = τ at *
    dsimp only
    have hm0 : 0 ≤ σ 87 2 + 1 := by omega
    rcases hB with ⟨g1, ⟨gK', gC', gV'⟩, -, hB⟩ | ⟨g1, hB⟩
    · rw [if_pos g1] at hR2 c2
      have hk1 : (gR G s).2.1.1 = k := by rw [hR2]
      have hkn : ¬ k = -1 := by omega
      have eK2 : (gK G k).2.2 = z.2.2.2 := by rw [gK']
      have eK1 : (gK G k).2.1 = z.2.2.1 := by rw [gK']
      obtain ⟨⟨-, w2, w3, -⟩, -⟩ := PRO_k hp k0 (by omega)
      rw [eK1] at w2
      rw [eK2] at w3
      by_cases hin : 0 ≤ τ 78 (gK G k).2.2 ∧ τ 78 (gK G k).2.2 < τ 85 (gK G k).2.1
      · rw [R_pass_in hk1 hkn hin, R_and_t rfl]
        rw [eK2, eK1] at hin
        rw [eK2, gC']
        dsimp only
        have hcn := R_cn_b (G := G) (pl := pl) (V := V) (how := how) (k := k) (x := τ 78 z.2.2.2) (σ := τ)
        generalize R_cn G pl V how k (τ 78 z.2.2.2) τ = cn at *
        have vV : v < V := by rcases hB with ⟨-, -, -, -, -, -, q, -⟩ | ⟨-, -, -, -, q, -⟩ <;> omega
        have h2 := GSM_pass (cn := cn) hp hL h1 hN v0 vV w3 w2 gV' hin hcn
        have f2 : RFR v l [(z.1.1, z.1.2.1)] τ (q_up (q_up τ 87 4 (τ 87 4 + cn)) 80 v (τ 78 z.2.2.2)) := RFR_trans RFR_87 (RFR_80 (Int.le_refl _))
        have e2' : q_up (q_up τ 87 4 (τ 87 4 + cn)) 80 v (τ 78 z.2.2.2) 87 2 = σ 87 2 + 1 := e2
        have i78 : q_up (q_up τ 87 4 (τ 87 4 + cn)) 80 v (τ 78 z.2.2.2) 78 z.2.2.2 = τ 78 z.2.2.2 := rfl
        have ln40 := (h1.1.2.2.2.1.1 _ w2.1 w2.2.1)
        generalize q_up (q_up τ 87 4 (τ 87 4 + cn)) 80 v (τ 78 z.2.2.2) = τ2 at *
        rcases hB with ⟨q0, q4, q5, q6, -, q7, q8, -⟩ | ⟨q0, q1, -, q7, q8, -⟩
        · have hk0 : (gR G s).1.1 = 0 := by rw [hR1]; exact q0
          rw [R_do_0 hk0, q6, hR1]
          have hval := R_val_ok (k := k) hx q0 hR1 h2.1 hm0 (fun _ => ⟨hk1, gK', by rw [i78]; omega, by rw [i78]; omega⟩)
          have h3 := GSM_val (y := R_val G s τ2) (k := k) (s := s) hp hL h2 hm0 (NWI_un hN (Int.le_refl _) v0) (by omega) (by omega) hz7 (by rw [q5, if_neg (by omega)]) hval
          refine ⟨RFR_trans f1 (RFR_trans f2 (RFR_trans (RFR_78 (fun i hi e => hi _ List.mem_cons_self ⟨q0, e.symm⟩)) (RFR_80 (by omega)))), fun _ => ⟨?_, ?_⟩, fun q => tf_no q⟩
          · rw [q7, q8]
            rw [show v + ((2 : Nat) : Int) = v + 1 + 1 by omega]
            exact GST_of h3 (st := σ 87 2 + 1) e2' (by omega) (by omega) (by omega)
          · show σ 87 2 ≤ τ2 87 2
            rw [e2']; omega
        · have hk0 : (gR G s).1.1 = 1 := by rw [hR1]; exact q0
          rw [R_do_1 hk0, hk1, eK1]
          have hz7' : 0 ≤ z.1.2.2.2.1 ∧ z.1.2.2.2.1 ≤ 7 := by
            rcases hx.2 with ⟨q, -⟩ | ⟨-, -, -, a, b, -⟩ | ⟨q, -⟩
            · omega
            · exact ⟨a, b⟩
            · omega
          have h3 := GSM_sto (i := τ2 78 (gR G s).1.2.1) h2 (row_c ⟨w2.1, w2.2.1⟩) hz7'
          have e9 : (gR G s).1.2.2.2.1 = z.1.2.2.2.1 := by rw [hR1]
          rw [e9]
          refine ⟨RFR_trans f1 (RFR_trans f2 (RFR_82 (row_c ⟨w2.1, w2.2.1⟩))), fun _ => ⟨?_, ?_⟩, fun q => tf_no q⟩
          · rw [q7, q8]
            refine GST_of h3 (st := σ 87 2 + 1) ?_ (by omega) (by omega) (by omega)
            show q_up τ2 (82 + z.2.2.1.toNat) (τ2 78 (gR G s).1.2.1) (τ2 78 z.1.2.2.2.1) 87 2 = σ 87 2 + 1
            rw [q_up_ne _ _ _ _ (by omega)]; exact e2'
          · show σ 87 2 ≤ q_up τ2 _ _ _ 87 2
            rw [q_up_ne _ _ _ _ (by omega), e2']; omega
      · rw [R_pass_out hk1 hkn hin, R_and_f rfl]
        have hcn := R_cn_b (G := G) (pl := pl) (V := V) (how := how) (k := k) (x := τ 78 (gK G k).2.2) (σ := τ)
        exact ⟨RFR_trans f1 (RFR_trans RFR_87 (RFR_trans RFR_87 RFR_87)), fun q => ft_no q, fun _ => FST_out h1.1 (by omega) (by omega) hcn⟩
    · rw [if_neg g1] at hR2
      have hk1 : (gR G s).2.1.1 = -1 := by rw [hR2]
      rw [R_pass_no hk1, R_and_t rfl]
      dsimp only
      rcases hB with ⟨q0, q4, q5, q6, -, q7, q8, -⟩ | ⟨q0, -, q7, q8, -⟩
      · have hk0 : (gR G s).1.1 = 0 := by rw [hR1]; exact q0
        rw [R_do_0 hk0, q6, hR1]
        have hval := R_val_ok (k := k) hx q0 hR1 h1.1 hm0 (fun q => absurd q q4)
        have h3 := GSM_val (y := R_val G s τ) (k := k) (s := s) hp hL h1 hm0 hN v0 (by omega) hz7 q5 hval
        refine ⟨RFR_trans f1 (RFR_trans (RFR_78 (fun i hi e => hi _ List.mem_cons_self ⟨q0, e.symm⟩)) (RFR_80 (Int.le_refl _))), fun _ => ⟨?_, ge1⟩, fun q => tf_no q⟩
        rw [q7, q8]
        exact GST_of h3 (st := σ 87 2 + 1) e2 (by omega) (by omega) (by omega)
      · have hk0 : (gR G s).1.1 = 2 := by rw [hR1]; exact q0
        rw [R_do_2 hk0]
        have h3 := GSM_out (x := τ 78 (gR G s).1.2.1) (i := τ 87 3) h1
        refine ⟨RFR_trans f1 (RFR_trans RFR_86 RFR_87), fun _ => ⟨?_, ge1⟩, fun q => tf_no q⟩
        rw [q7, q8]
        rw [show v + ((0 : Nat) : Int) = v by omega]
        exact GST_of h3 (st := σ 87 2 + 1) e2 (by omega) (by omega) (by omega)
  · rw [R_step_f hs, R_and_f rfl]
    exact ⟨RFR_87, fun q => ft_no q, fun _ => FST_step h.1 (by omega) (by omega)⟩
/-- behind an answer -/
theorem GSM_ans (hp : PRO G pl V S K Ln) (hL : LNO pl ln) (h : GSM G pl V K ln m n o v l now σ) (ht : VALt pl t) (hN : NWI now v) (hv : v ≤ w) (hw0 : 0 ≤ w) (hI2 : IS (gV G) w (v_sd t (v_sv now t.2.1) (v_sv now t.2.2) how s)) (hw1 : w + (v_sd t (v_sv now t.2.1) (v_sv now t.2.2) how s).length ≤ V) (hh : (how = 3 ∧ R_h t σ = true) ∨ (how = 4 ∧ ¬ R_h t σ = true)) :
    GSM G pl V K ln m n o (w + (v_sd t (v_sv now t.2.1) (v_sv now t.2.2) how s).length) l (v_sn t w now) (R_mk G w (v_sd t (v_sv now t.2.1) (v_sv now t.2.2) how s).length σ) := by
  obtain ⟨h1, h2, h3, h4⟩ := h
  exact ⟨BM_mk hp h1, h2, INV_sn hp hL h3 (fun b b0 b1 => (h1.2.2.2.1.1 b b0 b1).1) ht hN hv hw0 hI2 hw1 hh, GIN_fr hp h4 (by omega) (fun _ _ _ q => q) (fun j j0 j1 => R_mk_lt (by omega)) (fun i => R_mk_ne (by decide))⟩
theorem NTL_bit {d : Nat} {L : List (Int × Int)} (hk : KV L) (x0 : 0 ≤ x) (x1 : x ≤ 7) (h : q_bit (tbits L 0) x = 0) : NTL L x := ((tbit L 0 x hk x0 x1).mp h).2
theorem NTL_app : NTL (ks ++ ks') x ↔ NTL ks x ∧ NTL ks' x := by
  unfold NTL
  constructor
  · intro h
    exact ⟨fun e he => h e (List.mem_append_left _ he), fun e he => h e (List.mem_append_right _ he)⟩
  · rintro ⟨h1, h2⟩ e he
    rcases List.mem_append.mp he with he | he
    · exact h1 e he
    · exact h2 e he
theorem NTL_cons {a : Int × Int} : NTL (a :: ks) x → NTL ks x := fun h e he => h e (List.mem_cons_of_mem _ he)
end RGC
