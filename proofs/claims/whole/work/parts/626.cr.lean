/-! the reference's constructor -/
theorem p_ls0 {f : Int → Int} {n : Int} {pl : Int → Int} {α β : Type} {sb : SB → α} {cp : Bool → TT → β → β → α} {e0 : β} {blk : Int → Int → PX (β × Int)} {k : Nat} {cnt p : Int} (h : tk f n p = -1) : p_ls f n pl sb cp e0 blk (k + 1) cnt p = .inr (([], cnt), p) := by
  unfold p_ls
  rw [if_pos (Or.inl h)]
theorem p_P0 (f : Int → Int) : p_P f 0 = .inr ((pl_0, [], 0), 0) := by
  have t : tk f 0 0 = -1 := by unfold tk; rw [if_pos (by decide)]
  have s : sk f 0 0 = 0 := by unfold sk t_run; rfl
  have e1 : p_rs f 0 4 pl_0 0 = .inr (pl_0, 0) := by
    show p_rs f 0 (3 + 1) pl_0 0 = _
    rw [p_rs, t, if_neg (by decide)]
  have e2 : p_L f 0 pl_0 5 0 0 = .inr (([], 0), 0) := p_ls0 t
  unfold p_P
  rw [s, e1]
  simp only [p_b, e2, t, if_true]
theorem ct_125 {sc : Nat × (Nat → Int32)} {σ1 : St} {Q : PP} (hS1 : q_S 136 σ1) (kk : ∀ σ', RI σ' [] pl_0 0 z_0 (-1) z_0 z_0 → (∀ a i, a < 136 → σ' a i = σ1 a i) → q_S 188 σ' → Q (.inl none) (188, true) (q_eh 188 pm_h0 σ')) : px sc 831 125 0 [.ref 136, pm_no] [] (0, 0) (l_R.length, true) (l_hb 136 (q_eh 136 pm_h0 σ1) l_R) Q := by
  refine l_run (D := 830) 400 434 0 125 0 [vr 136, vn] [] (0, 0) l_R 434 [vr 136, vn] [] (51, 23408) l_B Q l_125_is (show l_P 136 l_R from l_P_app l_baseP _) (fun _ => ?_)
  rw [(l_okl_a l_B_ok).1, l_bridge l_B_ok (by decide)]
  refine px_q (ls := [vr 136, vn]) (st := []) q_cl188 ?_ (fun v hv => by cases hv) (l_bridgeS l_B_ok (by decide) (by decide) hS1) ?_
  · intro v hv
    rcases List.mem_cons.mp hv with rfl | hv
    · exact Or.inl (by decide)
    · rw [List.mem_singleton.mp hv]; trivial
  obtain ⟨σ2, hs2⟩ : ∃ σ2, σ2 = l_c2 136 σ1 l_B := ⟨_, rfl⟩
  rw [← hs2]
  have hi : ∀ a i, 136 ≤ a → σ2 a i = l_s l_B a i := fun a i h => by rw [hs2, l_c2_hi h]
  have lo : ∀ a i, a < 136 → σ2 a i = σ1 a i := fun a i h => by rw [hs2, l_c2_lo h]
  have e6 : σ2 136 6 = 0 := by rw [hi 136 6 (by decide)]; decide +kernel
  have e2 : σ2 136 2 = 0 := by rw [hi 136 2 (by decide)]; decide +kernel
  have e7 : σ2 136 7 = 0 := by rw [hi 136 7 (by decide)]; decide +kernel
  have e52 : σ2 136 52 = -1 := by rw [hi 136 52 (by decide)]; decide +kernel
  have e181 : ∀ w, σ2 181 w = 0 := fun w => (hi 181 w (by decide)).trans (l_s_0 (t := 0) (n := 3) rfl)
  have e182 : ∀ w, σ2 182 w = 0 := fun w => (hi 182 w (by decide)).trans (l_s_0 (t := 0) (n := 3) rfl)
  clear hs2
  refine (r_aload_n (k := 0) (by decide +kernel) rfl).mpr ?_
  show qx sc (830 + 1) 125 435 [vr 136, vn] [vr 136] (51, 23408) true σ2 _
  refine (r_callv (idx := 355) (y' := 204) (n := 0) (m := 3) (a := 136) (as := []) (st' := []) (ls' := [vr 136, vn, vn]) (u' := (51, 23408)) (p3 := 438) (by decide +kernel) rfl (by decide) ⟨by decide, by decide, rfl⟩ rfl).mpr ?_
  have hRH : RH σ2 := ⟨by rw [e6]; decide, by rw [e6]; decide, by rw [e6]; exact fun i i0 i1 => absurd i1 (by omega)⟩
  rw [show 830 = 24 + 795 + 11 from rfl, ← RP_eta σ2]
  refine m204 hRH (fun S' r' p' b' q eq hFR => ?_) (fun σ' pl' L' cnt z eq hPR ec hST e10 fr => ?_)
  · rw [e6, p_P0] at eq
    cases eq
  · rw [e6, p_P0] at eq
    cases eq
    rw [q_kn_v]
    refine (r_istore_n (k := 1) (by decide +kernel) (by decide)).mpr ?_
    refine (r_retV (by decide +kernel)).mpr ?_
    intro hS
    refine kk σ' ⟨hPR, hST, ⟨?_, by decide, by decide, fun i i0 i1 => absurd i1 (by omega), fun i i0 i1 => absurd i1 (by omega)⟩, ?_, ?_, fun d d0 d1 => ?_⟩ (fun a i ha => ?_) hS
    · rw [fr 136 2 (by decide) (by unfold RFX; omega)]; exact e2
    · have e7' : σ' 136 7 = 0 := by rw [fr 136 7 (by decide) (by unfold RFX; omega)]; exact e7
      rw [e7']
      exact ⟨by decide, by decide, fun i i0 i1 => absurd i1 (by omega), 0, 0, p_P0 _⟩
    · rw [fr 136 52 (by decide) (by unfold RFX; omega)]; exact e52
    · rw [fr 182 d (by decide) (by omega), fr 181 d (by decide) (by omega), e182, e181]
      exact ⟨⟨rfl, rfl⟩, show (-99 : Int) ≤ 0 ∧ (0 : Int) ≤ 99 by decide, show (0 : Int) ≤ 0 ∧ (0 : Int) ≤ 40 by decide⟩
    · rw [fr a i (by omega) (by omega)]; exact lo a i ha
