/-! THE CLAIM OF THE PURE MACHINE -/
abbrev ls_0 : List V2 := [vr 1000000, vn, vn, vn, vn, vn, vn]
abbrev ls_1 : List V2 := [vr 1000000, vr 0, vn, vn, vn, vn, vn]
abbrev ls_2 : List V2 := [vr 1000000, vr 0, vr 136, vr 188, vi 0, vn, vn]
def l_C : List LC := l_hole 188 ++ [.inl (3, 1, [])]
theorem lq_0 : l_exec 10 4 0 252 0 ls_0 [] (0, 0) [] = some (4, ls_0, [vr 0, vr 0], (1, 15), [.inr (14, l_df 14)]) := x_eq_ok (by decide +kernel)
theorem lq_1 : l_exec 10 12 0 252 7 ls_0 [vr 0] (136, 10333) (l_hole 136) = some (12, ls_1, [vr 136, vr 136], (137, 10411), l_R) := x_eq_ok (by decide +kernel)
theorem lq_2 : l_exec 10 23 0 252 15 ls_1 [vr 136] (188, 33819) (l_hole 188) = some (23, ls_2, [], (189, 33820), l_C) := x_eq_ok (by decide +kernel)
theorem l_C_ok : l_okl 188 189 l_C = true := by decide +kernel
section PCL
variable {sc : Nat × (Nat → Int32)} {Q : PP} {C r σ : St}
theorem law_3 (h3 : sc.1 ≤ 3072) (hS : q_S 188 σ) (hC : CI 88 C r 0 [] pl_0 0 z_0 (-1) z_0 z_0) (hR : RI σ [] pl_0 0 z_0 (-1) z_0 z_0) (hlo : ∀ a i, a < 136 → σ a i = NS 88 C r a i) (hQ : ∀ g h, Q (.inl (some (.int 1))) g h) : px sc 832 252 15 (ls_1.map l_v) (([vr 136] : List V2).map l_v) (188, 33819) (188, true) (q_eh 188 pm_h0 σ) Q := by
  have hJ : LJ ((0 : Nat) : Int) (l_c2 188 σ l_C) := LJ_mk hC (RI_of hR (fun a i ha => l_c2_lo (by unfold RIX at ha; omega))) (fun a i ha => by rw [l_c2_lo (by omega)]; exact hlo a i ha)
  have key : px sc 832 252 23 (ls_2.map q_v) (([] : List V2).map q_v) (189, 33820) (189, true) (q_eh 189 pm_h0 (l_c2 188 σ l_C)) Q := by
    refine px_q (ls := ls_2) (st := []) q_cl189 ?_ (fun v hv => by cases hv) (l_bridgeS l_C_ok (by decide) (by decide) hS) ?_
    · intro v hv
      simp only [ls_2, List.mem_cons, List.not_mem_nil, or_false] at hv
      rcases hv with rfl | rfl | rfl | rfl | rfl | rfl | rfl
      · exact Or.inr (by decide)
      · exact Or.inl (by decide)
      · exact Or.inl (by decide)
      · exact Or.inl (by decide)
      · exact q_R0
      · trivial
      · trivial
    · exact law_l (D := 782) h3 (fun bb' σ' _ => hQ _ _) 600 0 (189, 33820) true _ vn vn rfl (by omega) ⟨by decide, by decide⟩ hJ
  have hr := l_run (sc := sc) (N0 := 188) (b0 := q_eh 188 pm_h0 σ) (D := 831) 10 23 0 252 15 ls_1 [vr 136] (188, 33819) (l_hole 188) 23 ls_2 [] (189, 33820) l_C Q lq_2 l_baseP (fun _ => by rw [(l_okl_a l_C_ok).1, l_bridge l_C_ok (by decide)]; exact key)
  rw [← l_base, List.length_replicate] at hr
  exact hr
theorem law_2 (h3 : sc.1 ≤ 3072) (hS : q_S 136 (NS 88 C r)) (hC : CI 88 C r 0 [] pl_0 0 z_0 (-1) z_0 z_0) (hQ : ∀ g h, Q (.inl (some (.int 1))) g h) : px sc 832 252 7 (ls_0.map l_v) (([vr 0] : List V2).map l_v) (136, 10333) (136, true) (q_eh 136 pm_h0 (NS 88 C r)) Q := by
  have key : px sc 832 252 12 (ls_1.map l_v) (([vr 136, vr 136] : List V2).map l_v) (137, 10411) (l_R.length, true) (l_hb 136 (q_eh 136 pm_h0 (NS 88 C r)) l_R) Q := by
    refine px_call (D := 831) (y' := 125) (as := [.ref 136]) (st' := [.ref 136]) (i := .invokespecial 78) (by decide +kernel) (l_call (as := [vr 136]) (st' := [vr 136]) (n_eq_ok (by decide +kernel))) ⟨by decide, by decide +kernel, rfl, by decide +kernel⟩ ?_
    refine ct_125 hS (fun σ' hR hlo hS' => ⟨none, rfl, ?_⟩)
    exact law_3 h3 hS' hC hR hlo hQ
  have hr := l_run (sc := sc) (N0 := 136) (b0 := q_eh 136 pm_h0 (NS 88 C r)) (D := 831) 10 12 0 252 7 ls_0 [vr 0] (136, 10333) (l_hole 136) 12 ls_1 [vr 136, vr 136] (137, 10411) l_R Q lq_1 l_baseP (fun _ => key)
  rw [← l_base, List.length_replicate] at hr
  exact hr
theorem law_1 (h3 : sc.1 ≤ 3072) (hQ : ∀ g h, Q (.inl (some (.int 1))) g h) : px sc 832 252 0 (ls_0.map l_v) (([] : List V2).map l_v) (0, 0) (0, true) pm_h0 Q := by
  have key : px sc 832 252 4 (ls_0.map l_v) (([vr 0, vr 0] : List V2).map l_v) (1, 15) (([.inr (14, l_df 14)] : List LC).length, true) (l_hb 0 (q_eh 0 pm_h0 sg_0) [.inr (14, l_df 14)]) Q := by
    refine px_call (D := 831) (y' := 93) (as := [.ref 0]) (st' := [.ref 0]) (i := .invokespecial 75) (by decide +kernel) (l_call (as := [vr 0]) (st' := [vr 0]) (n_eq_ok (by decide +kernel))) ⟨by decide, by decide +kernel, rfl, by decide +kernel⟩ ?_
    refine ct_93 (fun r' hC hS => ⟨none, rfl, ?_⟩)
    exact law_2 h3 hS hC hQ
  have hr := l_run (sc := sc) (N0 := 0) (b0 := q_eh 0 pm_h0 sg_0) (D := 831) 10 4 0 252 0 ls_0 [] (0, 0) [] 4 ls_0 [vr 0, vr 0] (1, 15) [.inr (14, l_df 14)] Q lq_0 ⟨Nat.zero_le _, fun a h => absurd h (Nat.not_lt_zero a)⟩ (fun _ => key)
  rw [l_nil] at hr
  exact hr
end PCL
theorem pure_claim : pm_Claim 3072 := by
  intro L xs hL
  obtain ⟨n, r, g, h, he, rfl⟩ := law_1 (sc := (L, xs)) (Q := fun r _ _ => r = .inl (some (.int 1))) hL (fun _ _ => rfl)
  exact ⟨n, g, h, he⟩
