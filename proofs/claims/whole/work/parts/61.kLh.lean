/-! site rules of the law -/
section LWR
variable {sc : Nat × (Nat → Int32)} {D y pc : Nat} {ls st : List V2} {u : PU} {bb : Bool} {σ : St} {Q Q' : QP} {x i a' b' : Int} {k idx a c : Nat}
theorem qx_mono (h : ∀ r bb σ, Q r bb σ → Q' r bb σ) (hq : qx sc D y pc ls st u bb σ Q) : qx sc D y pc ls st u bb σ Q' := by
  obtain ⟨n, r, bb', σ', h1, h2⟩ := hq
  exact ⟨n, r, bb', σ', h1, h r bb' σ' h2⟩
theorem r_callh {y' n m : Nat} {as st' ls' : List V2} (h : pm_dec y pc = some (.invokevirtual idx) ∧ pm_mth (pm_own y) idx = some (0, y') ∧ pm_np y' = n ∧ pm_nL y' = m ∧ (match q_sh a with | .inr (c, _) => decide (c = pm_own y' ∧ a < q_N) | .inl _ => false) = true ∧ pm_fits y 0 0 u = true ∧ pm_fits y (pm_bc y') (pm_bs y') u = true)
    (ht : q_take (n + 1) st = some (vr a :: as, st')) (hs : q_sum st ≤ 100) (hc : q_sum st' ≤ 8 ∧ (vr a :: as).length ≤ m ∧ (vr a :: as).all (fun v => q_cat v == 1) = true) (hl : (vr a :: as) ++ List.replicate (m - (vr a :: as).length) vn = ls') :
    qx sc (D + 1) y pc ls st u bb σ Q ↔ qx sc D y' 0 ls' [] (0, 0) bb σ (q_k sc D y pc y' ls st' u Q) := by
  obtain ⟨h1, h2, rfl, rfl, h5, h7, h8⟩ := h
  rw [← hl]
  refine qx_call h1 ?_ ⟨hc.1, hc.2.1, hc.2.2, h8⟩
  simp only [q_act, h2, true_or, if_true, q_call]
  rw [if_pos ⟨hs, h7⟩]
  simp only [ht]
  split at h5
  · rename_i c9 fs9 hsh
    rw [hsh]
    simp only
    rw [if_pos (by simpa using h5)]
  · cases h5
theorem qk_val {y' p3 : Nat} {u' : PU} {v : V2} (hu : (u.1 + pm_bc y', u.2 + pm_bs y') = u' ∧ pc + 3 = p3) : q_k sc D y pc y' ls st u Q (.inl (some v)) bb σ ↔ qx sc (D + 1) y p3 ls (v :: st) u' bb σ Q := by
  obtain ⟨rfl, rfl⟩ := hu
  exact Iff.rfl
theorem qk_exc {y' pc' e : Nat} {u' : PU} {ls' : List V2} (hu : (u.1 + pm_bc y', u.2 + pm_bs y') = u' ∧ pm_ini y' = false ∧ ¬ pm_hh y = []) (hcat : q_catch y pc e ls = some (pc', ls')) : q_k sc D y pc y' ls st u Q (.inr e) bb σ ↔ qx sc (D + 1) y pc' ls' [] u' bb σ Q := by
  obtain ⟨rfl, h2, h3⟩ := hu
  simp only [q_k, h2, if_neg h3, hcat]
  simp
theorem q_catch_n {e p' : Nat} {k : Fin 4} {z : Nat × Nat × Nat × Nat} (h : (pm_hh y).find? (fun x => decide (x.1 ≤ pc) && decide (pc < x.2.1) && (x.2.2.1 == e)) = some z ∧ pm_dec y z.2.2.2 = some (.astore_n k) ∧ z.2.2.2 + 1 = p') (hl : k.val < ls.length) : q_catch y pc e ls = some (p', ls.set k.val vn) := by
  obtain ⟨h1, h2, rfl⟩ := h
  simp only [q_catch, h1, h2, if_pos hl]
theorem q_catch_a {e p' k : Nat} {z : Nat × Nat × Nat × Nat} (h : (pm_hh y).find? (fun x => decide (x.1 ≤ pc) && decide (pc < x.2.1) && (x.2.2.1 == e)) = some z ∧ pm_dec y z.2.2.2 = some (.astore k) ∧ z.2.2.2 + 2 = p') (hl : k < ls.length) : q_catch y pc e ls = some (p', ls.set k vn) := by
  obtain ⟨h1, h2, rfl⟩ := h
  simp only [q_catch, h1, h2, if_pos hl]
theorem r_scr (h : pm_dec y pc = some .iaload ∧ pm_own y = 16) : qx sc D y pc ls (vi i :: vr 1000000 :: st) u bb σ Q ↔ (0 ≤ i ∧ i < sc.1) ∧ qx sc D y (pc + 1) ls (vi (sc.2 i.toNat).toInt :: st) u bb σ Q :=
  r_and (fun hr => qx_go h.1 (by simp only [q_act]; rw [if_pos ⟨trivial, h.2⟩, if_pos hr])) (fun hr => qx_no h.1 (by simp only [q_act]; rw [if_pos ⟨trivial, h.2⟩, if_neg hr]))
theorem r_sln (h : pm_dec y pc = some .arraylength ∧ pm_own y = 16) : qx sc D y pc ls (vr 1000000 :: st) u bb σ Q ↔ q_R sc.1 ∧ qx sc D y (pc + 1) ls (vi sc.1 :: st) u bb σ Q :=
  r_and (fun hr => qx_go h.1 (by simp only [q_act]; rw [if_pos ⟨trivial, h.2⟩]; simp only [q_push, if_pos hr])) (fun hr => qx_no h.1 (by simp only [q_act]; rw [if_pos ⟨trivial, h.2⟩]; simp only [q_push, if_neg hr]))
theorem fit252 {p q : Nat} (h : u.1 + p ≤ 601024 ∧ u.2 + q ≤ 7293034) : pm_fits 252 p q u = true := by
  unfold pm_fits
  have e1 : pm_bc 252 = 601024 := rfl
  have e2 : pm_bs 252 = 7293034 := rfl
  rw [e1, e2, decide_eq_true h.1, decide_eq_true h.2]
  rfl
theorem r_callvU {y' n m p3 b1 b2 : Nat} {as st' ls' : List V2} (h : pm_dec 252 pc = some (.invokevirtual idx) ∧ pm_mth (pm_own 252) idx = some (0, y') ∧ pm_np y' = n ∧ pm_nL y' = m ∧ (match q_sh a with | .inr (c, _) => decide (c = pm_own y' ∧ a < q_N) | .inl _ => false) = true ∧ (pm_ini y' = false ∧ pm_hh 252 = []) ∧ pm_bc y' = b1 ∧ pm_bs y' = b2 ∧ pc + 3 = p3) (hf : u.1 + b1 ≤ 601024 ∧ u.2 + b2 ≤ 7293034)
    (ht : q_take (n + 1) st = some (vr a :: as, st')) (hs : q_sum st ≤ 100) (hc : q_sum st' ≤ 8 ∧ (vr a :: as).length ≤ m ∧ (vr a :: as).all (fun v => q_cat v == 1) = true) (hl : (vr a :: as) ++ List.replicate (m - (vr a :: as).length) vn = ls') :
    qx sc (D + 1) 252 pc ls st u bb σ Q ↔ qx sc D y' 0 ls' [] (0, 0) bb σ (q_kn sc (D + 1) 252 p3 ls st' (u.1 + b1, u.2 + b2) Q) := by
  obtain ⟨h1, h2, h3, h4, h5, h6, rfl, rfl, h9⟩ := h
  exact r_callv ⟨h1, h2, h3, h4, h5, h6, fit252 (by omega), fit252 hf, rfl, h9⟩ ht hs hc hl
theorem r_callsU {y' n m p3 b1 b2 : Nat} {as st' ls' : List V2} (h : pm_dec 252 pc = some (.invokestatic idx) ∧ pm_mth (pm_own 252) idx = some (2, y') ∧ pm_np y' = n ∧ pm_nL y' = m ∧ (pm_ini y' = false ∧ pm_hh 252 = []) ∧ pm_bc y' = b1 ∧ pm_bs y' = b2 ∧ pc + 3 = p3) (hf : u.1 + b1 ≤ 601024 ∧ u.2 + b2 ≤ 7293034)
    (ht : q_take n st = some (as, st')) (hs : q_sum st ≤ 100) (hc : q_sum st' ≤ 8 ∧ as.length ≤ m ∧ as.all (fun v => q_cat v == 1) = true) (hl : as ++ List.replicate (m - as.length) vn = ls') :
    qx sc (D + 1) 252 pc ls st u bb σ Q ↔ qx sc D y' 0 ls' [] (0, 0) bb σ (q_kn sc (D + 1) 252 p3 ls st' (u.1 + b1, u.2 + b2) Q) := by
  obtain ⟨h1, h2, h3, h4, h5, rfl, rfl, h9⟩ := h
  exact r_calls ⟨h1, h2, h3, h4, h5, fit252 (by omega), fit252 hf, rfl, h9⟩ ht hs hc hl
theorem r_callsX {y' n m p3 b1 b2 : Nat} {as st' ls' : List V2} (h : pm_dec 252 pc = some (.invokestatic idx) ∧ pm_mth (pm_own 252) idx = some (10, y') ∧ pm_np y' = n ∧ pm_nL y' = m ∧ (pm_ini y' = false ∧ pm_hh 252 = []) ∧ pm_bc y' = b1 ∧ pm_bs y' = b2 ∧ pc + 3 = p3) (hf : u.1 + b1 ≤ 601024 ∧ u.2 + b2 ≤ 7293034)
    (ht : q_take n st = some (as, st')) (hs : q_sum st ≤ 100) (hc : q_sum st' ≤ 8 ∧ as.length ≤ m ∧ as.all (fun v => q_cat v == 1) = true) (hl : as ++ List.replicate (m - as.length) vn = ls') :
    qx sc (D + 1) 252 pc ls st u bb σ Q ↔ qx sc D y' 0 ls' [] (0, 0) bb σ (q_kn sc (D + 1) 252 p3 ls st' (u.1 + b1, u.2 + b2) Q) := by
  obtain ⟨h1, h2, rfl, rfl, h6, rfl, rfl, rfl⟩ := h
  have hk := q_k_eq (sc := sc) (D := D) (y := 252) (pc := pc) (ls := ls) (st := st') (u := u) (Q := Q) h6
  rw [← hk, ← hl]
  refine qx_call h1 ?_ ⟨hc.1, hc.2.1, hc.2.2, fit252 hf⟩
  simp only [q_act, h2, or_true, if_true, q_call]
  rw [if_pos ⟨hs, fit252 (by omega)⟩]
  simp only [ht, Option.bind_some]
end LWR
section K_LW
variable {sc : Nat × (Nat → Int32)} {D : Nat} {ls st : List V2} {u : PU} {bb : Bool} {σ : St} {Q : QP} {x i a' b' x0 x1 x2 x3 x4 x5 x20 x21 x22 x23 x24 : Int} {a b c a0 a1 a2 a3 a4 a20 a21 a22 a23 : Nat} {l0 l1 l2 l3 l4 l5 l6 l7 l8 l9 l10 l11 l12 : V2}
theorem k232_0 : qx sc D 232 0 [l0, l1, l2, vr a, l4] st u bb σ Q ↔ qx sc D 232 1 [l0, l1, l2, vr a, l4] (vr a :: st) u bb σ Q := r_aload_n (k := 3) (by decide +kernel) rfl
theorem k232_1 : qx sc D 232 1 ls st u bb σ Q ↔ qx sc D 232 2 ls (vi 0 :: st) u bb σ Q := r_iconst (by decide +kernel)
theorem k232_2 : qx sc D 232 2 [vr a, l1, l2, l3, l4] st u bb σ Q ↔ qx sc D 232 3 [vr a, l1, l2, l3, l4] (vr a :: st) u bb σ Q := r_aload_n (k := 0) (by decide +kernel) rfl
theorem k232_3 : qx sc D 232 3 [l0, vi x, l2, l3, l4] st u bb σ Q ↔ qx sc D 232 4 [l0, vi x, l2, l3, l4] (vi x :: st) u bb σ Q := r_iload_n (k := 1) (by decide +kernel) rfl
theorem k232_4 : qx sc D 232 4 [l0, l1, vi x, l3, l4] st u bb σ Q ↔ qx sc D 232 5 [l0, l1, vi x, l3, l4] (vi x :: st) u bb σ Q := r_iload_n (k := 2) (by decide +kernel) rfl
theorem k232_5 : qx sc (D + 1) 232 5 ls [vi x1, vi x0, vr 0, vi x20, vr a20] (0, 0) bb σ Q ↔ qx sc D 94 0 [vr 0, vi x0, vi x1] [] (0, 0) bb σ (q_k sc D 232 5 94 ls [vi x20, vr a20] (0, 0) Q) := r_callh (idx := 26) (n := 2) (m := 3) (by decide +kernel) rfl (Nat.le_of_ble_eq_true rfl) ⟨Nat.le_of_ble_eq_true rfl, Nat.le_of_ble_eq_true rfl, rfl⟩ rfl
theorem k232_8 : qx sc D 232 8 ls (vi a' :: st) u bb σ Q ↔ qx sc D 232 9 ls (vl a' :: st) u bb σ Q := r_i2l (by decide +kernel)
theorem k232_9 : qx sc D 232 9 ls (vl x :: vi i :: vr a :: st) u bb σ Q ↔ (q_ty a = 3 ∧ 0 ≤ i ∧ i < q_ln a) ∧ qx sc D 232 10 ls st u bb (q_up σ a i x) Q := r_last (by decide +kernel)
theorem k232_10 : qx sc D 232 10 ls st u bb σ Q ↔ qx sc D 232 21 ls st u bb σ Q := r_goto (off := 11) (by decide +kernel)
theorem k232_21 : qx sc D 232 21 ls st u bb σ Q ↔ qx sc D 232 22 ls (vi 0 :: st) u bb σ Q := r_iconst (by decide +kernel)
theorem k232_22 : qx sc D 232 22 ls [vi x] (4, 24) bb σ Q ↔ Q (.inl (some (vi x))) bb σ := r_ret (by decide +kernel)
theorem k232_15 : qx sc D 232 15 ls st u bb σ Q ↔ qx sc D 232 16 ls (vi 1 :: st) u bb σ Q := r_iconst (by decide +kernel)
theorem k232_16 : qx sc D 232 16 ls [vi x] (4, 24) bb σ Q ↔ Q (.inl (some (vi x))) bb σ := r_ret (by decide +kernel)
theorem k232_19 : qx sc D 232 19 ls st u bb σ Q ↔ qx sc D 232 20 ls (vi 2 :: st) u bb σ Q := r_iconst (by decide +kernel)
theorem k232_20 : qx sc D 232 20 ls [vi x] (4, 24) bb σ Q ↔ Q (.inl (some (vi x))) bb σ := r_ret (by decide +kernel)
theorem k233_0 : qx sc D 233 0 [l0, l1, vr a, l3] st u bb σ Q ↔ qx sc D 233 1 [l0, l1, vr a, l3] (vr a :: st) u bb σ Q := r_aload_n (k := 2) (by decide +kernel) rfl
theorem k233_1 : qx sc D 233 1 ls st u bb σ Q ↔ qx sc D 233 2 ls (vi 0 :: st) u bb σ Q := r_iconst (by decide +kernel)
theorem k233_2 : qx sc D 233 2 [vr a, l1, l2, l3] st u bb σ Q ↔ qx sc D 233 3 [vr a, l1, l2, l3] (vr a :: st) u bb σ Q := r_aload_n (k := 0) (by decide +kernel) rfl
theorem k233_3 : qx sc D 233 3 [l0, vi x, l2, l3] st u bb σ Q ↔ qx sc D 233 4 [l0, vi x, l2, l3] (vi x :: st) u bb σ Q := r_iload_n (k := 1) (by decide +kernel) rfl
theorem k233_4 : qx sc (D + 1) 233 4 ls [vi x0, vr 0, vi x20, vr a20] (0, 0) bb σ Q ↔ qx sc D 96 0 [vr 0, vi x0, vn] [] (0, 0) bb σ (q_k sc D 233 4 96 ls [vi x20, vr a20] (0, 0) Q) := r_callh (idx := 31) (n := 1) (m := 3) (by decide +kernel) rfl (Nat.le_of_ble_eq_true rfl) ⟨Nat.le_of_ble_eq_true rfl, Nat.le_of_ble_eq_true rfl, rfl⟩ rfl
theorem k233_7 : qx sc D 233 7 ls (vi a' :: st) u bb σ Q ↔ qx sc D 233 8 ls (vl a' :: st) u bb σ Q := r_i2l (by decide +kernel)
theorem k233_8 : qx sc D 233 8 ls (vl x :: vi i :: vr a :: st) u bb σ Q ↔ (q_ty a = 3 ∧ 0 ≤ i ∧ i < q_ln a) ∧ qx sc D 233 9 ls st u bb (q_up σ a i x) Q := r_last (by decide +kernel)
theorem k233_9 : qx sc D 233 9 ls st u bb σ Q ↔ qx sc D 233 15 ls st u bb σ Q := r_goto (off := 6) (by decide +kernel)
theorem k233_15 : qx sc D 233 15 ls st u bb σ Q ↔ qx sc D 233 16 ls (vi 0 :: st) u bb σ Q := r_iconst (by decide +kernel)
theorem k233_16 : qx sc D 233 16 ls [vi x] (4, 24) bb σ Q ↔ Q (.inl (some (vi x))) bb σ := r_ret (by decide +kernel)
theorem k233_13 : qx sc D 233 13 ls st u bb σ Q ↔ qx sc D 233 14 ls (vi 1 :: st) u bb σ Q := r_iconst (by decide +kernel)
theorem k233_14 : qx sc D 233 14 ls [vi x] (4, 24) bb σ Q ↔ Q (.inl (some (vi x))) bb σ := r_ret (by decide +kernel)
theorem k234_0 : qx sc D 234 0 [l0, l1, l2, l3, vr a, l5] st u bb σ Q ↔ qx sc D 234 2 [l0, l1, l2, l3, vr a, l5] (vr a :: st) u bb σ Q := r_aload (k := 4) (by decide +kernel) rfl
theorem k234_2 : qx sc D 234 2 ls st u bb σ Q ↔ qx sc D 234 3 ls (vi 0 :: st) u bb σ Q := r_iconst (by decide +kernel)
theorem k234_3 : qx sc D 234 3 [vr a, l1, l2, l3, l4, l5] st u bb σ Q ↔ qx sc D 234 4 [vr a, l1, l2, l3, l4, l5] (vr a :: st) u bb σ Q := r_aload_n (k := 0) (by decide +kernel) rfl
theorem k234_4 : qx sc D 234 4 [l0, vi x, l2, l3, l4, l5] st u bb σ Q ↔ qx sc D 234 5 [l0, vi x, l2, l3, l4, l5] (vi x :: st) u bb σ Q := r_iload_n (k := 1) (by decide +kernel) rfl
theorem k234_5 : qx sc D 234 5 [l0, l1, vi x, l3, l4, l5] st u bb σ Q ↔ qx sc D 234 6 [l0, l1, vi x, l3, l4, l5] (vi x :: st) u bb σ Q := r_iload_n (k := 2) (by decide +kernel) rfl
theorem k234_6 : qx sc D 234 6 [l0, l1, l2, vi x, l4, l5] st u bb σ Q ↔ qx sc D 234 7 [l0, l1, l2, vi x, l4, l5] (vi x :: st) u bb σ Q := r_iload_n (k := 3) (by decide +kernel) rfl
theorem k234_7 : qx sc (D + 1) 234 7 ls [vi x2, vi x1, vi x0, vr 0, vi x20, vr a20] (0, 0) bb σ Q ↔ qx sc D 97 0 [vr 0, vi x0, vi x1, vi x2] [] (0, 0) bb σ (q_k sc D 234 7 97 ls [vi x20, vr a20] (0, 0) Q) := r_callh (idx := 38) (n := 3) (m := 4) (by decide +kernel) rfl (Nat.le_of_ble_eq_true rfl) ⟨Nat.le_of_ble_eq_true rfl, Nat.le_of_ble_eq_true rfl, rfl⟩ rfl
theorem k234_10 : qx sc D 234 10 ls (vi a' :: st) u bb σ Q ↔ qx sc D 234 11 ls (vl a' :: st) u bb σ Q := r_i2l (by decide +kernel)
theorem k234_11 : qx sc D 234 11 ls (vl x :: vi i :: vr a :: st) u bb σ Q ↔ (q_ty a = 3 ∧ 0 ≤ i ∧ i < q_ln a) ∧ qx sc D 234 12 ls st u bb (q_up σ a i x) Q := r_last (by decide +kernel)
theorem k234_12 : qx sc D 234 12 ls st u bb σ Q ↔ qx sc D 234 23 ls st u bb σ Q := r_goto (off := 11) (by decide +kernel)
theorem k234_23 : qx sc D 234 23 ls st u bb σ Q ↔ qx sc D 234 24 ls (vi 0 :: st) u bb σ Q := r_iconst (by decide +kernel)
theorem k234_24 : qx sc D 234 24 ls [vi x] (4, 24) bb σ Q ↔ Q (.inl (some (vi x))) bb σ := r_ret (by decide +kernel)
theorem k234_17 : qx sc D 234 17 ls st u bb σ Q ↔ qx sc D 234 18 ls (vi 1 :: st) u bb σ Q := r_iconst (by decide +kernel)
theorem k234_18 : qx sc D 234 18 ls [vi x] (4, 24) bb σ Q ↔ Q (.inl (some (vi x))) bb σ := r_ret (by decide +kernel)
theorem k234_21 : qx sc D 234 21 ls st u bb σ Q ↔ qx sc D 234 22 ls (vi 2 :: st) u bb σ Q := r_iconst (by decide +kernel)
theorem k234_22 : qx sc D 234 22 ls [vi x] (4, 24) bb σ Q ↔ Q (.inl (some (vi x))) bb σ := r_ret (by decide +kernel)
theorem k235_0 : qx sc D 235 0 [l0, l1, l2, vr a, l4] st u bb σ Q ↔ qx sc D 235 1 [l0, l1, l2, vr a, l4] (vr a :: st) u bb σ Q := r_aload_n (k := 3) (by decide +kernel) rfl
theorem k235_1 : qx sc D 235 1 ls st u bb σ Q ↔ qx sc D 235 2 ls (vi 0 :: st) u bb σ Q := r_iconst (by decide +kernel)
theorem k235_2 : qx sc D 235 2 [vr a, l1, l2, l3, l4] st u bb σ Q ↔ qx sc D 235 3 [vr a, l1, l2, l3, l4] (vr a :: st) u bb σ Q := r_aload_n (k := 0) (by decide +kernel) rfl
theorem k235_3 : qx sc D 235 3 [l0, vi x, l2, l3, l4] st u bb σ Q ↔ qx sc D 235 4 [l0, vi x, l2, l3, l4] (vi x :: st) u bb σ Q := r_iload_n (k := 1) (by decide +kernel) rfl
theorem k235_4 : qx sc D 235 4 [l0, l1, vi x, l3, l4] st u bb σ Q ↔ qx sc D 235 5 [l0, l1, vi x, l3, l4] (vi x :: st) u bb σ Q := r_iload_n (k := 2) (by decide +kernel) rfl
theorem k235_5 : qx sc (D + 1) 235 5 ls [vi x1, vi x0, vr 0, vi x20, vr a20] (0, 0) bb σ Q ↔ qx sc D 98 0 [vr 0, vi x0, vi x1] [] (0, 0) bb σ (q_k sc D 235 5 98 ls [vi x20, vr a20] (0, 0) Q) := r_callh (idx := 35) (n := 2) (m := 3) (by decide +kernel) rfl (Nat.le_of_ble_eq_true rfl) ⟨Nat.le_of_ble_eq_true rfl, Nat.le_of_ble_eq_true rfl, rfl⟩ rfl
theorem k235_8 : qx sc D 235 8 ls (vi a' :: st) u bb σ Q ↔ qx sc D 235 9 ls (vl a' :: st) u bb σ Q := r_i2l (by decide +kernel)
theorem k235_9 : qx sc D 235 9 ls (vl x :: vi i :: vr a :: st) u bb σ Q ↔ (q_ty a = 3 ∧ 0 ≤ i ∧ i < q_ln a) ∧ qx sc D 235 10 ls st u bb (q_up σ a i x) Q := r_last (by decide +kernel)
theorem k235_10 : qx sc D 235 10 ls st u bb σ Q ↔ qx sc D 235 21 ls st u bb σ Q := r_goto (off := 11) (by decide +kernel)
theorem k235_21 : qx sc D 235 21 ls st u bb σ Q ↔ qx sc D 235 22 ls (vi 0 :: st) u bb σ Q := r_iconst (by decide +kernel)
theorem k235_22 : qx sc D 235 22 ls [vi x] (4, 24) bb σ Q ↔ Q (.inl (some (vi x))) bb σ := r_ret (by decide +kernel)
theorem k235_15 : qx sc D 235 15 ls st u bb σ Q ↔ qx sc D 235 16 ls (vi 1 :: st) u bb σ Q := r_iconst (by decide +kernel)
theorem k235_16 : qx sc D 235 16 ls [vi x] (4, 24) bb σ Q ↔ Q (.inl (some (vi x))) bb σ := r_ret (by decide +kernel)
theorem k235_19 : qx sc D 235 19 ls st u bb σ Q ↔ qx sc D 235 20 ls (vi 2 :: st) u bb σ Q := r_iconst (by decide +kernel)
theorem k235_20 : qx sc D 235 20 ls [vi x] (4, 24) bb σ Q ↔ Q (.inl (some (vi x))) bb σ := r_ret (by decide +kernel)
theorem k236_0 : qx sc D 236 0 [l0, l1, vr a, l3] st u bb σ Q ↔ qx sc D 236 1 [l0, l1, vr a, l3] (vr a :: st) u bb σ Q := r_aload_n (k := 2) (by decide +kernel) rfl
theorem k236_1 : qx sc D 236 1 ls st u bb σ Q ↔ qx sc D 236 2 ls (vi 0 :: st) u bb σ Q := r_iconst (by decide +kernel)
theorem k236_2 : qx sc D 236 2 [vr a, l1, l2, l3] st u bb σ Q ↔ qx sc D 236 3 [vr a, l1, l2, l3] (vr a :: st) u bb σ Q := r_aload_n (k := 0) (by decide +kernel) rfl
theorem k236_3 : qx sc D 236 3 [l0, vi x, l2, l3] st u bb σ Q ↔ qx sc D 236 4 [l0, vi x, l2, l3] (vi x :: st) u bb σ Q := r_iload_n (k := 1) (by decide +kernel) rfl
theorem k236_4 : qx sc (D + 1) 236 4 ls [vi x0, vr 0, vi x20, vr a20] (0, 0) bb σ Q ↔ qx sc D 103 0 [vr 0, vi x0] [] (0, 0) bb σ (q_k sc D 236 4 103 ls [vi x20, vr a20] (0, 0) Q) := r_callh (idx := 49) (n := 1) (m := 2) (by decide +kernel) rfl (Nat.le_of_ble_eq_true rfl) ⟨Nat.le_of_ble_eq_true rfl, Nat.le_of_ble_eq_true rfl, rfl⟩ rfl
theorem k236_7 : qx sc D 236 7 ls (vi a' :: st) u bb σ Q ↔ qx sc D 236 8 ls (vl a' :: st) u bb σ Q := r_i2l (by decide +kernel)
theorem k236_8 : qx sc D 236 8 ls (vl x :: vi i :: vr a :: st) u bb σ Q ↔ (q_ty a = 3 ∧ 0 ≤ i ∧ i < q_ln a) ∧ qx sc D 236 9 ls st u bb (q_up σ a i x) Q := r_last (by decide +kernel)
theorem k236_9 : qx sc D 236 9 ls st u bb σ Q ↔ qx sc D 236 15 ls st u bb σ Q := r_goto (off := 6) (by decide +kernel)
theorem k236_15 : qx sc D 236 15 ls st u bb σ Q ↔ qx sc D 236 16 ls (vi 0 :: st) u bb σ Q := r_iconst (by decide +kernel)
theorem k236_16 : qx sc D 236 16 ls [vi x] (4, 24) bb σ Q ↔ Q (.inl (some (vi x))) bb σ := r_ret (by decide +kernel)
theorem k236_13 : qx sc D 236 13 ls st u bb σ Q ↔ qx sc D 236 14 ls (vi 1 :: st) u bb σ Q := r_iconst (by decide +kernel)
theorem k236_14 : qx sc D 236 14 ls [vi x] (4, 24) bb σ Q ↔ Q (.inl (some (vi x))) bb σ := r_ret (by decide +kernel)
theorem k237_0 : qx sc D 237 0 [l0, l1, l2, vr a, l4] st u bb σ Q ↔ qx sc D 237 1 [l0, l1, l2, vr a, l4] (vr a :: st) u bb σ Q := r_aload_n (k := 3) (by decide +kernel) rfl
theorem k237_1 : qx sc D 237 1 ls st u bb σ Q ↔ qx sc D 237 2 ls (vi 0 :: st) u bb σ Q := r_iconst (by decide +kernel)
theorem k237_2 : qx sc D 237 2 [vr a, l1, l2, l3, l4] st u bb σ Q ↔ qx sc D 237 3 [vr a, l1, l2, l3, l4] (vr a :: st) u bb σ Q := r_aload_n (k := 0) (by decide +kernel) rfl
theorem k237_3 : qx sc D 237 3 [l0, vi x, l2, l3, l4] st u bb σ Q ↔ qx sc D 237 4 [l0, vi x, l2, l3, l4] (vi x :: st) u bb σ Q := r_iload_n (k := 1) (by decide +kernel) rfl
theorem k237_4 : qx sc D 237 4 [l0, l1, vi x, l3, l4] st u bb σ Q ↔ qx sc D 237 5 [l0, l1, vi x, l3, l4] (vi x :: st) u bb σ Q := r_iload_n (k := 2) (by decide +kernel) rfl
theorem k237_5 : qx sc (D + 1) 237 5 ls [vi x1, vi x0, vr 0, vi x20, vr a20] (0, 0) bb σ Q ↔ qx sc D 104 0 [vr 0, vi x0, vi x1, vn] [] (0, 0) bb σ (q_k sc D 237 5 104 ls [vi x20, vr a20] (0, 0) Q) := r_callh (idx := 55) (n := 2) (m := 4) (by decide +kernel) rfl (Nat.le_of_ble_eq_true rfl) ⟨Nat.le_of_ble_eq_true rfl, Nat.le_of_ble_eq_true rfl, rfl⟩ rfl
theorem k237_8 : qx sc D 237 8 ls (vi a' :: st) u bb σ Q ↔ qx sc D 237 9 ls (vl a' :: st) u bb σ Q := r_i2l (by decide +kernel)
theorem k237_9 : qx sc D 237 9 ls (vl x :: vi i :: vr a :: st) u bb σ Q ↔ (q_ty a = 3 ∧ 0 ≤ i ∧ i < q_ln a) ∧ qx sc D 237 10 ls st u bb (q_up σ a i x) Q := r_last (by decide +kernel)
theorem k237_10 : qx sc D 237 10 ls st u bb σ Q ↔ qx sc D 237 17 ls st u bb σ Q := r_goto (off := 7) (by decide +kernel)
theorem k237_17 : qx sc D 237 17 ls st u bb σ Q ↔ qx sc D 237 18 ls (vi 0 :: st) u bb σ Q := r_iconst (by decide +kernel)
theorem k237_18 : qx sc D 237 18 ls [vi x] (4, 24) bb σ Q ↔ Q (.inl (some (vi x))) bb σ := r_ret (by decide +kernel)
theorem k237_15 : qx sc D 237 15 ls st u bb σ Q ↔ qx sc D 237 16 ls (vi 1 :: st) u bb σ Q := r_iconst (by decide +kernel)
theorem k237_16 : qx sc D 237 16 ls [vi x] (4, 24) bb σ Q ↔ Q (.inl (some (vi x))) bb σ := r_ret (by decide +kernel)
theorem k238_0 : qx sc D 238 0 [l0, l1, l2, vr a, l4] st u bb σ Q ↔ qx sc D 238 1 [l0, l1, l2, vr a, l4] (vr a :: st) u bb σ Q := r_aload_n (k := 3) (by decide +kernel) rfl
theorem k238_1 : qx sc D 238 1 ls st u bb σ Q ↔ qx sc D 238 2 ls (vi 0 :: st) u bb σ Q := r_iconst (by decide +kernel)
theorem k238_2 : qx sc D 238 2 [vr a, l1, l2, l3, l4] st u bb σ Q ↔ qx sc D 238 3 [vr a, l1, l2, l3, l4] (vr a :: st) u bb σ Q := r_aload_n (k := 0) (by decide +kernel) rfl
theorem k238_3 : qx sc D 238 3 [l0, vi x, l2, l3, l4] st u bb σ Q ↔ qx sc D 238 4 [l0, vi x, l2, l3, l4] (vi x :: st) u bb σ Q := r_iload_n (k := 1) (by decide +kernel) rfl
theorem k238_4 : qx sc D 238 4 [l0, l1, vi x, l3, l4] st u bb σ Q ↔ qx sc D 238 5 [l0, l1, vi x, l3, l4] (vi x :: st) u bb σ Q := r_iload_n (k := 2) (by decide +kernel) rfl
theorem k238_5 : qx sc (D + 1) 238 5 ls [vi x1, vi x0, vr 0, vi x20, vr a20] (0, 0) bb σ Q ↔ qx sc D 105 0 [vr 0, vi x0, vi x1, vn] [] (0, 0) bb σ (q_k sc D 238 5 105 ls [vi x20, vr a20] (0, 0) Q) := r_callh (idx := 52) (n := 2) (m := 4) (by decide +kernel) rfl (Nat.le_of_ble_eq_true rfl) ⟨Nat.le_of_ble_eq_true rfl, Nat.le_of_ble_eq_true rfl, rfl⟩ rfl
theorem k238_8 : qx sc D 238 8 ls (vi a' :: st) u bb σ Q ↔ qx sc D 238 9 ls (vl a' :: st) u bb σ Q := r_i2l (by decide +kernel)
theorem k238_9 : qx sc D 238 9 ls (vl x :: vi i :: vr a :: st) u bb σ Q ↔ (q_ty a = 3 ∧ 0 ≤ i ∧ i < q_ln a) ∧ qx sc D 238 10 ls st u bb (q_up σ a i x) Q := r_last (by decide +kernel)
theorem k238_10 : qx sc D 238 10 ls st u bb σ Q ↔ qx sc D 238 21 ls st u bb σ Q := r_goto (off := 11) (by decide +kernel)
theorem k238_21 : qx sc D 238 21 ls st u bb σ Q ↔ qx sc D 238 22 ls (vi 0 :: st) u bb σ Q := r_iconst (by decide +kernel)
theorem k238_22 : qx sc D 238 22 ls [vi x] (4, 24) bb σ Q ↔ Q (.inl (some (vi x))) bb σ := r_ret (by decide +kernel)
theorem k238_15 : qx sc D 238 15 ls st u bb σ Q ↔ qx sc D 238 16 ls (vi 1 :: st) u bb σ Q := r_iconst (by decide +kernel)
theorem k238_16 : qx sc D 238 16 ls [vi x] (4, 24) bb σ Q ↔ Q (.inl (some (vi x))) bb σ := r_ret (by decide +kernel)
theorem k238_19 : qx sc D 238 19 ls st u bb σ Q ↔ qx sc D 238 20 ls (vi 2 :: st) u bb σ Q := r_iconst (by decide +kernel)
theorem k238_20 : qx sc D 238 20 ls [vi x] (4, 24) bb σ Q ↔ Q (.inl (some (vi x))) bb σ := r_ret (by decide +kernel)
theorem k239_0 : qx sc D 239 0 [l0, l1, l2, vr a, l4] st u bb σ Q ↔ qx sc D 239 1 [l0, l1, l2, vr a, l4] (vr a :: st) u bb σ Q := r_aload_n (k := 3) (by decide +kernel) rfl
theorem k239_1 : qx sc D 239 1 ls st u bb σ Q ↔ qx sc D 239 2 ls (vi 0 :: st) u bb σ Q := r_iconst (by decide +kernel)
theorem k239_2 : qx sc D 239 2 [vr a, l1, l2, l3, l4] st u bb σ Q ↔ qx sc D 239 3 [vr a, l1, l2, l3, l4] (vr a :: st) u bb σ Q := r_aload_n (k := 0) (by decide +kernel) rfl
theorem k239_3 : qx sc D 239 3 [l0, vi x, l2, l3, l4] st u bb σ Q ↔ qx sc D 239 4 [l0, vi x, l2, l3, l4] (vi x :: st) u bb σ Q := r_iload_n (k := 1) (by decide +kernel) rfl
theorem k239_4 : qx sc D 239 4 [l0, l1, vi x, l3, l4] st u bb σ Q ↔ qx sc D 239 5 [l0, l1, vi x, l3, l4] (vi x :: st) u bb σ Q := r_iload_n (k := 2) (by decide +kernel) rfl
theorem k239_5 : qx sc (D + 1) 239 5 ls [vi x1, vi x0, vr 0, vi x20, vr a20] (0, 0) bb σ Q ↔ qx sc D 106 0 [vr 0, vi x0, vi x1, vn] [] (0, 0) bb σ (q_k sc D 239 5 106 ls [vi x20, vr a20] (0, 0) Q) := r_callh (idx := 46) (n := 2) (m := 4) (by decide +kernel) rfl (Nat.le_of_ble_eq_true rfl) ⟨Nat.le_of_ble_eq_true rfl, Nat.le_of_ble_eq_true rfl, rfl⟩ rfl
theorem k239_8 : qx sc D 239 8 ls (vi a' :: st) u bb σ Q ↔ qx sc D 239 9 ls (vl a' :: st) u bb σ Q := r_i2l (by decide +kernel)
theorem k239_9 : qx sc D 239 9 ls (vl x :: vi i :: vr a :: st) u bb σ Q ↔ (q_ty a = 3 ∧ 0 ≤ i ∧ i < q_ln a) ∧ qx sc D 239 10 ls st u bb (q_up σ a i x) Q := r_last (by decide +kernel)
theorem k239_10 : qx sc D 239 10 ls st u bb σ Q ↔ qx sc D 239 21 ls st u bb σ Q := r_goto (off := 11) (by decide +kernel)
theorem k239_21 : qx sc D 239 21 ls st u bb σ Q ↔ qx sc D 239 22 ls (vi 0 :: st) u bb σ Q := r_iconst (by decide +kernel)
theorem k239_22 : qx sc D 239 22 ls [vi x] (4, 24) bb σ Q ↔ Q (.inl (some (vi x))) bb σ := r_ret (by decide +kernel)
theorem k239_15 : qx sc D 239 15 ls st u bb σ Q ↔ qx sc D 239 16 ls (vi 1 :: st) u bb σ Q := r_iconst (by decide +kernel)
theorem k239_16 : qx sc D 239 16 ls [vi x] (4, 24) bb σ Q ↔ Q (.inl (some (vi x))) bb σ := r_ret (by decide +kernel)
theorem k239_19 : qx sc D 239 19 ls st u bb σ Q ↔ qx sc D 239 20 ls (vi 2 :: st) u bb σ Q := r_iconst (by decide +kernel)
theorem k239_20 : qx sc D 239 20 ls [vi x] (4, 24) bb σ Q ↔ Q (.inl (some (vi x))) bb σ := r_ret (by decide +kernel)
theorem k240_0 : qx sc D 240 0 [l0, l1, l2, vr a, l4] st u bb σ Q ↔ qx sc D 240 1 [l0, l1, l2, vr a, l4] (vr a :: st) u bb σ Q := r_aload_n (k := 3) (by decide +kernel) rfl
theorem k240_1 : qx sc D 240 1 ls st u bb σ Q ↔ qx sc D 240 2 ls (vi 0 :: st) u bb σ Q := r_iconst (by decide +kernel)
theorem k240_2 : qx sc D 240 2 [vr a, l1, l2, l3, l4] st u bb σ Q ↔ qx sc D 240 3 [vr a, l1, l2, l3, l4] (vr a :: st) u bb σ Q := r_aload_n (k := 0) (by decide +kernel) rfl
theorem k240_3 : qx sc D 240 3 [l0, vi x, l2, l3, l4] st u bb σ Q ↔ qx sc D 240 4 [l0, vi x, l2, l3, l4] (vi x :: st) u bb σ Q := r_iload_n (k := 1) (by decide +kernel) rfl
theorem k240_4 : qx sc D 240 4 [l0, l1, vi x, l3, l4] st u bb σ Q ↔ qx sc D 240 5 [l0, l1, vi x, l3, l4] (vi x :: st) u bb σ Q := r_iload_n (k := 2) (by decide +kernel) rfl
theorem k240_5 : qx sc (D + 1) 240 5 ls [vi x1, vi x0, vr 0, vi x20, vr a20] (0, 0) bb σ Q ↔ qx sc D 115 0 [vr 0, vi x0, vi x1] [] (0, 0) bb σ (q_k sc D 240 5 115 ls [vi x20, vr a20] (0, 0) Q) := r_callh (idx := 61) (n := 2) (m := 3) (by decide +kernel) rfl (Nat.le_of_ble_eq_true rfl) ⟨Nat.le_of_ble_eq_true rfl, Nat.le_of_ble_eq_true rfl, rfl⟩ rfl
theorem k240_8 : qx sc D 240 8 ls (vi a' :: st) u bb σ Q ↔ qx sc D 240 9 ls (vl a' :: st) u bb σ Q := r_i2l (by decide +kernel)
theorem k240_9 : qx sc D 240 9 ls (vl x :: vi i :: vr a :: st) u bb σ Q ↔ (q_ty a = 3 ∧ 0 ≤ i ∧ i < q_ln a) ∧ qx sc D 240 10 ls st u bb (q_up σ a i x) Q := r_last (by decide +kernel)
theorem k240_10 : qx sc D 240 10 ls st u bb σ Q ↔ qx sc D 240 21 ls st u bb σ Q := r_goto (off := 11) (by decide +kernel)
theorem k240_21 : qx sc D 240 21 ls st u bb σ Q ↔ qx sc D 240 22 ls (vi 0 :: st) u bb σ Q := r_iconst (by decide +kernel)
theorem k240_22 : qx sc D 240 22 ls [vi x] (4, 24) bb σ Q ↔ Q (.inl (some (vi x))) bb σ := r_ret (by decide +kernel)
theorem k240_15 : qx sc D 240 15 ls st u bb σ Q ↔ qx sc D 240 16 ls (vi 1 :: st) u bb σ Q := r_iconst (by decide +kernel)
theorem k240_16 : qx sc D 240 16 ls [vi x] (4, 24) bb σ Q ↔ Q (.inl (some (vi x))) bb σ := r_ret (by decide +kernel)
theorem k240_19 : qx sc D 240 19 ls st u bb σ Q ↔ qx sc D 240 20 ls (vi 2 :: st) u bb σ Q := r_iconst (by decide +kernel)
theorem k240_20 : qx sc D 240 20 ls [vi x] (4, 24) bb σ Q ↔ Q (.inl (some (vi x))) bb σ := r_ret (by decide +kernel)
theorem k241_0 : qx sc D 241 0 [l0, l1, l2, l3, vr a, l5] st u bb σ Q ↔ qx sc D 241 2 [l0, l1, l2, l3, vr a, l5] (vr a :: st) u bb σ Q := r_aload (k := 4) (by decide +kernel) rfl
theorem k241_2 : qx sc D 241 2 ls st u bb σ Q ↔ qx sc D 241 3 ls (vi 0 :: st) u bb σ Q := r_iconst (by decide +kernel)
theorem k241_3 : qx sc D 241 3 [vr a, l1, l2, l3, l4, l5] st u bb σ Q ↔ qx sc D 241 4 [vr a, l1, l2, l3, l4, l5] (vr a :: st) u bb σ Q := r_aload_n (k := 0) (by decide +kernel) rfl
theorem k241_4 : qx sc D 241 4 [l0, vi x, l2, l3, l4, l5] st u bb σ Q ↔ qx sc D 241 5 [l0, vi x, l2, l3, l4, l5] (vi x :: st) u bb σ Q := r_iload_n (k := 1) (by decide +kernel) rfl
theorem k241_5 : qx sc D 241 5 [l0, l1, vi x, l3, l4, l5] st u bb σ Q ↔ qx sc D 241 6 [l0, l1, vi x, l3, l4, l5] (vi x :: st) u bb σ Q := r_iload_n (k := 2) (by decide +kernel) rfl
theorem k241_6 : qx sc D 241 6 [l0, l1, l2, vi x, l4, l5] st u bb σ Q ↔ qx sc D 241 7 [l0, l1, l2, vi x, l4, l5] (vi x :: st) u bb σ Q := r_iload_n (k := 3) (by decide +kernel) rfl
theorem k241_7 : qx sc (D + 1) 241 7 ls [vi x2, vi x1, vi x0, vr 0, vi x20, vr a20] (0, 0) bb σ Q ↔ qx sc D 116 0 [vr 0, vi x0, vi x1, vi x2] [] (0, 0) bb σ (q_k sc D 241 7 116 ls [vi x20, vr a20] (0, 0) Q) := r_callh (idx := 64) (n := 3) (m := 4) (by decide +kernel) rfl (Nat.le_of_ble_eq_true rfl) ⟨Nat.le_of_ble_eq_true rfl, Nat.le_of_ble_eq_true rfl, rfl⟩ rfl
theorem k241_10 : qx sc D 241 10 ls (vi a' :: st) u bb σ Q ↔ qx sc D 241 11 ls (vl a' :: st) u bb σ Q := r_i2l (by decide +kernel)
theorem k241_11 : qx sc D 241 11 ls (vl x :: vi i :: vr a :: st) u bb σ Q ↔ (q_ty a = 3 ∧ 0 ≤ i ∧ i < q_ln a) ∧ qx sc D 241 12 ls st u bb (q_up σ a i x) Q := r_last (by decide +kernel)
theorem k241_12 : qx sc D 241 12 ls st u bb σ Q ↔ qx sc D 241 27 ls st u bb σ Q := r_goto (off := 15) (by decide +kernel)
theorem k241_27 : qx sc D 241 27 ls st u bb σ Q ↔ qx sc D 241 28 ls (vi 0 :: st) u bb σ Q := r_iconst (by decide +kernel)
theorem k241_28 : qx sc D 241 28 ls [vi x] (4, 24) bb σ Q ↔ Q (.inl (some (vi x))) bb σ := r_ret (by decide +kernel)
theorem k241_17 : qx sc D 241 17 ls st u bb σ Q ↔ qx sc D 241 18 ls (vi 1 :: st) u bb σ Q := r_iconst (by decide +kernel)
theorem k241_18 : qx sc D 241 18 ls [vi x] (4, 24) bb σ Q ↔ Q (.inl (some (vi x))) bb σ := r_ret (by decide +kernel)
theorem k241_21 : qx sc D 241 21 ls st u bb σ Q ↔ qx sc D 241 22 ls (vi 2 :: st) u bb σ Q := r_iconst (by decide +kernel)
theorem k241_22 : qx sc D 241 22 ls [vi x] (4, 24) bb σ Q ↔ Q (.inl (some (vi x))) bb σ := r_ret (by decide +kernel)
theorem k241_25 : qx sc D 241 25 ls st u bb σ Q ↔ qx sc D 241 26 ls (vi 3 :: st) u bb σ Q := r_iconst (by decide +kernel)
theorem k241_26 : qx sc D 241 26 ls [vi x] (4, 24) bb σ Q ↔ Q (.inl (some (vi x))) bb σ := r_ret (by decide +kernel)
theorem k242_0 : qx sc D 242 0 [l0, vr a, l2] st u bb σ Q ↔ qx sc D 242 1 [l0, vr a, l2] (vr a :: st) u bb σ Q := r_aload_n (k := 1) (by decide +kernel) rfl
theorem k242_1 : qx sc D 242 1 ls st u bb σ Q ↔ qx sc D 242 2 ls (vi 0 :: st) u bb σ Q := r_iconst (by decide +kernel)
theorem k242_2 : qx sc D 242 2 [vr a, l1, l2] st u bb σ Q ↔ qx sc D 242 3 [vr a, l1, l2] (vr a :: st) u bb σ Q := r_aload_n (k := 0) (by decide +kernel) rfl
theorem k242_3 : qx sc (D + 1) 242 3 ls [vr 0, vi x20, vr a20] (0, 0) bb σ Q ↔ qx sc D 117 0 [vr 0, vn, vn] [] (0, 0) bb σ (q_k sc D 242 3 117 ls [vi x20, vr a20] (0, 0) Q) := r_callh (idx := 7) (n := 0) (m := 3) (by decide +kernel) rfl (Nat.le_of_ble_eq_true rfl) ⟨Nat.le_of_ble_eq_true rfl, Nat.le_of_ble_eq_true rfl, rfl⟩ rfl
theorem k242_6 : qx sc D 242 6 ls (vi a' :: st) u bb σ Q ↔ qx sc D 242 7 ls (vl a' :: st) u bb σ Q := r_i2l (by decide +kernel)
theorem k242_7 : qx sc D 242 7 ls (vl x :: vi i :: vr a :: st) u bb σ Q ↔ (q_ty a = 3 ∧ 0 ≤ i ∧ i < q_ln a) ∧ qx sc D 242 8 ls st u bb (q_up σ a i x) Q := r_last (by decide +kernel)
theorem k242_8 : qx sc D 242 8 ls st u bb σ Q ↔ qx sc D 242 14 ls st u bb σ Q := r_goto (off := 6) (by decide +kernel)
theorem k242_14 : qx sc D 242 14 ls st u bb σ Q ↔ qx sc D 242 15 ls (vi 0 :: st) u bb σ Q := r_iconst (by decide +kernel)
theorem k242_15 : qx sc D 242 15 ls [vi x] (4, 24) bb σ Q ↔ Q (.inl (some (vi x))) bb σ := r_ret (by decide +kernel)
theorem k242_12 : qx sc D 242 12 ls st u bb σ Q ↔ qx sc D 242 13 ls (vi 1 :: st) u bb σ Q := r_iconst (by decide +kernel)
theorem k242_13 : qx sc D 242 13 ls [vi x] (4, 24) bb σ Q ↔ Q (.inl (some (vi x))) bb σ := r_ret (by decide +kernel)
theorem k243_0 : qx sc D 243 0 [l0, l1, l2, vr a, l4] st u bb σ Q ↔ qx sc D 243 1 [l0, l1, l2, vr a, l4] (vr a :: st) u bb σ Q := r_aload_n (k := 3) (by decide +kernel) rfl
theorem k243_1 : qx sc D 243 1 ls st u bb σ Q ↔ qx sc D 243 2 ls (vi 0 :: st) u bb σ Q := r_iconst (by decide +kernel)
theorem k243_2 : qx sc D 243 2 [vr a, l1, l2, l3, l4] st u bb σ Q ↔ qx sc D 243 3 [vr a, l1, l2, l3, l4] (vr a :: st) u bb σ Q := r_aload_n (k := 0) (by decide +kernel) rfl
theorem k243_3 : qx sc D 243 3 [l0, vi x, l2, l3, l4] st u bb σ Q ↔ qx sc D 243 4 [l0, vi x, l2, l3, l4] (vi x :: st) u bb σ Q := r_iload_n (k := 1) (by decide +kernel) rfl
theorem k243_4 : qx sc D 243 4 [l0, l1, vi x, l3, l4] st u bb σ Q ↔ qx sc D 243 5 [l0, l1, vi x, l3, l4] (vi x :: st) u bb σ Q := r_iload_n (k := 2) (by decide +kernel) rfl
theorem k243_5 : qx sc (D + 1) 243 5 ls [vi x1, vi x0, vr 0, vi x20, vr a20] (0, 0) bb σ Q ↔ qx sc D 118 0 [vr 0, vi x0, vi x1] [] (0, 0) bb σ (q_k sc D 243 5 118 ls [vi x20, vr a20] (0, 0) Q) := r_callh (idx := 58) (n := 2) (m := 3) (by decide +kernel) rfl (Nat.le_of_ble_eq_true rfl) ⟨Nat.le_of_ble_eq_true rfl, Nat.le_of_ble_eq_true rfl, rfl⟩ rfl
theorem k243_8 : qx sc D 243 8 ls (vi a' :: st) u bb σ Q ↔ qx sc D 243 9 ls (vl a' :: st) u bb σ Q := r_i2l (by decide +kernel)
theorem k243_9 : qx sc D 243 9 ls (vl x :: vi i :: vr a :: st) u bb σ Q ↔ (q_ty a = 3 ∧ 0 ≤ i ∧ i < q_ln a) ∧ qx sc D 243 10 ls st u bb (q_up σ a i x) Q := r_last (by decide +kernel)
theorem k243_10 : qx sc D 243 10 ls st u bb σ Q ↔ qx sc D 243 21 ls st u bb σ Q := r_goto (off := 11) (by decide +kernel)
theorem k243_21 : qx sc D 243 21 ls st u bb σ Q ↔ qx sc D 243 22 ls (vi 0 :: st) u bb σ Q := r_iconst (by decide +kernel)
theorem k243_22 : qx sc D 243 22 ls [vi x] (4, 24) bb σ Q ↔ Q (.inl (some (vi x))) bb σ := r_ret (by decide +kernel)
theorem k243_15 : qx sc D 243 15 ls st u bb σ Q ↔ qx sc D 243 16 ls (vi 1 :: st) u bb σ Q := r_iconst (by decide +kernel)
theorem k243_16 : qx sc D 243 16 ls [vi x] (4, 24) bb σ Q ↔ Q (.inl (some (vi x))) bb σ := r_ret (by decide +kernel)
theorem k243_19 : qx sc D 243 19 ls st u bb σ Q ↔ qx sc D 243 20 ls (vi 2 :: st) u bb σ Q := r_iconst (by decide +kernel)
theorem k243_20 : qx sc D 243 20 ls [vi x] (4, 24) bb σ Q ↔ Q (.inl (some (vi x))) bb σ := r_ret (by decide +kernel)
theorem k244_0 : qx sc D 244 0 [l0, l1, l2, l3, l4, vr a, l6] st u bb σ Q ↔ qx sc D 244 2 [l0, l1, l2, l3, l4, vr a, l6] (vr a :: st) u bb σ Q := r_aload (k := 5) (by decide +kernel) rfl
theorem k244_2 : qx sc D 244 2 ls st u bb σ Q ↔ qx sc D 244 3 ls (vi 0 :: st) u bb σ Q := r_iconst (by decide +kernel)
theorem k244_3 : qx sc D 244 3 [vr a, l1, l2, l3, l4, l5, l6] st u bb σ Q ↔ qx sc D 244 4 [vr a, l1, l2, l3, l4, l5, l6] (vr a :: st) u bb σ Q := r_aload_n (k := 0) (by decide +kernel) rfl
theorem k244_4 : qx sc D 244 4 [l0, vi x, l2, l3, l4, l5, l6] st u bb σ Q ↔ qx sc D 244 5 [l0, vi x, l2, l3, l4, l5, l6] (vi x :: st) u bb σ Q := r_iload_n (k := 1) (by decide +kernel) rfl
theorem k244_5 : qx sc D 244 5 [l0, l1, vi x, l3, l4, l5, l6] st u bb σ Q ↔ qx sc D 244 6 [l0, l1, vi x, l3, l4, l5, l6] (vi x :: st) u bb σ Q := r_iload_n (k := 2) (by decide +kernel) rfl
theorem k244_6 : qx sc D 244 6 [l0, l1, l2, vi x, l4, l5, l6] st u bb σ Q ↔ qx sc D 244 7 [l0, l1, l2, vi x, l4, l5, l6] (vi x :: st) u bb σ Q := r_iload_n (k := 3) (by decide +kernel) rfl
theorem k244_7 : qx sc D 244 7 [l0, l1, l2, l3, vi x, l5, l6] st u bb σ Q ↔ qx sc D 244 9 [l0, l1, l2, l3, vi x, l5, l6] (vi x :: st) u bb σ Q := r_iload (k := 4) (by decide +kernel) rfl
theorem k244_9 : qx sc (D + 1) 244 9 ls [vi x3, vi x2, vi x1, vi x0, vr 0, vi x20, vr a20] (0, 0) bb σ Q ↔ qx sc D 119 0 [vr 0, vi x0, vi x1, vi x2, vi x3, vn, vn, vn, vn, vn] [] (0, 0) bb σ (q_k sc D 244 9 119 ls [vi x20, vr a20] (0, 0) Q) := r_callh (idx := 71) (n := 4) (m := 10) (by decide +kernel) rfl (Nat.le_of_ble_eq_true rfl) ⟨Nat.le_of_ble_eq_true rfl, Nat.le_of_ble_eq_true rfl, rfl⟩ rfl
theorem k244_12 : qx sc D 244 12 ls (vi a' :: st) u bb σ Q ↔ qx sc D 244 13 ls (vl a' :: st) u bb σ Q := r_i2l (by decide +kernel)
theorem k244_13 : qx sc D 244 13 ls (vl x :: vi i :: vr a :: st) u bb σ Q ↔ (q_ty a = 3 ∧ 0 ≤ i ∧ i < q_ln a) ∧ qx sc D 244 14 ls st u bb (q_up σ a i x) Q := r_last (by decide +kernel)
theorem k244_14 : qx sc D 244 14 ls st u bb σ Q ↔ qx sc D 244 21 ls st u bb σ Q := r_goto (off := 7) (by decide +kernel)
theorem k244_21 : qx sc D 244 21 ls st u bb σ Q ↔ qx sc D 244 22 ls (vi 0 :: st) u bb σ Q := r_iconst (by decide +kernel)
theorem k244_22 : qx sc D 244 22 ls [vi x] (4, 24) bb σ Q ↔ Q (.inl (some (vi x))) bb σ := r_ret (by decide +kernel)
theorem k244_19 : qx sc D 244 19 ls st u bb σ Q ↔ qx sc D 244 20 ls (vi 1 :: st) u bb σ Q := r_iconst (by decide +kernel)
theorem k244_20 : qx sc D 244 20 ls [vi x] (4, 24) bb σ Q ↔ Q (.inl (some (vi x))) bb σ := r_ret (by decide +kernel)
theorem k245_0 : qx sc D 245 0 [l0, l1, l2, vr a, l4] st u bb σ Q ↔ qx sc D 245 1 [l0, l1, l2, vr a, l4] (vr a :: st) u bb σ Q := r_aload_n (k := 3) (by decide +kernel) rfl
theorem k245_1 : qx sc D 245 1 ls st u bb σ Q ↔ qx sc D 245 2 ls (vi 0 :: st) u bb σ Q := r_iconst (by decide +kernel)
theorem k245_2 : qx sc D 245 2 [vr a, l1, l2, l3, l4] st u bb σ Q ↔ qx sc D 245 3 [vr a, l1, l2, l3, l4] (vr a :: st) u bb σ Q := r_aload_n (k := 0) (by decide +kernel) rfl
theorem k245_3 : qx sc D 245 3 [l0, vi x, l2, l3, l4] st u bb σ Q ↔ qx sc D 245 4 [l0, vi x, l2, l3, l4] (vi x :: st) u bb σ Q := r_iload_n (k := 1) (by decide +kernel) rfl
theorem k245_4 : qx sc D 245 4 [l0, l1, vi x, l3, l4] st u bb σ Q ↔ qx sc D 245 5 [l0, l1, vi x, l3, l4] (vi x :: st) u bb σ Q := r_iload_n (k := 2) (by decide +kernel) rfl
theorem k245_5 : qx sc (D + 1) 245 5 ls [vi x1, vi x0, vr 0, vi x20, vr a20] (0, 0) bb σ Q ↔ qx sc D 120 0 [vr 0, vi x0, vi x1] [] (0, 0) bb σ (q_k sc D 245 5 120 ls [vi x20, vr a20] (0, 0) Q) := r_callh (idx := 42) (n := 2) (m := 3) (by decide +kernel) rfl (Nat.le_of_ble_eq_true rfl) ⟨Nat.le_of_ble_eq_true rfl, Nat.le_of_ble_eq_true rfl, rfl⟩ rfl
theorem k245_8 : qx sc D 245 8 ls (vi a' :: st) u bb σ Q ↔ qx sc D 245 9 ls (vl a' :: st) u bb σ Q := r_i2l (by decide +kernel)
theorem k245_9 : qx sc D 245 9 ls (vl x :: vi i :: vr a :: st) u bb σ Q ↔ (q_ty a = 3 ∧ 0 ≤ i ∧ i < q_ln a) ∧ qx sc D 245 10 ls st u bb (q_up σ a i x) Q := r_last (by decide +kernel)
theorem k245_10 : qx sc D 245 10 ls st u bb σ Q ↔ qx sc D 245 17 ls st u bb σ Q := r_goto (off := 7) (by decide +kernel)
theorem k245_17 : qx sc D 245 17 ls st u bb σ Q ↔ qx sc D 245 18 ls (vi 0 :: st) u bb σ Q := r_iconst (by decide +kernel)
theorem k245_18 : qx sc D 245 18 ls [vi x] (4, 24) bb σ Q ↔ Q (.inl (some (vi x))) bb σ := r_ret (by decide +kernel)
theorem k245_15 : qx sc D 245 15 ls st u bb σ Q ↔ qx sc D 245 16 ls (vi 1 :: st) u bb σ Q := r_iconst (by decide +kernel)
theorem k245_16 : qx sc D 245 16 ls [vi x] (4, 24) bb σ Q ↔ Q (.inl (some (vi x))) bb σ := r_ret (by decide +kernel)
theorem k246_0 : qx sc D 246 0 [l0, l1, l2, vr a, l4] st u bb σ Q ↔ qx sc D 246 1 [l0, l1, l2, vr a, l4] (vr a :: st) u bb σ Q := r_aload_n (k := 3) (by decide +kernel) rfl
theorem k246_1 : qx sc D 246 1 ls st u bb σ Q ↔ qx sc D 246 2 ls (vi 0 :: st) u bb σ Q := r_iconst (by decide +kernel)
theorem k246_2 : qx sc D 246 2 [vr a, l1, l2, l3, l4] st u bb σ Q ↔ qx sc D 246 3 [vr a, l1, l2, l3, l4] (vr a :: st) u bb σ Q := r_aload_n (k := 0) (by decide +kernel) rfl
theorem k246_3 : qx sc D 246 3 [l0, vi x, l2, l3, l4] st u bb σ Q ↔ qx sc D 246 4 [l0, vi x, l2, l3, l4] (vi x :: st) u bb σ Q := r_iload_n (k := 1) (by decide +kernel) rfl
theorem k246_4 : qx sc D 246 4 [l0, l1, vi x, l3, l4] st u bb σ Q ↔ qx sc D 246 5 [l0, l1, vi x, l3, l4] (vi x :: st) u bb σ Q := r_iload_n (k := 2) (by decide +kernel) rfl
theorem k246_5 : qx sc (D + 1) 246 5 ls [vi x1, vi x0, vr 0, vi x20, vr a20] (0, 0) bb σ Q ↔ qx sc D 121 0 [vr 0, vi x0, vi x1] [] (0, 0) bb σ (q_k sc D 246 5 121 ls [vi x20, vr a20] (0, 0) Q) := r_callh (idx := 15) (n := 2) (m := 3) (by decide +kernel) rfl (Nat.le_of_ble_eq_true rfl) ⟨Nat.le_of_ble_eq_true rfl, Nat.le_of_ble_eq_true rfl, rfl⟩ rfl
theorem k246_8 : qx sc D 246 8 ls (vi a' :: st) u bb σ Q ↔ qx sc D 246 9 ls (vl a' :: st) u bb σ Q := r_i2l (by decide +kernel)
theorem k246_9 : qx sc D 246 9 ls (vl x :: vi i :: vr a :: st) u bb σ Q ↔ (q_ty a = 3 ∧ 0 ≤ i ∧ i < q_ln a) ∧ qx sc D 246 10 ls st u bb (q_up σ a i x) Q := r_last (by decide +kernel)
theorem k246_10 : qx sc D 246 10 ls st u bb σ Q ↔ qx sc D 246 21 ls st u bb σ Q := r_goto (off := 11) (by decide +kernel)
theorem k246_21 : qx sc D 246 21 ls st u bb σ Q ↔ qx sc D 246 22 ls (vi 0 :: st) u bb σ Q := r_iconst (by decide +kernel)
theorem k246_22 : qx sc D 246 22 ls [vi x] (4, 24) bb σ Q ↔ Q (.inl (some (vi x))) bb σ := r_ret (by decide +kernel)
theorem k246_15 : qx sc D 246 15 ls st u bb σ Q ↔ qx sc D 246 16 ls (vi 1 :: st) u bb σ Q := r_iconst (by decide +kernel)
theorem k246_16 : qx sc D 246 16 ls [vi x] (4, 24) bb σ Q ↔ Q (.inl (some (vi x))) bb σ := r_ret (by decide +kernel)
theorem k246_19 : qx sc D 246 19 ls st u bb σ Q ↔ qx sc D 246 20 ls (vi 2 :: st) u bb σ Q := r_iconst (by decide +kernel)
theorem k246_20 : qx sc D 246 20 ls [vi x] (4, 24) bb σ Q ↔ Q (.inl (some (vi x))) bb σ := r_ret (by decide +kernel)
theorem k247_0 : qx sc D 247 0 [l0, l1, l2, vr a, l4] st u bb σ Q ↔ qx sc D 247 1 [l0, l1, l2, vr a, l4] (vr a :: st) u bb σ Q := r_aload_n (k := 3) (by decide +kernel) rfl
theorem k247_1 : qx sc D 247 1 ls st u bb σ Q ↔ qx sc D 247 2 ls (vi 0 :: st) u bb σ Q := r_iconst (by decide +kernel)
theorem k247_2 : qx sc D 247 2 [vr a, l1, l2, l3, l4] st u bb σ Q ↔ qx sc D 247 3 [vr a, l1, l2, l3, l4] (vr a :: st) u bb σ Q := r_aload_n (k := 0) (by decide +kernel) rfl
theorem k247_3 : qx sc D 247 3 [l0, vi x, l2, l3, l4] st u bb σ Q ↔ qx sc D 247 4 [l0, vi x, l2, l3, l4] (vi x :: st) u bb σ Q := r_iload_n (k := 1) (by decide +kernel) rfl
theorem k247_4 : qx sc D 247 4 [l0, l1, vi x, l3, l4] st u bb σ Q ↔ qx sc D 247 5 [l0, l1, vi x, l3, l4] (vi x :: st) u bb σ Q := r_iload_n (k := 2) (by decide +kernel) rfl
theorem k247_5 : qx sc (D + 1) 247 5 ls [vi x1, vi x0, vr 0, vi x20, vr a20] (0, 0) bb σ Q ↔ qx sc D 123 0 [vr 0, vi x0, vi x1] [] (0, 0) bb σ (q_k sc D 247 5 123 ls [vi x20, vr a20] (0, 0) Q) := r_callh (idx := 23) (n := 2) (m := 3) (by decide +kernel) rfl (Nat.le_of_ble_eq_true rfl) ⟨Nat.le_of_ble_eq_true rfl, Nat.le_of_ble_eq_true rfl, rfl⟩ rfl
theorem k247_8 : qx sc D 247 8 ls (vi a' :: st) u bb σ Q ↔ qx sc D 247 9 ls (vl a' :: st) u bb σ Q := r_i2l (by decide +kernel)
theorem k247_9 : qx sc D 247 9 ls (vl x :: vi i :: vr a :: st) u bb σ Q ↔ (q_ty a = 3 ∧ 0 ≤ i ∧ i < q_ln a) ∧ qx sc D 247 10 ls st u bb (q_up σ a i x) Q := r_last (by decide +kernel)
theorem k247_10 : qx sc D 247 10 ls st u bb σ Q ↔ qx sc D 247 21 ls st u bb σ Q := r_goto (off := 11) (by decide +kernel)
theorem k247_21 : qx sc D 247 21 ls st u bb σ Q ↔ qx sc D 247 22 ls (vi 0 :: st) u bb σ Q := r_iconst (by decide +kernel)
theorem k247_22 : qx sc D 247 22 ls [vi x] (4, 24) bb σ Q ↔ Q (.inl (some (vi x))) bb σ := r_ret (by decide +kernel)
theorem k247_15 : qx sc D 247 15 ls st u bb σ Q ↔ qx sc D 247 16 ls (vi 1 :: st) u bb σ Q := r_iconst (by decide +kernel)
theorem k247_16 : qx sc D 247 16 ls [vi x] (4, 24) bb σ Q ↔ Q (.inl (some (vi x))) bb σ := r_ret (by decide +kernel)
theorem k247_19 : qx sc D 247 19 ls st u bb σ Q ↔ qx sc D 247 20 ls (vi 2 :: st) u bb σ Q := r_iconst (by decide +kernel)
theorem k247_20 : qx sc D 247 20 ls [vi x] (4, 24) bb σ Q ↔ Q (.inl (some (vi x))) bb σ := r_ret (by decide +kernel)
theorem k248_0 : qx sc D 248 0 [l0, l1, l2, vr a, l4] st u bb σ Q ↔ qx sc D 248 1 [l0, l1, l2, vr a, l4] (vr a :: st) u bb σ Q := r_aload_n (k := 3) (by decide +kernel) rfl
theorem k248_1 : qx sc D 248 1 ls st u bb σ Q ↔ qx sc D 248 2 ls (vi 0 :: st) u bb σ Q := r_iconst (by decide +kernel)
theorem k248_2 : qx sc D 248 2 [vr a, l1, l2, l3, l4] st u bb σ Q ↔ qx sc D 248 3 [vr a, l1, l2, l3, l4] (vr a :: st) u bb σ Q := r_aload_n (k := 0) (by decide +kernel) rfl
theorem k248_3 : qx sc D 248 3 [l0, vi x, l2, l3, l4] st u bb σ Q ↔ qx sc D 248 4 [l0, vi x, l2, l3, l4] (vi x :: st) u bb σ Q := r_iload_n (k := 1) (by decide +kernel) rfl
theorem k248_4 : qx sc D 248 4 [l0, l1, vi x, l3, l4] st u bb σ Q ↔ qx sc D 248 5 [l0, l1, vi x, l3, l4] (vi x :: st) u bb σ Q := r_iload_n (k := 2) (by decide +kernel) rfl
theorem k248_5 : qx sc (D + 1) 248 5 ls [vi x1, vi x0, vr 0, vi x20, vr a20] (0, 0) bb σ Q ↔ qx sc D 124 0 [vr 0, vi x0, vi x1] [] (0, 0) bb σ (q_k sc D 248 5 124 ls [vi x20, vr a20] (0, 0) Q) := r_callh (idx := 68) (n := 2) (m := 3) (by decide +kernel) rfl (Nat.le_of_ble_eq_true rfl) ⟨Nat.le_of_ble_eq_true rfl, Nat.le_of_ble_eq_true rfl, rfl⟩ rfl
theorem k248_8 : qx sc D 248 8 ls (vi a' :: st) u bb σ Q ↔ qx sc D 248 9 ls (vl a' :: st) u bb σ Q := r_i2l (by decide +kernel)
theorem k248_9 : qx sc D 248 9 ls (vl x :: vi i :: vr a :: st) u bb σ Q ↔ (q_ty a = 3 ∧ 0 ≤ i ∧ i < q_ln a) ∧ qx sc D 248 10 ls st u bb (q_up σ a i x) Q := r_last (by decide +kernel)
theorem k248_10 : qx sc D 248 10 ls st u bb σ Q ↔ qx sc D 248 21 ls st u bb σ Q := r_goto (off := 11) (by decide +kernel)
theorem k248_21 : qx sc D 248 21 ls st u bb σ Q ↔ qx sc D 248 22 ls (vi 0 :: st) u bb σ Q := r_iconst (by decide +kernel)
theorem k248_22 : qx sc D 248 22 ls [vi x] (4, 24) bb σ Q ↔ Q (.inl (some (vi x))) bb σ := r_ret (by decide +kernel)
theorem k248_15 : qx sc D 248 15 ls st u bb σ Q ↔ qx sc D 248 16 ls (vi 1 :: st) u bb σ Q := r_iconst (by decide +kernel)
theorem k248_16 : qx sc D 248 16 ls [vi x] (4, 24) bb σ Q ↔ Q (.inl (some (vi x))) bb σ := r_ret (by decide +kernel)
theorem k248_19 : qx sc D 248 19 ls st u bb σ Q ↔ qx sc D 248 20 ls (vi 2 :: st) u bb σ Q := r_iconst (by decide +kernel)
theorem k248_20 : qx sc D 248 20 ls [vi x] (4, 24) bb σ Q ↔ Q (.inl (some (vi x))) bb σ := r_ret (by decide +kernel)
/-- what a helper of the law makes of an answer -/
def hk (tb : List (Nat × Int)) (Q : QP) : QP := fun r bb σ => match r with
  | .inl (some (.inl x)) => Q (.inl (some (vi 0))) bb (q_up σ 188 0 x)
  | .inr e => (match tb.lookup e with
    | some c => Q (.inl (some (vi c))) bb σ
    | none => False)
  | _ => False
theorem h232 {y1 y2 : Int} (h : qx sc D 94 0 [vr 0, vi y1, vi y2] [] (0, 0) bb σ (hk [(1, 1), (3, 2)] Q)) : qx sc (D + 1) 232 0 [vr 0, vi y1, vi y2, vr 188, vn] [] (0, 0) bb σ Q := by
  simp only [k232_0, k232_1, k232_2, k232_3, k232_4, k232_5]
  refine qx_mono (fun r bb' σ' hr => ?_) h
  match r, hr with
  | .inl (some (.inl x)), hr =>
    rw [qk_val (u' := (4, 24)) (p3 := 8) (by decide +kernel)]
    simp only [k232_8, k232_9, k232_10, k232_21, k232_22, qt_188, ql_188, true_and, Int.reduceLE, Int.reduceLT]
    exact hr
  | .inl (some (.inr _)), hr => exact hr.elim
  | .inl none, hr => exact hr.elim
  | .inr e, hr =>
    by_cases e1 : e = 1
    · subst e1
      have hr' : Q (.inl (some (vi 1))) bb' σ' := hr
      refine (qk_exc (pc' := 15) (u' := (4, 24)) (by decide +kernel) (q_catch_a (k := 4) (z := (0, 10, 1, 13)) (by decide +kernel) (Nat.le_of_ble_eq_true rfl))).mpr ?_
      rw [k232_15, k232_16]
      exact hr'
    by_cases e3 : e = 3
    · subst e3
      have hr' : Q (.inl (some (vi 2))) bb' σ' := hr
      refine (qk_exc (pc' := 19) (u' := (4, 24)) (by decide +kernel) (q_catch_a (k := 4) (z := (0, 10, 3, 17)) (by decide +kernel) (Nat.le_of_ble_eq_true rfl))).mpr ?_
      rw [k232_19, k232_20]
      exact hr'
    exfalso
    have : (match List.lookup e ([(1, 1), (3, 2)] : List (Nat × Int)) with | some c => Q (.inl (some (vi c))) bb' σ' | none => False) := hr
    rw [show List.lookup e ([(1, 1), (3, 2)] : List (Nat × Int)) = none by simp [List.lookup, beq_eq_false_iff_ne.mpr e1, beq_eq_false_iff_ne.mpr e3]] at this
    exact this
theorem h233 {y1 : Int} (h : qx sc D 96 0 [vr 0, vi y1, vn] [] (0, 0) bb σ (hk [(1, 1)] Q)) : qx sc (D + 1) 233 0 [vr 0, vi y1, vr 188, vn] [] (0, 0) bb σ Q := by
  simp only [k233_0, k233_1, k233_2, k233_3, k233_4]
  refine qx_mono (fun r bb' σ' hr => ?_) h
  match r, hr with
  | .inl (some (.inl x)), hr =>
    rw [qk_val (u' := (4, 24)) (p3 := 7) (by decide +kernel)]
    simp only [k233_7, k233_8, k233_9, k233_15, k233_16, qt_188, ql_188, true_and, Int.reduceLE, Int.reduceLT]
    exact hr
  | .inl (some (.inr _)), hr => exact hr.elim
  | .inl none, hr => exact hr.elim
  | .inr e, hr =>
    by_cases e1 : e = 1
    · subst e1
      have hr' : Q (.inl (some (vi 1))) bb' σ' := hr
      refine (qk_exc (pc' := 13) (u' := (4, 24)) (by decide +kernel) (q_catch_n (k := 3) (z := (0, 9, 1, 12)) (by decide +kernel) (Nat.le_of_ble_eq_true rfl))).mpr ?_
      rw [k233_13, k233_14]
      exact hr'
    exfalso
    have : (match List.lookup e ([(1, 1)] : List (Nat × Int)) with | some c => Q (.inl (some (vi c))) bb' σ' | none => False) := hr
    rw [show List.lookup e ([(1, 1)] : List (Nat × Int)) = none by simp [List.lookup, beq_eq_false_iff_ne.mpr e1]] at this
    exact this
theorem h234 {y1 y2 y3 : Int} (h : qx sc D 97 0 [vr 0, vi y1, vi y2, vi y3] [] (0, 0) bb σ (hk [(1, 1), (3, 2)] Q)) : qx sc (D + 1) 234 0 [vr 0, vi y1, vi y2, vi y3, vr 188, vn] [] (0, 0) bb σ Q := by
  simp only [k234_0, k234_2, k234_3, k234_4, k234_5, k234_6, k234_7]
  refine qx_mono (fun r bb' σ' hr => ?_) h
  match r, hr with
  | .inl (some (.inl x)), hr =>
    rw [qk_val (u' := (4, 24)) (p3 := 10) (by decide +kernel)]
    simp only [k234_10, k234_11, k234_12, k234_23, k234_24, qt_188, ql_188, true_and, Int.reduceLE, Int.reduceLT]
    exact hr
  | .inl (some (.inr _)), hr => exact hr.elim
  | .inl none, hr => exact hr.elim
  | .inr e, hr =>
    by_cases e1 : e = 1
    · subst e1
      have hr' : Q (.inl (some (vi 1))) bb' σ' := hr
      refine (qk_exc (pc' := 17) (u' := (4, 24)) (by decide +kernel) (q_catch_a (k := 5) (z := (0, 12, 1, 15)) (by decide +kernel) (Nat.le_of_ble_eq_true rfl))).mpr ?_
      rw [k234_17, k234_18]
      exact hr'
    by_cases e3 : e = 3
    · subst e3
      have hr' : Q (.inl (some (vi 2))) bb' σ' := hr
      refine (qk_exc (pc' := 21) (u' := (4, 24)) (by decide +kernel) (q_catch_a (k := 5) (z := (0, 12, 3, 19)) (by decide +kernel) (Nat.le_of_ble_eq_true rfl))).mpr ?_
      rw [k234_21, k234_22]
      exact hr'
    exfalso
    have : (match List.lookup e ([(1, 1), (3, 2)] : List (Nat × Int)) with | some c => Q (.inl (some (vi c))) bb' σ' | none => False) := hr
    rw [show List.lookup e ([(1, 1), (3, 2)] : List (Nat × Int)) = none by simp [List.lookup, beq_eq_false_iff_ne.mpr e1, beq_eq_false_iff_ne.mpr e3]] at this
    exact this
theorem h235 {y1 y2 : Int} (h : qx sc D 98 0 [vr 0, vi y1, vi y2] [] (0, 0) bb σ (hk [(1, 1), (2, 2)] Q)) : qx sc (D + 1) 235 0 [vr 0, vi y1, vi y2, vr 188, vn] [] (0, 0) bb σ Q := by
  simp only [k235_0, k235_1, k235_2, k235_3, k235_4, k235_5]
  refine qx_mono (fun r bb' σ' hr => ?_) h
  match r, hr with
  | .inl (some (.inl x)), hr =>
    rw [qk_val (u' := (4, 24)) (p3 := 8) (by decide +kernel)]
    simp only [k235_8, k235_9, k235_10, k235_21, k235_22, qt_188, ql_188, true_and, Int.reduceLE, Int.reduceLT]
    exact hr
  | .inl (some (.inr _)), hr => exact hr.elim
  | .inl none, hr => exact hr.elim
  | .inr e, hr =>
    by_cases e1 : e = 1
    · subst e1
      have hr' : Q (.inl (some (vi 1))) bb' σ' := hr
      refine (qk_exc (pc' := 15) (u' := (4, 24)) (by decide +kernel) (q_catch_a (k := 4) (z := (0, 10, 1, 13)) (by decide +kernel) (Nat.le_of_ble_eq_true rfl))).mpr ?_
      rw [k235_15, k235_16]
      exact hr'
    by_cases e2 : e = 2
    · subst e2
      have hr' : Q (.inl (some (vi 2))) bb' σ' := hr
      refine (qk_exc (pc' := 19) (u' := (4, 24)) (by decide +kernel) (q_catch_a (k := 4) (z := (0, 10, 2, 17)) (by decide +kernel) (Nat.le_of_ble_eq_true rfl))).mpr ?_
      rw [k235_19, k235_20]
      exact hr'
    exfalso
    have : (match List.lookup e ([(1, 1), (2, 2)] : List (Nat × Int)) with | some c => Q (.inl (some (vi c))) bb' σ' | none => False) := hr
    rw [show List.lookup e ([(1, 1), (2, 2)] : List (Nat × Int)) = none by simp [List.lookup, beq_eq_false_iff_ne.mpr e1, beq_eq_false_iff_ne.mpr e2]] at this
    exact this
theorem h236 {y1 : Int} (h : qx sc D 103 0 [vr 0, vi y1] [] (0, 0) bb σ (hk [(1, 1)] Q)) : qx sc (D + 1) 236 0 [vr 0, vi y1, vr 188, vn] [] (0, 0) bb σ Q := by
  simp only [k236_0, k236_1, k236_2, k236_3, k236_4]
  refine qx_mono (fun r bb' σ' hr => ?_) h
  match r, hr with
  | .inl (some (.inl x)), hr =>
    rw [qk_val (u' := (4, 24)) (p3 := 7) (by decide +kernel)]
    simp only [k236_7, k236_8, k236_9, k236_15, k236_16, qt_188, ql_188, true_and, Int.reduceLE, Int.reduceLT]
    exact hr
  | .inl (some (.inr _)), hr => exact hr.elim
  | .inl none, hr => exact hr.elim
  | .inr e, hr =>
    by_cases e1 : e = 1
    · subst e1
      have hr' : Q (.inl (some (vi 1))) bb' σ' := hr
      refine (qk_exc (pc' := 13) (u' := (4, 24)) (by decide +kernel) (q_catch_n (k := 3) (z := (0, 9, 1, 12)) (by decide +kernel) (Nat.le_of_ble_eq_true rfl))).mpr ?_
      rw [k236_13, k236_14]
      exact hr'
    exfalso
    have : (match List.lookup e ([(1, 1)] : List (Nat × Int)) with | some c => Q (.inl (some (vi c))) bb' σ' | none => False) := hr
    rw [show List.lookup e ([(1, 1)] : List (Nat × Int)) = none by simp [List.lookup, beq_eq_false_iff_ne.mpr e1]] at this
    exact this
theorem h237 {y1 y2 : Int} (h : qx sc D 104 0 [vr 0, vi y1, vi y2, vn] [] (0, 0) bb σ (hk [(0, 1)] Q)) : qx sc (D + 1) 237 0 [vr 0, vi y1, vi y2, vr 188, vn] [] (0, 0) bb σ Q := by
  simp only [k237_0, k237_1, k237_2, k237_3, k237_4, k237_5]
  refine qx_mono (fun r bb' σ' hr => ?_) h
  match r, hr with
  | .inl (some (.inl x)), hr =>
    rw [qk_val (u' := (4, 24)) (p3 := 8) (by decide +kernel)]
    simp only [k237_8, k237_9, k237_10, k237_17, k237_18, qt_188, ql_188, true_and, Int.reduceLE, Int.reduceLT]
    exact hr
  | .inl (some (.inr _)), hr => exact hr.elim
  | .inl none, hr => exact hr.elim
  | .inr e, hr =>
    by_cases e0 : e = 0
    · subst e0
      have hr' : Q (.inl (some (vi 1))) bb' σ' := hr
      refine (qk_exc (pc' := 15) (u' := (4, 24)) (by decide +kernel) (q_catch_a (k := 4) (z := (0, 10, 0, 13)) (by decide +kernel) (Nat.le_of_ble_eq_true rfl))).mpr ?_
      rw [k237_15, k237_16]
      exact hr'
    exfalso
    have : (match List.lookup e ([(0, 1)] : List (Nat × Int)) with | some c => Q (.inl (some (vi c))) bb' σ' | none => False) := hr
    rw [show List.lookup e ([(0, 1)] : List (Nat × Int)) = none by simp [List.lookup, beq_eq_false_iff_ne.mpr e0]] at this
    exact this
theorem h238 {y1 y2 : Int} (h : qx sc D 105 0 [vr 0, vi y1, vi y2, vn] [] (0, 0) bb σ (hk [(1, 1), (0, 2)] Q)) : qx sc (D + 1) 238 0 [vr 0, vi y1, vi y2, vr 188, vn] [] (0, 0) bb σ Q := by
  simp only [k238_0, k238_1, k238_2, k238_3, k238_4, k238_5]
  refine qx_mono (fun r bb' σ' hr => ?_) h
  match r, hr with
  | .inl (some (.inl x)), hr =>
    rw [qk_val (u' := (4, 24)) (p3 := 8) (by decide +kernel)]
    simp only [k238_8, k238_9, k238_10, k238_21, k238_22, qt_188, ql_188, true_and, Int.reduceLE, Int.reduceLT]
    exact hr
  | .inl (some (.inr _)), hr => exact hr.elim
  | .inl none, hr => exact hr.elim
  | .inr e, hr =>
    by_cases e1 : e = 1
    · subst e1
      have hr' : Q (.inl (some (vi 1))) bb' σ' := hr
      refine (qk_exc (pc' := 15) (u' := (4, 24)) (by decide +kernel) (q_catch_a (k := 4) (z := (0, 10, 1, 13)) (by decide +kernel) (Nat.le_of_ble_eq_true rfl))).mpr ?_
      rw [k238_15, k238_16]
      exact hr'
    by_cases e0 : e = 0
    · subst e0
      have hr' : Q (.inl (some (vi 2))) bb' σ' := hr
      refine (qk_exc (pc' := 19) (u' := (4, 24)) (by decide +kernel) (q_catch_a (k := 4) (z := (0, 10, 0, 17)) (by decide +kernel) (Nat.le_of_ble_eq_true rfl))).mpr ?_
      rw [k238_19, k238_20]
      exact hr'
    exfalso
    have : (match List.lookup e ([(1, 1), (0, 2)] : List (Nat × Int)) with | some c => Q (.inl (some (vi c))) bb' σ' | none => False) := hr
    rw [show List.lookup e ([(1, 1), (0, 2)] : List (Nat × Int)) = none by simp [List.lookup, beq_eq_false_iff_ne.mpr e1, beq_eq_false_iff_ne.mpr e0]] at this
    exact this
theorem h239 {y1 y2 : Int} (h : qx sc D 106 0 [vr 0, vi y1, vi y2, vn] [] (0, 0) bb σ (hk [(1, 1), (2, 2)] Q)) : qx sc (D + 1) 239 0 [vr 0, vi y1, vi y2, vr 188, vn] [] (0, 0) bb σ Q := by
  simp only [k239_0, k239_1, k239_2, k239_3, k239_4, k239_5]
  refine qx_mono (fun r bb' σ' hr => ?_) h
  match r, hr with
  | .inl (some (.inl x)), hr =>
    rw [qk_val (u' := (4, 24)) (p3 := 8) (by decide +kernel)]
    simp only [k239_8, k239_9, k239_10, k239_21, k239_22, qt_188, ql_188, true_and, Int.reduceLE, Int.reduceLT]
    exact hr
  | .inl (some (.inr _)), hr => exact hr.elim
  | .inl none, hr => exact hr.elim
  | .inr e, hr =>
    by_cases e1 : e = 1
    · subst e1
      have hr' : Q (.inl (some (vi 1))) bb' σ' := hr
      refine (qk_exc (pc' := 15) (u' := (4, 24)) (by decide +kernel) (q_catch_a (k := 4) (z := (0, 10, 1, 13)) (by decide +kernel) (Nat.le_of_ble_eq_true rfl))).mpr ?_
      rw [k239_15, k239_16]
      exact hr'
    by_cases e2 : e = 2
    · subst e2
      have hr' : Q (.inl (some (vi 2))) bb' σ' := hr
      refine (qk_exc (pc' := 19) (u' := (4, 24)) (by decide +kernel) (q_catch_a (k := 4) (z := (0, 10, 2, 17)) (by decide +kernel) (Nat.le_of_ble_eq_true rfl))).mpr ?_
      rw [k239_19, k239_20]
      exact hr'
    exfalso
    have : (match List.lookup e ([(1, 1), (2, 2)] : List (Nat × Int)) with | some c => Q (.inl (some (vi c))) bb' σ' | none => False) := hr
    rw [show List.lookup e ([(1, 1), (2, 2)] : List (Nat × Int)) = none by simp [List.lookup, beq_eq_false_iff_ne.mpr e1, beq_eq_false_iff_ne.mpr e2]] at this
    exact this
theorem h240 {y1 y2 : Int} (h : qx sc D 115 0 [vr 0, vi y1, vi y2] [] (0, 0) bb σ (hk [(0, 1), (2, 2)] Q)) : qx sc (D + 1) 240 0 [vr 0, vi y1, vi y2, vr 188, vn] [] (0, 0) bb σ Q := by
  simp only [k240_0, k240_1, k240_2, k240_3, k240_4, k240_5]
  refine qx_mono (fun r bb' σ' hr => ?_) h
  match r, hr with
  | .inl (some (.inl x)), hr =>
    rw [qk_val (u' := (4, 24)) (p3 := 8) (by decide +kernel)]
    simp only [k240_8, k240_9, k240_10, k240_21, k240_22, qt_188, ql_188, true_and, Int.reduceLE, Int.reduceLT]
    exact hr
  | .inl (some (.inr _)), hr => exact hr.elim
  | .inl none, hr => exact hr.elim
  | .inr e, hr =>
    by_cases e0 : e = 0
    · subst e0
      have hr' : Q (.inl (some (vi 1))) bb' σ' := hr
      refine (qk_exc (pc' := 15) (u' := (4, 24)) (by decide +kernel) (q_catch_a (k := 4) (z := (0, 10, 0, 13)) (by decide +kernel) (Nat.le_of_ble_eq_true rfl))).mpr ?_
      rw [k240_15, k240_16]
      exact hr'
    by_cases e2 : e = 2
    · subst e2
      have hr' : Q (.inl (some (vi 2))) bb' σ' := hr
      refine (qk_exc (pc' := 19) (u' := (4, 24)) (by decide +kernel) (q_catch_a (k := 4) (z := (0, 10, 2, 17)) (by decide +kernel) (Nat.le_of_ble_eq_true rfl))).mpr ?_
      rw [k240_19, k240_20]
      exact hr'
    exfalso
    have : (match List.lookup e ([(0, 1), (2, 2)] : List (Nat × Int)) with | some c => Q (.inl (some (vi c))) bb' σ' | none => False) := hr
    rw [show List.lookup e ([(0, 1), (2, 2)] : List (Nat × Int)) = none by simp [List.lookup, beq_eq_false_iff_ne.mpr e0, beq_eq_false_iff_ne.mpr e2]] at this
    exact this
theorem h241 {y1 y2 y3 : Int} (h : qx sc D 116 0 [vr 0, vi y1, vi y2, vi y3] [] (0, 0) bb σ (hk [(1, 1), (0, 2), (2, 3)] Q)) : qx sc (D + 1) 241 0 [vr 0, vi y1, vi y2, vi y3, vr 188, vn] [] (0, 0) bb σ Q := by
  simp only [k241_0, k241_2, k241_3, k241_4, k241_5, k241_6, k241_7]
  refine qx_mono (fun r bb' σ' hr => ?_) h
  match r, hr with
  | .inl (some (.inl x)), hr =>
    rw [qk_val (u' := (4, 24)) (p3 := 10) (by decide +kernel)]
    simp only [k241_10, k241_11, k241_12, k241_27, k241_28, qt_188, ql_188, true_and, Int.reduceLE, Int.reduceLT]
    exact hr
  | .inl (some (.inr _)), hr => exact hr.elim
  | .inl none, hr => exact hr.elim
  | .inr e, hr =>
    by_cases e1 : e = 1
    · subst e1
      have hr' : Q (.inl (some (vi 1))) bb' σ' := hr
      refine (qk_exc (pc' := 17) (u' := (4, 24)) (by decide +kernel) (q_catch_a (k := 5) (z := (0, 12, 1, 15)) (by decide +kernel) (Nat.le_of_ble_eq_true rfl))).mpr ?_
      rw [k241_17, k241_18]
      exact hr'
    by_cases e0 : e = 0
    · subst e0
      have hr' : Q (.inl (some (vi 2))) bb' σ' := hr
      refine (qk_exc (pc' := 21) (u' := (4, 24)) (by decide +kernel) (q_catch_a (k := 5) (z := (0, 12, 0, 19)) (by decide +kernel) (Nat.le_of_ble_eq_true rfl))).mpr ?_
      rw [k241_21, k241_22]
      exact hr'
    by_cases e2 : e = 2
    · subst e2
      have hr' : Q (.inl (some (vi 3))) bb' σ' := hr
      refine (qk_exc (pc' := 25) (u' := (4, 24)) (by decide +kernel) (q_catch_a (k := 5) (z := (0, 12, 2, 23)) (by decide +kernel) (Nat.le_of_ble_eq_true rfl))).mpr ?_
      rw [k241_25, k241_26]
      exact hr'
    exfalso
    have : (match List.lookup e ([(1, 1), (0, 2), (2, 3)] : List (Nat × Int)) with | some c => Q (.inl (some (vi c))) bb' σ' | none => False) := hr
    rw [show List.lookup e ([(1, 1), (0, 2), (2, 3)] : List (Nat × Int)) = none by simp [List.lookup, beq_eq_false_iff_ne.mpr e1, beq_eq_false_iff_ne.mpr e0, beq_eq_false_iff_ne.mpr e2]] at this
    exact this
theorem h242 (h : qx sc D 117 0 [vr 0, vn, vn] [] (0, 0) bb σ (hk [(0, 1)] Q)) : qx sc (D + 1) 242 0 [vr 0, vr 188, vn] [] (0, 0) bb σ Q := by
  simp only [k242_0, k242_1, k242_2, k242_3]
  refine qx_mono (fun r bb' σ' hr => ?_) h
  match r, hr with
  | .inl (some (.inl x)), hr =>
    rw [qk_val (u' := (4, 24)) (p3 := 6) (by decide +kernel)]
    simp only [k242_6, k242_7, k242_8, k242_14, k242_15, qt_188, ql_188, true_and, Int.reduceLE, Int.reduceLT]
    exact hr
  | .inl (some (.inr _)), hr => exact hr.elim
  | .inl none, hr => exact hr.elim
  | .inr e, hr =>
    by_cases e0 : e = 0
    · subst e0
      have hr' : Q (.inl (some (vi 1))) bb' σ' := hr
      refine (qk_exc (pc' := 12) (u' := (4, 24)) (by decide +kernel) (q_catch_n (k := 2) (z := (0, 8, 0, 11)) (by decide +kernel) (Nat.le_of_ble_eq_true rfl))).mpr ?_
      rw [k242_12, k242_13]
      exact hr'
    exfalso
    have : (match List.lookup e ([(0, 1)] : List (Nat × Int)) with | some c => Q (.inl (some (vi c))) bb' σ' | none => False) := hr
    rw [show List.lookup e ([(0, 1)] : List (Nat × Int)) = none by simp [List.lookup, beq_eq_false_iff_ne.mpr e0]] at this
    exact this
theorem h243 {y1 y2 : Int} (h : qx sc D 118 0 [vr 0, vi y1, vi y2] [] (0, 0) bb σ (hk [(0, 1), (2, 2)] Q)) : qx sc (D + 1) 243 0 [vr 0, vi y1, vi y2, vr 188, vn] [] (0, 0) bb σ Q := by
  simp only [k243_0, k243_1, k243_2, k243_3, k243_4, k243_5]
  refine qx_mono (fun r bb' σ' hr => ?_) h
  match r, hr with
  | .inl (some (.inl x)), hr =>
    rw [qk_val (u' := (4, 24)) (p3 := 8) (by decide +kernel)]
    simp only [k243_8, k243_9, k243_10, k243_21, k243_22, qt_188, ql_188, true_and, Int.reduceLE, Int.reduceLT]
    exact hr
  | .inl (some (.inr _)), hr => exact hr.elim
  | .inl none, hr => exact hr.elim
  | .inr e, hr =>
    by_cases e0 : e = 0
    · subst e0
      have hr' : Q (.inl (some (vi 1))) bb' σ' := hr
      refine (qk_exc (pc' := 15) (u' := (4, 24)) (by decide +kernel) (q_catch_a (k := 4) (z := (0, 10, 0, 13)) (by decide +kernel) (Nat.le_of_ble_eq_true rfl))).mpr ?_
      rw [k243_15, k243_16]
      exact hr'
    by_cases e2 : e = 2
    · subst e2
      have hr' : Q (.inl (some (vi 2))) bb' σ' := hr
      refine (qk_exc (pc' := 19) (u' := (4, 24)) (by decide +kernel) (q_catch_a (k := 4) (z := (0, 10, 2, 17)) (by decide +kernel) (Nat.le_of_ble_eq_true rfl))).mpr ?_
      rw [k243_19, k243_20]
      exact hr'
    exfalso
    have : (match List.lookup e ([(0, 1), (2, 2)] : List (Nat × Int)) with | some c => Q (.inl (some (vi c))) bb' σ' | none => False) := hr
    rw [show List.lookup e ([(0, 1), (2, 2)] : List (Nat × Int)) = none by simp [List.lookup, beq_eq_false_iff_ne.mpr e0, beq_eq_false_iff_ne.mpr e2]] at this
    exact this
theorem h244 {y1 y2 y3 y4 : Int} (h : qx sc D 119 0 [vr 0, vi y1, vi y2, vi y3, vi y4, vn, vn, vn, vn, vn] [] (0, 0) bb σ (hk [(0, 1)] Q)) : qx sc (D + 1) 244 0 [vr 0, vi y1, vi y2, vi y3, vi y4, vr 188, vn] [] (0, 0) bb σ Q := by
  simp only [k244_0, k244_2, k244_3, k244_4, k244_5, k244_6, k244_7, k244_9]
  refine qx_mono (fun r bb' σ' hr => ?_) h
  match r, hr with
  | .inl (some (.inl x)), hr =>
    rw [qk_val (u' := (4, 24)) (p3 := 12) (by decide +kernel)]
    simp only [k244_12, k244_13, k244_14, k244_21, k244_22, qt_188, ql_188, true_and, Int.reduceLE, Int.reduceLT]
    exact hr
  | .inl (some (.inr _)), hr => exact hr.elim
  | .inl none, hr => exact hr.elim
  | .inr e, hr =>
    by_cases e0 : e = 0
    · subst e0
      have hr' : Q (.inl (some (vi 1))) bb' σ' := hr
      refine (qk_exc (pc' := 19) (u' := (4, 24)) (by decide +kernel) (q_catch_a (k := 6) (z := (0, 14, 0, 17)) (by decide +kernel) (Nat.le_of_ble_eq_true rfl))).mpr ?_
      rw [k244_19, k244_20]
      exact hr'
    exfalso
    have : (match List.lookup e ([(0, 1)] : List (Nat × Int)) with | some c => Q (.inl (some (vi c))) bb' σ' | none => False) := hr
    rw [show List.lookup e ([(0, 1)] : List (Nat × Int)) = none by simp [List.lookup, beq_eq_false_iff_ne.mpr e0]] at this
    exact this
theorem h245 {y1 y2 : Int} (h : qx sc D 120 0 [vr 0, vi y1, vi y2] [] (0, 0) bb σ (hk [(1, 1)] Q)) : qx sc (D + 1) 245 0 [vr 0, vi y1, vi y2, vr 188, vn] [] (0, 0) bb σ Q := by
  simp only [k245_0, k245_1, k245_2, k245_3, k245_4, k245_5]
  refine qx_mono (fun r bb' σ' hr => ?_) h
  match r, hr with
  | .inl (some (.inl x)), hr =>
    rw [qk_val (u' := (4, 24)) (p3 := 8) (by decide +kernel)]
    simp only [k245_8, k245_9, k245_10, k245_17, k245_18, qt_188, ql_188, true_and, Int.reduceLE, Int.reduceLT]
    exact hr
  | .inl (some (.inr _)), hr => exact hr.elim
  | .inl none, hr => exact hr.elim
  | .inr e, hr =>
    by_cases e1 : e = 1
    · subst e1
      have hr' : Q (.inl (some (vi 1))) bb' σ' := hr
      refine (qk_exc (pc' := 15) (u' := (4, 24)) (by decide +kernel) (q_catch_a (k := 4) (z := (0, 10, 1, 13)) (by decide +kernel) (Nat.le_of_ble_eq_true rfl))).mpr ?_
      rw [k245_15, k245_16]
      exact hr'
    exfalso
    have : (match List.lookup e ([(1, 1)] : List (Nat × Int)) with | some c => Q (.inl (some (vi c))) bb' σ' | none => False) := hr
    rw [show List.lookup e ([(1, 1)] : List (Nat × Int)) = none by simp [List.lookup, beq_eq_false_iff_ne.mpr e1]] at this
    exact this
theorem h246 {y1 y2 : Int} (h : qx sc D 121 0 [vr 0, vi y1, vi y2] [] (0, 0) bb σ (hk [(1, 1), (2, 2)] Q)) : qx sc (D + 1) 246 0 [vr 0, vi y1, vi y2, vr 188, vn] [] (0, 0) bb σ Q := by
  simp only [k246_0, k246_1, k246_2, k246_3, k246_4, k246_5]
  refine qx_mono (fun r bb' σ' hr => ?_) h
  match r, hr with
  | .inl (some (.inl x)), hr =>
    rw [qk_val (u' := (4, 24)) (p3 := 8) (by decide +kernel)]
    simp only [k246_8, k246_9, k246_10, k246_21, k246_22, qt_188, ql_188, true_and, Int.reduceLE, Int.reduceLT]
    exact hr
  | .inl (some (.inr _)), hr => exact hr.elim
  | .inl none, hr => exact hr.elim
  | .inr e, hr =>
    by_cases e1 : e = 1
    · subst e1
      have hr' : Q (.inl (some (vi 1))) bb' σ' := hr
      refine (qk_exc (pc' := 15) (u' := (4, 24)) (by decide +kernel) (q_catch_a (k := 4) (z := (0, 10, 1, 13)) (by decide +kernel) (Nat.le_of_ble_eq_true rfl))).mpr ?_
      rw [k246_15, k246_16]
      exact hr'
    by_cases e2 : e = 2
    · subst e2
      have hr' : Q (.inl (some (vi 2))) bb' σ' := hr
      refine (qk_exc (pc' := 19) (u' := (4, 24)) (by decide +kernel) (q_catch_a (k := 4) (z := (0, 10, 2, 17)) (by decide +kernel) (Nat.le_of_ble_eq_true rfl))).mpr ?_
      rw [k246_19, k246_20]
      exact hr'
    exfalso
    have : (match List.lookup e ([(1, 1), (2, 2)] : List (Nat × Int)) with | some c => Q (.inl (some (vi c))) bb' σ' | none => False) := hr
    rw [show List.lookup e ([(1, 1), (2, 2)] : List (Nat × Int)) = none by simp [List.lookup, beq_eq_false_iff_ne.mpr e1, beq_eq_false_iff_ne.mpr e2]] at this
    exact this
theorem h247 {y1 y2 : Int} (h : qx sc D 123 0 [vr 0, vi y1, vi y2] [] (0, 0) bb σ (hk [(1, 1), (2, 2)] Q)) : qx sc (D + 1) 247 0 [vr 0, vi y1, vi y2, vr 188, vn] [] (0, 0) bb σ Q := by
  simp only [k247_0, k247_1, k247_2, k247_3, k247_4, k247_5]
  refine qx_mono (fun r bb' σ' hr => ?_) h
  match r, hr with
  | .inl (some (.inl x)), hr =>
    rw [qk_val (u' := (4, 24)) (p3 := 8) (by decide +kernel)]
    simp only [k247_8, k247_9, k247_10, k247_21, k247_22, qt_188, ql_188, true_and, Int.reduceLE, Int.reduceLT]
    exact hr
  | .inl (some (.inr _)), hr => exact hr.elim
  | .inl none, hr => exact hr.elim
  | .inr e, hr =>
    by_cases e1 : e = 1
    · subst e1
      have hr' : Q (.inl (some (vi 1))) bb' σ' := hr
      refine (qk_exc (pc' := 15) (u' := (4, 24)) (by decide +kernel) (q_catch_a (k := 4) (z := (0, 10, 1, 13)) (by decide +kernel) (Nat.le_of_ble_eq_true rfl))).mpr ?_
      rw [k247_15, k247_16]
      exact hr'
    by_cases e2 : e = 2
    · subst e2
      have hr' : Q (.inl (some (vi 2))) bb' σ' := hr
      refine (qk_exc (pc' := 19) (u' := (4, 24)) (by decide +kernel) (q_catch_a (k := 4) (z := (0, 10, 2, 17)) (by decide +kernel) (Nat.le_of_ble_eq_true rfl))).mpr ?_
      rw [k247_19, k247_20]
      exact hr'
    exfalso
    have : (match List.lookup e ([(1, 1), (2, 2)] : List (Nat × Int)) with | some c => Q (.inl (some (vi c))) bb' σ' | none => False) := hr
    rw [show List.lookup e ([(1, 1), (2, 2)] : List (Nat × Int)) = none by simp [List.lookup, beq_eq_false_iff_ne.mpr e1, beq_eq_false_iff_ne.mpr e2]] at this
    exact this
theorem h248 {y1 y2 : Int} (h : qx sc D 124 0 [vr 0, vi y1, vi y2] [] (0, 0) bb σ (hk [(1, 1), (0, 2)] Q)) : qx sc (D + 1) 248 0 [vr 0, vi y1, vi y2, vr 188, vn] [] (0, 0) bb σ Q := by
  simp only [k248_0, k248_1, k248_2, k248_3, k248_4, k248_5]
  refine qx_mono (fun r bb' σ' hr => ?_) h
  match r, hr with
  | .inl (some (.inl x)), hr =>
    rw [qk_val (u' := (4, 24)) (p3 := 8) (by decide +kernel)]
    simp only [k248_8, k248_9, k248_10, k248_21, k248_22, qt_188, ql_188, true_and, Int.reduceLE, Int.reduceLT]
    exact hr
  | .inl (some (.inr _)), hr => exact hr.elim
  | .inl none, hr => exact hr.elim
  | .inr e, hr =>
    by_cases e1 : e = 1
    · subst e1
      have hr' : Q (.inl (some (vi 1))) bb' σ' := hr
      refine (qk_exc (pc' := 15) (u' := (4, 24)) (by decide +kernel) (q_catch_a (k := 4) (z := (0, 10, 1, 13)) (by decide +kernel) (Nat.le_of_ble_eq_true rfl))).mpr ?_
      rw [k248_15, k248_16]
      exact hr'
    by_cases e0 : e = 0
    · subst e0
      have hr' : Q (.inl (some (vi 2))) bb' σ' := hr
      refine (qk_exc (pc' := 19) (u' := (4, 24)) (by decide +kernel) (q_catch_a (k := 4) (z := (0, 10, 0, 17)) (by decide +kernel) (Nat.le_of_ble_eq_true rfl))).mpr ?_
      rw [k248_19, k248_20]
      exact hr'
    exfalso
    have : (match List.lookup e ([(1, 1), (0, 2)] : List (Nat × Int)) with | some c => Q (.inl (some (vi c))) bb' σ' | none => False) := hr
    rw [show List.lookup e ([(1, 1), (0, 2)] : List (Nat × Int)) = none by simp [List.lookup, beq_eq_false_iff_ne.mpr e1, beq_eq_false_iff_ne.mpr e0]] at this
    exact this
end K_LW
