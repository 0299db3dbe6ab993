/-! the pure machine follows the list machine, above N0 cells that stand as they are -/
def l_hb (N0 : Nat) (b0 : PH) (l : List LC) : PH := fun a => if a < N0 then b0 a else l_h l a
def l_P (N0 : Nat) (l : List LC) : Prop := N0 ≤ l.length ∧ ∀ a, a < N0 → l[a]? = some (.inr (0, []))
section LSM
variable {sc : Nat × (Nat → Int32)} {D y pc : Nat} {ls st : List V2} {u : PU} {Q : PP} {l : List LC} {a N0 : Nat} {b0 : PH} {c : LC}
theorem l_hb_app (hP : l_P N0 l) : l_hb N0 b0 (l ++ [c]) = pm_up (l_hb N0 b0 l) l.length (l_e l.length c) := by
  funext j
  have h := congrFun (l_h_app (l := l) (c := c)) j
  have h1 := hP.1
  unfold pm_up at h ⊢
  unfold l_hb
  by_cases e : j < N0
  · rw [if_pos e, if_neg (by omega), if_pos e]
  · rw [if_neg e, h]
    by_cases e2 : j = l.length
    · rw [if_pos e2, if_pos e2]
    · rw [if_neg e2, if_neg e2, if_neg e]
theorem l_P_app (hP : l_P N0 l) (m : List LC) : l_P N0 (l ++ m) := by
  refine ⟨by rw [List.length_append]; have := hP.1; omega, fun a ha => ?_⟩
  rw [List.getElem?_append_left (by have := hP.1; omega)]
  exact hP.2 a ha
theorem l_P_ge (hP : l_P N0 l) (hl : l[a]? = some c) (hc : c ≠ .inr (0, [])) : N0 ≤ a := by
  rcases Nat.lt_or_ge a N0 with h | h
  · rw [hP.2 a h] at hl
    exact absurd (Option.some.inj hl).symm hc
  · exact h
theorem l_P_set {c' : LC} (hP : l_P N0 l) (hl : l[a]? = some c) (hc : c ≠ .inr (0, [])) : l_P N0 (l.set a c') := by
  have hge := l_P_ge hP hl hc
  refine ⟨by rw [List.length_set]; exact hP.1, fun b hb => ?_⟩
  rw [List.getElem?_set_ne (by omega)]
  exact hP.2 b hb
theorem l_hb_set {c' : LC} (hP : l_P N0 l) (hl : l[a]? = some c) (hc : c ≠ .inr (0, [])) : l_hb N0 b0 (l.set a c') = pm_up (l_hb N0 b0 l) a (l_e a c') := by
  funext j
  have hge := l_P_ge hP hl hc
  have h := congrFun (l_h_set (l := l) (c := c') (l_h_lt hl)) j
  unfold pm_up at h ⊢
  unfold l_hb
  by_cases e : j < N0
  · rw [if_pos e, if_neg (by omega), if_pos e]
  · rw [if_neg e, h]
    by_cases e2 : j = a
    · rw [if_pos e2, if_pos e2]
    · rw [if_neg e2, if_neg e2, if_neg e]
theorem l_ne {cc : Nat} {fs : List V2} (h : fs ≠ []) : (.inr (cc, fs) : LC) ≠ .inr (0, []) := by
  intro e
  cases e
  exact h rfl
theorem l_nek {k : Nat} {fs : List V2} (h : k < fs.length) : fs ≠ [] := by
  intro e
  subst e
  cases h
theorem l_nev {k : Nat} {v : V2} {fs : List V2} (h : fs[k]? = some v) : fs ≠ [] := by
  intro e
  subst e
  cases h
theorem l_objb {cc : Nat} {fs : List V2} (hP : l_P N0 l) (hl : l[a]? = some (.inr (cc, fs))) (hf : fs ≠ []) : pm_obj (l.length, true) (l_hb N0 b0 l) a = some (cc, fs.map l_v) := by
  have hge := l_P_ge hP hl (l_ne hf)
  have h := l_obj hl
  unfold pm_obj at h ⊢
  unfold l_hb
  rw [if_neg (show ¬ a < N0 by omega)]
  exact h
theorem l_get {ls : List V2} {k : Nat} {v : V2} (h : ls[k]? = some v) : (ls.map l_v)[k]? = some (l_v v) := by rw [List.getElem?_map, h]; rfl
theorem l_catv {v : V2} (h : l_cat v = true) : (l_v v).category = 1 := by
  rcases v with x | a | _ | x
  · rfl
  · rfl
  · cases h
  · cases h
theorem l_sumv : ∀ st : List V2, st.all l_cat = true → pm_sum (st.map l_v) = st.length := by
  intro st
  induction st with
  | nil => intro _; rfl
  | cons v st ih =>
    intro h
    rw [List.all_cons, Bool.and_eq_true] at h
    have h1 := ih h.2
    unfold pm_sum at h1 ⊢
    rw [List.map_cons, List.map_cons, List.sum_cons, h1, l_catv h.1, List.length_cons]
    omega
theorem l_allv (as : List V2) (h : as.all l_cat = true) : (as.map l_v).all (fun v => v.category == 1) = true := by
  rw [List.all_map, List.all_eq_true]
  intro v hv
  have := l_catv (List.all_eq_true.mp h v hv)
  simp only [Function.comp, this]
  rfl
theorem l_dfv {c : Nat} (h : ∀ v ∈ pm_df c, v = .null ∨ ∃ x, v = .int x) : (l_df c).map l_v = pm_df c := by
  unfold l_df
  rw [List.map_map]
  refine (List.map_congr_left (fun v hv => ?_)).trans (List.map_id _)
  rcases h v hv with rfl | ⟨x, rfl⟩
  · rfl
  · simp only [Function.comp, l_v, q_I_toInt, id]
theorem l_dfs (c : Nat) : ∀ v ∈ pm_df c, v = .null ∨ ∃ x, v = .int x := by
  intro v hv
  unfold pm_df at hv
  split at hv <;> simp only [List.mem_cons, List.not_mem_nil, or_false] at hv <;> (rcases hv with h) <;> grind
theorem l_grid {n k : Nat} : l_h (l ++ (.inl (4, n, []) :: List.replicate n (.inl (0, k, [])))) = fun j => if j = l.length then .inl (4, n, .inr (.inr (.inr (.inr fun i => if i < n then some (l.length + 1 + i) else none)))) else if l.length < j ∧ j < l.length + 1 + n then .inl (0, k, .inl fun _ => 0) else l_h l j := by
  funext j
  unfold l_h
  by_cases e : j = l.length
  · rw [if_pos e, e, List.getElem?_append_right (Nat.le_refl _), Nat.sub_self]; rfl
  · rw [if_neg e]
    by_cases e2 : j < l.length
    · rw [List.getElem?_append_left e2, if_neg (by omega)]
    · rw [List.getElem?_append_right (by omega)]
      obtain ⟨d, hd⟩ : ∃ d, j - l.length = d + 1 := ⟨j - l.length - 1, by omega⟩
      rw [hd, List.getElem?_cons_succ]
      by_cases e3 : d < n
      · rw [if_pos (by omega), List.getElem?_replicate, if_pos e3]
        rfl
      · have n2 : l[j]? = none := List.getElem?_eq_none (by omega)
        rw [if_neg (by omega), List.getElem?_replicate, if_neg e3]
        simp only [n2]
theorem l_gridb {n k : Nat} (hP : l_P N0 l) : l_hb N0 b0 (l ++ (.inl (4, n, []) :: List.replicate n (.inl (0, k, [])))) = fun j => if j = l.length then .inl (4, n, .inr (.inr (.inr (.inr fun i => if i < n then some (l.length + 1 + i) else none)))) else if l.length < j ∧ j < l.length + 1 + n then .inl (0, k, .inl fun _ => 0) else l_hb N0 b0 l j := by
  funext j
  have h := congrFun (l_grid (l := l) (n := n) (k := k)) j
  have h1 := hP.1
  unfold l_hb
  by_cases e : j < N0
  · rw [if_pos e, if_neg (by omega), if_neg (by omega), if_pos e]
  · rw [if_neg e, h]
    by_cases e2 : j = l.length
    · rw [if_pos e2, if_pos e2]
    · rw [if_neg e2, if_neg e2]
      by_cases e3 : l.length < j ∧ j < l.length + 1 + n
      · rw [if_pos e3, if_pos e3]
      · rw [if_neg e3, if_neg e3, if_neg e]
theorem l_step {i : Instr} {pc' : Nat} {ls' st' : List V2} {u' : PU} {l' : List LC} (hd : pm_dec y pc = some i) (h : l_act y i pc ls st u l = some (.inl (pc', ls', st', u', l'))) (hP : l_P N0 l) (hq : l_P N0 l' → px sc (D + 1) y pc' (ls'.map l_v) (st'.map l_v) u' (l'.length, true) (l_hb N0 b0 l') Q) : px sc (D + 1) y pc (ls.map l_v) (st.map l_v) u (l.length, true) (l_hb N0 b0 l) Q := by
  unfold l_act at h
  split at h
  · cases h
    exact px_go hd rfl (hq hP)
  · rename_i n
    split at h
    · rename_i hr
      cases h
      refine px_go hd ?_ (hq hP)
      simp only [pm_act]
      rw [show (Int8.ofInt n).toInt32 = q_I n from (by rw [show (Int8.ofInt n).toInt32 = Int32.ofInt (Int8.ofInt n).toInt from rfl, Int8.toInt_ofInt_of_le (by omega) (by omega)])]
      rfl
    · cases h
  · rename_i n
    split at h
    · rename_i hr
      cases h
      refine px_go hd ?_ (hq hP)
      simp only [pm_act]
      rw [show (Int16.ofInt n).toInt32 = q_I n from (by rw [show (Int16.ofInt n).toInt32 = Int32.ofInt (Int16.ofInt n).toInt from rfl, Int16.toInt_ofInt_of_le (by omega) (by omega)])]
      rfl
    · cases h
  · split at h
    · rename_i hx
      cases h
      refine px_go hd ?_ (hq hP)
      simp only [pm_act, l_get hx, l_v]
      rfl
    · cases h
  · split at h
    · rename_i hx
      cases h
      refine px_go hd ?_ (hq hP)
      simp only [pm_act, l_get hx, l_v]
      rfl
    · cases h
  · split at h
    · split at h
      · rename_i hk
        cases h
        refine px_go hd ?_ (hq hP)
        simp only [pm_act, List.map_cons, l_v, List.length_map, if_pos hk, List.map_set]
      · cases h
    · cases h
  · split at h
    · split at h
      · rename_i hk
        cases h
        refine px_go hd ?_ (hq hP)
        simp only [pm_act, List.map_cons, l_v, List.length_map, if_pos hk, List.map_set]
      · cases h
    · cases h
  · split at h
    · cases h
      exact px_go hd rfl (hq hP)
    · cases h
  · -- newarray
    rename_i t0
    split at h
    · rename_i n st0
      split at h
      · rename_i k hk
        split at h
        · rename_i hc
          cases h
          obtain ⟨⟨n0, n1⟩, c2, c3⟩ := hc
          have hR : q_R n := ⟨by omega, by omega⟩
          have hn : ¬ q_I n < 0 := by rw [q_I0, q_lt hR q_R0]; omega
          have hcl := q_clamp hR
          refine px_go hd ?_ (hq (l_P_app hP _))
          rw [List.length_append, List.length_singleton, l_hb_app hP]
          cases t0 <;> simp only [l_ty] at hk <;> cases hk <;> (simp only [pm_act, List.map_cons, l_v, pm_ty, hcl]; rw [if_pos ⟨hn, by omega, trivial, c2, c3⟩]; rfl)
        · cases h
      · cases h
    · cases h
  · -- grid
    split at h
    · rename_i k n st0
      split at h
      · rename_i hc
        cases h
        obtain ⟨c0, ⟨n0, n1⟩, ⟨k0, k1⟩, c2, c3⟩ := hc
        have hRn : q_R n := ⟨by omega, by omega⟩
        have hRk : q_R k := ⟨by omega, by omega⟩
        have hn : ¬ q_I n < 0 := by rw [q_I0, q_lt hRn q_R0]; omega
        have hk : ¬ q_I k < 0 := by rw [q_I0, q_lt hRk q_R0]; omega
        have hcn := q_clamp hRn
        have hck := q_clamp hRk
        refine px_go hd ?_ (hq (l_P_app hP _))
        rw [List.length_append, List.length_cons, List.length_replicate, l_gridb hP]
        simp only [pm_act, List.map_cons, l_v, hcn, hck]
        rw [if_pos ⟨c0, hn, hk, by omega, by omega, trivial, c2, c3⟩, show l.length + (n.toNat + 1) = l.length + 1 + n.toNat by omega]
      · cases h
    · cases h
  · -- new
    split at h
    · rename_i c ht hc
      split at h
      · rename_i hf
        cases h
        refine px_go hd ?_ (hq (l_P_app hP _))
        rw [List.length_append, List.length_singleton, l_hb_app hP]
        simp only [pm_act, ht, hc]
        rw [if_pos ⟨trivial, hf.1, hf.2⟩]
        simp only [l_e, l_dfv (l_dfs c), List.map_cons, l_v]
      · cases h
    · cases h
  · -- getfield
    split at h
    · rename_i a st0
      split at h
      · rename_i c k c' fs hf hl
        split at h
        · rename_i hcc
          split at h
          · rename_i v hv
            cases h
            refine px_go hd ?_ (hq hP)
            simp only [pm_act, List.map_cons, l_v, hf, l_objb hP hl (l_nev hv), if_pos hcc, l_get hv]
          · cases h
        · cases h
      · cases h
    · cases h
  · -- putfield
    split at h
    · rename_i x a st0
      split at h
      · rename_i c k c' fs hf hl
        split at h
        · rename_i hcc
          cases h
          refine px_go hd ?_ (hq (l_P_set hP hl (l_ne (l_nek hcc.2.1))))
          rw [List.length_set, l_hb_set hP hl (l_ne (l_nek hcc.2.1))]
          simp only [pm_act, List.map_cons, l_v, hf, l_objb hP hl (l_nek hcc.2.1), List.length_map, if_pos hcc, l_e, List.map_set]
        · cases h
      · cases h
    · rename_i x a st0
      split at h
      · rename_i c k c' fs hf hl
        split at h
        · rename_i hcc
          cases h
          refine px_go hd ?_ (hq (l_P_set hP hl (l_ne (l_nek hcc.2.1))))
          rw [List.length_set, l_hb_set hP hl (l_ne (l_nek hcc.2.1))]
          simp only [pm_act, List.map_cons, l_v, hf, l_objb hP hl (l_nek hcc.2.1), List.length_map, if_pos hcc, l_e, List.map_set]
        · cases h
      · cases h
    · cases h
  · -- invokespecial
    split at h
    · rename_i k y' hm
      split at h
      · rename_i hc
        have hsum := l_sumv _ hc.2.1
        split at h
        · rename_i hk
          subst hk
          split at h
          · cases h
            refine px_go hd ?_ (hq hP)
            simp only [pm_act, hm]
            rw [if_pos (by decide)]
            simp only [pm_call]
            rw [if_pos ⟨by rw [hsum]; omega, hc.2.2⟩]
            rfl
          · cases h
        · split at h
          · split at h <;> cases h
          · cases h
      · cases h
    · cases h
  · -- fill
    split at h
    · rename_i k y' x a hm
      split at h
      · rename_i hc
        obtain ⟨rfl, rfl, c3, c4, c5⟩ := hc
        split at h
        · rename_i t n cl hl
          split at h
          · rename_i ht
            obtain ⟨rfl, rfl, rfl⟩ := ht
            cases h
            refine px_call (D := D) (y' := 249) (as := [.ref a, .int (q_I x)]) (st' := []) hd ?_ ⟨by decide, Nat.le_of_ble_eq_true rfl, by rfl, c4⟩ ?_
            · simp only [pm_act, hm]
              rw [if_pos (by decide)]
              simp only [pm_call]
              rw [if_pos ⟨Nat.le_of_ble_eq_true rfl, c3⟩]
              rfl
            · have e0 : ([.ref a, .int (q_I x)] ++ List.replicate (pm_nL 249 - [Value.ref a, .int (q_I x)].length) pm_no : List Value) = [.ref a, .int (q_I x), pm_no, pm_no] := rfl
              rw [e0]
              refine px249 (f := fun i : Nat => q_I (([] : List Int).getD i 0)) ?_ (by omega) ⟨none, rfl, ?_⟩
              · have hge := l_P_ge hP hl (by intro e; cases e)
                unfold pm_arr l_hb
                rw [if_pos (l_h_lt hl), if_neg (show ¬ a < N0 by omega), l_h_get hl]; rfl
              · have hq := hq (l_P_set hP hl (by intro e; cases e))
                rw [List.length_set, l_hb_set hP hl (by intro e; cases e)] at hq
                have ef : upd (upd (upd (fun i : Nat => q_I (([] : List Int).getD i 0)) 0 (q_I x)) 1 (q_I x)) 2 (q_I x) = fun i : Nat => q_I ([x, x, x].getD i 0) := by
                  funext i
                  match i with
                  | 0 => rfl
                  | 1 => rfl
                  | 2 => rfl
                  | i + 3 => simp [upd]
                rw [ef]
                exact hq
          · cases h
        · cases h
      · cases h
    · cases h
  · cases h
theorem l_take {n : Nat} {as st' : List V2} (h : q_take n st = some (as, st')) : pm_take n (st.map l_v) = some (as.map l_v, st'.map l_v) := by
  unfold q_take at h
  unfold pm_take
  rw [List.length_map]
  split at h
  · rename_i hn
    cases h
    rw [if_pos hn, List.map_reverse, List.map_take, List.map_drop]
  · cases h
theorem l_call {i : Instr} {y' : Nat} {as st' : List V2} (h : l_act y i pc ls st u l = some (.inr (y', as, st'))) : pm_act sc y i pc (ls.map l_v) (st.map l_v) u (l.length, true) (l_hb N0 b0 l) = some (.inr (.inr (y', as.map l_v, st'.map l_v))) := by
  unfold l_act at h
  split at h
  all_goals try ((repeat' (split at h)) <;> (cases h; done))
  split at h
  · rename_i k y1 hm
    split at h
    · rename_i hc
      have hsum := l_sumv _ hc.2.1
      split at h
      · split at h <;> cases h
      · split at h
        · rename_i hk4 hk
          split at h
          · rename_i a as1 st1 ht
            cases h
            have ht' := l_take ht
            simp only [pm_act, hm]
            rw [if_pos (by omega)]
            simp only [pm_call]
            rw [if_pos ⟨by rw [hsum]; omega, hc.2.2⟩]
            rcases hk with rfl | rfl
            · simp only [ht', List.map_cons, l_v, Option.bind_some]
            · simp only [ht', List.map_cons, l_v, Option.bind_some]
          · cases h
        · cases h
    · cases h
  · cases h
theorem l_rep (as : List V2) (k : Nat) : (as ++ List.replicate k vn).map l_v = as.map l_v ++ List.replicate k pm_no := by
  rw [List.map_append, List.map_replicate]
  rfl
theorem l_run (n : Nat) : ∀ (stop d y pc : Nat) (ls st : List V2) (u : PU) (l : List LC) (pc' : Nat) (ls' st' : List V2) (u' : PU) (l' : List LC) (Q : PP), l_exec n stop d y pc ls st u l = some (pc', ls', st', u', l') → l_P N0 l → (l_P N0 l' → px sc (D + d + 1) y pc' (ls'.map l_v) (st'.map l_v) u' (l'.length, true) (l_hb N0 b0 l') Q) → px sc (D + d + 1) y pc (ls.map l_v) (st.map l_v) u (l.length, true) (l_hb N0 b0 l) Q := by
  induction n with
  | zero => intro stop d y pc ls st u l pc' ls' st' u' l' Q h; cases h
  | succ n ih =>
    intro stop d y pc ls st u l pc' ls' st' u' l' Q h hP hq
    simp only [l_exec] at h
    split at h
    · cases h; exact hq hP
    · split at h
      · cases h
      · rename_i i hi
        split at h
        · cases h; exact hq hP
        · split at h
          · cases h
          · rename_i pc1 ls1 st1 u1 l1 ha
            exact l_step hi ha hP (fun hP' => ih _ _ _ _ _ _ _ _ _ _ _ _ _ _ h hP' hq)
          · rename_i y1 as st1 ha
            split at h
            · cases h
            · rename_i d1
              split at h
              · rename_i hc
                obtain ⟨c1, c2, c3, c4, c5⟩ := hc
                split at h
                · rename_i pc2 ls2 st2 u2 l2 hx
                  split at h
                  · rename_i hr
                    obtain ⟨rfl, r2, r3, r4⟩ := hr
                    refine px_call (D := D + d1 + 1) (as := as.map l_v) (st' := st1.map l_v) hi (l_call ha) ⟨by rw [l_sumv _ c2]; exact c1, by rw [List.length_map]; exact c3, l_allv _ c4, c5⟩ ?_
                    rw [List.length_map, ← l_rep]
                    refine ih _ _ _ _ _ _ _ _ _ _ _ _ _ _ hx hP (fun hP2 => ?_)
                    refine px_end (i := .return_) (v := none) r2 ?_ ⟨none, rfl, ?_⟩
                    · simp only [pm_act, List.map_nil, r3, r4, if_true]
                    · exact ih _ _ _ _ _ _ _ _ _ _ _ _ _ _ h hP2 hq
                  · cases h
                · cases h
              · cases h
end LSM
