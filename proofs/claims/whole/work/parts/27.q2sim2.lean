def q_r (r : Option V2 ⊕ Nat) : Option Value ⊕ Nat := match r with
  | .inl v => .inl (v.map q_v)
  | .inr e => .inr e
def q_okr (N : Nat) (r : Option V2 ⊕ Nat) : Prop := match r with
  | .inl v => ∀ x, v = some x → q_ok N x
  | .inr _ => True
theorem q_ok_vn {N : Nat} : q_ok N vn := trivial
theorem q_catch_ok {N y pc e pc' : Nat} {ls ls' : List V2} (hl : ∀ v ∈ ls, q_ok N v) (h : q_catch y pc e ls = some (pc', ls')) : pm_catch y pc e (ls.map q_v) = some (pc', ls'.map q_v) ∧ ∀ v ∈ ls', q_ok N v := by
  unfold q_catch at h
  unfold pm_catch
  split at h
  · rename_i x hx
    rw [hx]
    simp only
    split at h
    · rename_i k hk
      rw [hk]
      split at h
      · rename_i hlen
        cases h
        simp only [List.length_map, if_pos hlen]
        exact ⟨by rw [q_lset]; rfl, q_set hl q_ok_vn⟩
      · cases h
    · rename_i k hk
      rw [hk]
      split at h
      · rename_i hlen
        cases h
        simp only [List.length_map, if_pos hlen]
        exact ⟨by rw [q_lset]; rfl, q_set hl q_ok_vn⟩
      · cases h
    · cases h
  · cases h
theorem q_all_ok (as : List V2) : (as.map q_v).all (fun v => v.category == 1) = as.all (fun v => q_cat v == 1) := by
  rw [List.all_map]
  congr 1
  funext v
  simp only [Function.comp, q_cat_ok]
theorem q_rep (as : List V2) (k : Nat) : (as ++ List.replicate k vn).map q_v = as.map q_v ++ List.replicate k pm_no := by
  rw [List.map_append, List.map_replicate]
  rfl
theorem q_sim {N : Nat} (hN : q_cl N) (h0 : PH) (sc : Nat × (Nat → Int32)) : ∀ (n d y pc : Nat) (ls st : List V2) (u : PU) (bb : Bool) (σ : St) (r : Option V2 ⊕ Nat) (bb' : Bool) (σ' : St), (∀ v ∈ ls, q_ok N v) → (∀ v ∈ st, q_ok N v) → q_S N σ → q_exec sc n d y pc ls st u bb σ = some (r, bb', σ') →
    pm_exec sc n d y pc (ls.map q_v) (st.map q_v) u (N, bb) (q_eh N h0 σ) = some (q_r r, (N, bb'), q_eh N h0 σ') ∧ q_okr N r ∧ q_S N σ' := by
  intro n
  induction n with
  | zero => intro d y pc ls st u bb σ r bb' σ' _ _ _ h; cases h
  | succ n ih =>
    intro d y pc ls st u bb σ r bb' σ' hl hs hσ h
    simp only [q_exec] at h
    simp only [pm_exec]
    split at h
    · cases h
    · rename_i i hi
      rw [hi]
      simp only
      split at h
      · cases h
      · rename_i pc1 ls1 st1 u1 σ1 ha
        obtain ⟨h1, h2, h3, h4⟩ := q_all i N h0 sc y pc ls st u bb σ _ hN hl hs hσ ha
        rw [h1]
        exact ih d y pc1 ls1 st1 u1 bb σ1 r bb' σ' h2 h3 h4 h
      · rename_i r1 ha
        obtain ⟨h1, h2⟩ := q_all i N h0 sc y pc ls st u bb σ _ hN hl hs hσ ha
        rw [h1]
        cases h
        rcases r with v | e
        · exact ⟨by simp [q_Nn, q_r], h2, hσ⟩
        · exact ⟨by simp [q_Nn, q_r], trivial, hσ⟩
      · rename_i y1 as st1 ha
        obtain ⟨h1, h2, h3⟩ := q_all i N h0 sc y pc ls st u bb σ _ hN hl hs hσ ha
        rw [h1]
        simp only [q_Nn]
        split at h
        · cases h
        · rename_i d1
          split at h
          · rename_i hc
            obtain ⟨c1, c2, c3, c4⟩ := hc
            have hcc : pm_sum (st1.map q_v) ≤ 8 ∧ (as.map q_v).length ≤ pm_nL y1 ∧ (as.map q_v).all (fun v => v.category == 1) = true ∧ pm_fits y (pm_bc y1) (pm_bs y1) u = true := ⟨by rw [q_sum_ok]; exact c1, by rw [List.length_map]; exact c2, by rw [q_all_ok]; exact c3, c4⟩
            simp only
            rw [if_pos hcc]
            have hargs : ∀ v ∈ as ++ List.replicate (pm_nL y1 - as.length) vn, q_ok N v := by
              intro v hv
              rcases List.mem_append.mp hv with h9 | h9
              · exact h2 v h9
              · rw [(List.mem_replicate.mp h9).2]; exact q_ok_vn
            split at h
            · rename_i v bb1 σ1 hex
              obtain ⟨k1, k2, k3⟩ := ih d1 y1 0 _ [] (0, 0) bb σ _ _ _ hargs (fun _ h => by cases h) hσ hex
              rw [q_rep] at k1
              rw [List.length_map]
              rw [List.map_nil] at k1
              rw [k1]
              simp only [q_r]
              have hst : ∀ w ∈ v.toList ++ st1, q_ok N w := by
                intro w hw
                rcases List.mem_append.mp hw with h9 | h9
                · exact k2 w (Option.mem_toList.mp h9)
                · exact h3 w h9
              have e9 : (v.map q_v).toList ++ st1.map q_v = (v.toList ++ st1).map q_v := by cases v <;> simp
              rw [e9]
              exact ih (d1 + 1) y (pc + 3) ls _ _ bb1 σ1 r bb' σ' hl hst k3 h
            · rename_i e bb1 σ1 hex
              obtain ⟨k1, k2, k3⟩ := ih d1 y1 0 _ [] (0, 0) bb σ _ _ _ hargs (fun _ h => by cases h) hσ hex
              rw [q_rep] at k1
              rw [List.length_map]
              rw [List.map_nil] at k1
              rw [k1]
              simp only [q_r]
              split at h
              · cases h
              · rename_i hini
                rw [if_neg hini]
                split at h
                · rename_i hh
                  rw [if_pos hh]
                  cases h
                  exact ⟨rfl, trivial, k3⟩
                · rename_i hh
                  rw [if_neg hh]
                  split at h
                  · rename_i pc2 ls2 hcat
                    obtain ⟨m1, m2⟩ := q_catch_ok hl hcat
                    rw [m1]
                    exact ih (d1 + 1) y pc2 ls2 [] _ bb1 σ1 r bb' σ' m2 (fun _ h => by cases h) k3 h
                  · cases h
            · cases h
          · cases h
