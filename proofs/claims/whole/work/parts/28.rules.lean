/-! RULES: from a place of a method to the next one -/
abbrev QP : Type := (Option V2 ⊕ Nat) → Bool → St → Prop
/-- from this place on, the method ends, and so that Q -/
def qx (sc : Nat × (Nat → Int32)) (D y pc : Nat) (ls st : List V2) (u : PU) (bb : Bool) (σ : St) (Q : QP) : Prop :=
  ∃ n r bb' σ', q_exec sc n D y pc ls st u bb σ = some (r, bb', σ') ∧ Q r bb' σ'
theorem q_mono1 (sc : Nat × (Nat → Int32)) : ∀ (n d y pc : Nat) (ls st : List V2) (u : PU) (bb : Bool) (σ : St) (r : (Option V2 ⊕ Nat) × Bool × St), q_exec sc n d y pc ls st u bb σ = some r → q_exec sc (n + 1) d y pc ls st u bb σ = some r := by
  intro n
  induction n with
  | zero => intro d y pc ls st u bb σ r h; cases h
  | succ n ih =>
    intro d y pc ls st u bb σ r h
    rw [q_exec] at h ⊢
    split at h
    · cases h
    · rename_i i hi
      try rw [hi]
      try simp only
      split at h
      · cases h
      · rename_i pc1 ls1 st1 u1 σ1 ha
        try rw [ha]
        exact ih _ _ _ _ _ _ _ _ _ h
      · rename_i r1 ha
        try rw [ha]
        exact h
      · rename_i y1 as st1 ha
        try rw [ha]
        try simp only
        split at h
        · cases h
        · rename_i d1
          try simp only
          split at h
          · rename_i hc
            try rw [if_pos hc]
            split at h
            · rename_i v bb1 σ1 hex
              rw [ih _ _ _ _ _ _ _ _ _ hex]
              exact ih _ _ _ _ _ _ _ _ _ h
            · rename_i e bb1 σ1 hex
              rw [ih _ _ _ _ _ _ _ _ _ hex]
              try simp only
              split at h
              · cases h
              · rename_i hini
                try rw [if_neg hini]
                split at h
                · rename_i hh
                  try rw [if_pos hh]
                  exact h
                · rename_i hh
                  try rw [if_neg hh]
                  split at h
                  · rename_i pc2 ls2 hcat
                    try rw [hcat]
                    exact ih _ _ _ _ _ _ _ _ _ h
                  · cases h
            · cases h
          · cases h
theorem q_mono {sc : Nat × (Nat → Int32)} {n n' d y pc : Nat} {ls st : List V2} {u : PU} {bb : Bool} {σ : St} {r : (Option V2 ⊕ Nat) × Bool × St} (hn : n ≤ n') (h : q_exec sc n d y pc ls st u bb σ = some r) : q_exec sc n' d y pc ls st u bb σ = some r := by
  induction hn with
  | refl => exact h
  | step _ ih => exact q_mono1 sc _ _ _ _ _ _ _ _ _ _ ih
section QR
variable {sc : Nat × (Nat → Int32)} {D y pc : Nat} {ls st : List V2} {u : PU} {bb : Bool} {σ : St} {Q : QP}
theorem qx_go {i : Instr} {pc' : Nat} {ls' st' : List V2} {u' : PU} {σ' : St} (hd : pm_dec y pc = some i) (ha : q_act sc y i pc ls st u σ = some (.inl (pc', ls', st', u', σ'))) : qx sc D y pc ls st u bb σ Q ↔ qx sc D y pc' ls' st' u' bb σ' Q := by
  constructor
  · rintro ⟨n, r, bb', σ1, h, hQ⟩
    cases n with
    | zero => cases h
    | succ n =>
      rw [q_exec, hd] at h
      simp only [ha] at h
      exact ⟨n, r, bb', σ1, h, hQ⟩
  · rintro ⟨n, r, bb', σ1, h, hQ⟩
    refine ⟨n + 1, r, bb', σ1, ?_, hQ⟩
    rw [q_exec, hd]
    simp only [ha]
    exact h
theorem qx_end {i : Instr} {r : Option V2 ⊕ Nat} (hd : pm_dec y pc = some i) (ha : q_act sc y i pc ls st u σ = some (.inr (.inl r))) : qx sc D y pc ls st u bb σ Q ↔ Q r (bb && r.isLeft) σ := by
  constructor
  · rintro ⟨n, r', bb', σ1, h, hQ⟩
    cases n with
    | zero => cases h
    | succ n =>
      rw [q_exec, hd] at h
      simp only [ha] at h
      cases h
      exact hQ
  · intro hQ
    refine ⟨1, r, _, σ, ?_, hQ⟩
    rw [q_exec, hd]
    simp only [ha]
theorem qx_no {i : Instr} (hd : pm_dec y pc = some i) (ha : q_act sc y i pc ls st u σ = none) : ¬ qx sc D y pc ls st u bb σ Q := by
  rintro ⟨n, r', bb', σ1, h, hQ⟩
  cases n with
  | zero => cases h
  | succ n =>
    rw [q_exec, hd] at h
    simp only [ha] at h
    cases h
/-- what is left to do behind a call -/
def q_k (sc : Nat × (Nat → Int32)) (D y pc y' : Nat) (ls st : List V2) (u : PU) (Q : QP) : QP := fun r bb σ => match r with
  | .inl v => qx sc (D + 1) y (pc + 3) ls (v.toList ++ st) (u.1 + pm_bc y', u.2 + pm_bs y') bb σ Q
  | .inr e => if pm_ini y' = true then False else if pm_hh y = [] then Q (.inr e) bb σ else
    match q_catch y pc e ls with
    | some (pc', ls') => qx sc (D + 1) y pc' ls' [] (u.1 + pm_bc y', u.2 + pm_bs y') bb σ Q
    | none => False
theorem qx_call {i : Instr} {y' : Nat} {as st' : List V2} (hd : pm_dec y pc = some i) (ha : q_act sc y i pc ls st u σ = some (.inr (.inr (y', as, st')))) (hc : q_sum st' ≤ 8 ∧ as.length ≤ pm_nL y' ∧ as.all (fun v => q_cat v == 1) = true ∧ pm_fits y (pm_bc y') (pm_bs y') u = true) :
    qx sc (D + 1) y pc ls st u bb σ Q ↔ qx sc D y' 0 (as ++ List.replicate (pm_nL y' - as.length) vn) [] (0, 0) bb σ (q_k sc D y pc y' ls st' u Q) := by
  constructor
  · rintro ⟨n, r', bb', σ1, h, hQ⟩
    cases n with
    | zero => cases h
    | succ n =>
      rw [q_exec, hd] at h
      simp only [ha, if_pos hc] at h
      split at h
      · rename_i v bb1 σ2 hex
        exact ⟨n, _, bb1, σ2, hex, n, r', bb', σ1, h, hQ⟩
      · rename_i e bb1 σ2 hex
        refine ⟨n, _, bb1, σ2, hex, ?_⟩
        simp only [q_k]
        split at h
        · cases h
        · rename_i hini
          rw [if_neg hini]
          split at h
          · rename_i hh
            rw [if_pos hh]
            cases h
            exact hQ
          · rename_i hh
            rw [if_neg hh]
            split at h
            · rename_i pc2 ls2 hcat
              rw [hcat]
              exact ⟨n, r', bb', σ1, h, hQ⟩
            · cases h
      · cases h
  · rintro ⟨n, r1, bb1, σ2, hex, hk⟩
    unfold q_k at hk
    split at hk
    · rename_i v
      obtain ⟨n2, r', bb', σ1, h, hQ⟩ := hk
      refine ⟨max n n2 + 1, r', bb', σ1, ?_, hQ⟩
      rw [q_exec, hd]
      simp only [ha, if_pos hc, q_mono (Nat.le_max_left n n2) hex]
      exact q_mono (Nat.le_max_right n n2) h
    · rename_i e
      split at hk
      · exact hk.elim
      · rename_i hini
        split at hk
        · rename_i hh
          refine ⟨n + 1, _, _, _, ?_, hk⟩
          rw [q_exec, hd]
          simp only [ha, if_pos hc, hex, if_neg hini, if_pos hh]
        · rename_i hh
          split at hk
          · rename_i pc2 ls2 hcat
            obtain ⟨n2, r', bb', σ1, h, hQ⟩ := hk
            refine ⟨max n n2 + 1, r', bb', σ1, ?_, hQ⟩
            rw [q_exec, hd]
            simp only [ha, if_pos hc, q_mono (Nat.le_max_left n n2) hex, if_neg hini, if_neg hh, hcat]
            exact q_mono (Nat.le_max_right n n2) h
          · exact hk.elim
end QR
