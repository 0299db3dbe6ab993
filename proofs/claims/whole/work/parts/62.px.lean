/-! THE PURE MACHINE, step by step: the constructors -/
abbrev PP : Type := (Option Value ⊕ Nat) → PG → PH → Prop
def px (sc : Nat × (Nat → Int32)) (D y pc : Nat) (ls st : List Value) (u : PU) (g : PG) (h : PH) (Q : PP) : Prop :=
  ∃ n r g' h', pm_exec sc n D y pc ls st u g h = some (r, g', h') ∧ Q r g' h'
theorem p_mono1 (sc : Nat × (Nat → Int32)) : ∀ (n d y pc : Nat) (ls st : List Value) (u : PU) (g : PG) (h : PH) (r : PR), pm_exec sc n d y pc ls st u g h = some r → pm_exec sc (n + 1) d y pc ls st u g h = some r := by
  intro n
  induction n with
  | zero => intro d y pc ls st u g h r he; cases he
  | succ n ih =>
    intro d y pc ls st u g hp r h
    rw [pm_exec] at h ⊢
    split at h
    · cases h
    · rename_i i hi
      try rw [hi]
      try simp only
      split at h
      · cases h
      · rename_i pc1 ls1 st1 u1 g1 h1 ha
        try rw [ha]
        exact ih _ _ _ _ _ _ _ _ _ h
      · rename_i r1 ha
        try rw [ha]
        exact h
      · rename_i y1 as st1 ha
        try rw [ha]
        try simp only
        split at h
        · cases h
        · rename_i d1
          try simp only
          split at h
          · rename_i hc
            try rw [if_pos hc]
            split at h
            · rename_i v g1 h1 hex
              rw [ih _ _ _ _ _ _ _ _ _ hex]
              exact ih _ _ _ _ _ _ _ _ _ h
            · rename_i e g1 h1 hex
              rw [ih _ _ _ _ _ _ _ _ _ hex]
              try simp only
              split at h
              · cases h
              · rename_i hini
                try rw [if_neg hini]
                split at h
                · rename_i hh
                  try rw [if_pos hh]
                  exact h
                · rename_i hh
                  try rw [if_neg hh]
                  split at h
                  · rename_i pc2 ls2 hcat
                    try rw [hcat]
                    exact ih _ _ _ _ _ _ _ _ _ h
                  · cases h
            · cases h
          · cases h
theorem p_mono {sc : Nat × (Nat → Int32)} {n n' d y pc : Nat} {ls st : List Value} {u : PU} {g : PG} {h : PH} {r : PR} (hn : n ≤ n') (he : pm_exec sc n d y pc ls st u g h = some r) : pm_exec sc n' d y pc ls st u g h = some r := by
  induction hn with
  | refl => exact he
  | step _ ih => exact p_mono1 sc _ _ _ _ _ _ _ _ _ _ ih
section PXR
variable {sc : Nat × (Nat → Int32)} {D y pc : Nat} {ls st : List Value} {u : PU} {g : PG} {h : PH} {Q : PP}
theorem px_go {i : Instr} {pc' : Nat} {ls' st' : List Value} {u' : PU} {g' : PG} {h' : PH} (hd : pm_dec y pc = some i) (ha : pm_act sc y i pc ls st u g h = some (.inl (pc', ls', st', u', g', h'))) (hq : px sc D y pc' ls' st' u' g' h' Q) : px sc D y pc ls st u g h Q := by
  obtain ⟨n, r, g1, h1, he, hQ⟩ := hq
  refine ⟨n + 1, r, g1, h1, ?_, hQ⟩
  rw [pm_exec, hd]
  simp only [ha]
  exact he
theorem px_end {i : Instr} {v : Option Value} (hd : pm_dec y pc = some i) (ha : pm_act sc y i pc ls st u g h = some (.inr (.inl (.inl v)))) (hq : Q (.inl v) g h) : px sc D y pc ls st u g h Q := by
  refine ⟨1, .inl v, g, h, ?_, hq⟩
  rw [pm_exec, hd]
  simp only [ha]
  simp
theorem px_call {i : Instr} {y' : Nat} {as st' : List Value} (hd : pm_dec y pc = some i) (ha : pm_act sc y i pc ls st u g h = some (.inr (.inr (y', as, st')))) (hc : pm_sum st' ≤ 8 ∧ as.length ≤ pm_nL y' ∧ as.all (fun v => v.category == 1) = true ∧ pm_fits y (pm_bc y') (pm_bs y') u = true)
    (hq : px sc D y' 0 (as ++ List.replicate (pm_nL y' - as.length) pm_no) [] (0, 0) g h (fun r g' h' => ∃ v, r = .inl v ∧ px sc (D + 1) y (pc + 3) ls (v.toList ++ st') (u.1 + pm_bc y', u.2 + pm_bs y') g' h' Q)) : px sc (D + 1) y pc ls st u g h Q := by
  obtain ⟨n, r, g1, h1, he, v, rfl, n2, r2, g2, h2, he2, hQ⟩ := hq
  refine ⟨max n n2 + 1, r2, g2, h2, ?_, hQ⟩
  rw [pm_exec, hd]
  simp only [ha]
  rw [if_pos hc, p_mono (Nat.le_max_left n n2) he]
  exact p_mono (Nat.le_max_right n n2) he2
end PXR
