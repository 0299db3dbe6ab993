/-! reading what was written; the reference's state while it reads a text -/
theorem q_up_app (σ : St) (a : Nat) (i x : Int) (b : Nat) (j : Int) : q_up σ a i x b j = if b = a ∧ j = i then x else σ b j := rfl
theorem q_upf_app (σ : St) (a : Nat) (f : Int → Int) (b : Nat) (j : Int) : q_upf σ a f b j = if b = a then f j else σ b j := rfl
theorem q_up_eq (σ : St) (a : Nat) (i x : Int) : q_up σ a i x a i = x := if_pos ⟨rfl, rfl⟩
theorem q_up_ne (σ : St) {a b : Nat} (i x j : Int) (h : ¬ b = a) : q_up σ a i x b j = σ b j := if_neg (fun q => h q.1)
theorem q_up_ne2 (σ : St) (a : Nat) {i j : Int} (x : Int) (h : ¬ j = i) : q_up σ a i x a j = σ a j := if_neg (fun q => h q.2)
theorem q_upf_ne (σ : St) {a b : Nat} (f : Int → Int) (j : Int) (h : ¬ b = a) : q_upf σ a f b j = σ b j := if_neg h
theorem q_upf_eq (σ : St) (a : Nat) (f : Int → Int) (j : Int) : q_upf σ a f a j = f j := if_pos rfl
/-- S: what the reading makes (statements, versions, checks, loops, tests, codes); r: all else; the place, where the word began, the fault, how deep -/
def RP (S r : St) (p b ft dp : Int) : St := fun a i =>
  if a = 136 then (if i = 8 then p else if i = 9 then b else if i = 10 then ft else if i = 11 then dp else if (14 ≤ i ∧ i ≤ 18) ∨ i = 49 ∨ i = 51 then S 136 i else r 136 i)
  else if 142 ≤ a ∧ a ≤ 172 then S a i else r a i
section RPS
variable {S r : St} {p b ft dp x i : Int} {a : Nat}
theorem RP_p : RP S r p b ft dp 136 8 = p := rfl
theorem RP_b : RP S r p b ft dp 136 9 = b := rfl
theorem RP_ft : RP S r p b ft dp 136 10 = ft := rfl
theorem RP_dp : RP S r p b ft dp 136 11 = dp := rfl
theorem RP_n : RP S r p b ft dp 136 6 = r 136 6 := rfl
theorem RP_told : RP S r p b ft dp 136 13 = r 136 13 := rfl
theorem RP_src : RP S r p b ft dp 139 i = r 139 i := rfl
theorem RP_least : RP S r p b ft dp 141 i = r 141 i := rfl
theorem RP_14 : RP S r p b ft dp 136 14 = S 136 14 := rfl
theorem RP_15 : RP S r p b ft dp 136 15 = S 136 15 := rfl
theorem RP_16 : RP S r p b ft dp 136 16 = S 136 16 := rfl
theorem RP_17 : RP S r p b ft dp 136 17 = S 136 17 := rfl
theorem RP_18 : RP S r p b ft dp 136 18 = S 136 18 := rfl
theorem RP_49 : RP S r p b ft dp 136 49 = S 136 49 := rfl
theorem RP_51 : RP S r p b ft dp 136 51 = S 136 51 := rfl
theorem RP_S (h1 : 142 ≤ a) (h2 : a ≤ 172) : RP S r p b ft dp a i = S a i := by
  unfold RP
  rw [if_neg (by omega), if_pos ⟨h1, h2⟩]
theorem RP_upp : q_up (RP S r p b ft dp) 136 8 x = RP S r x b ft dp := by
  funext c j
  simp only [q_up, RP]
  grind
theorem RP_upb : q_up (RP S r p b ft dp) 136 9 x = RP S r p x ft dp := by
  funext c j
  simp only [q_up, RP]
  grind
theorem RP_upft : q_up (RP S r p b ft dp) 136 10 x = RP S r p b x dp := by
  funext c j
  simp only [q_up, RP]
  grind
theorem RP_updp : q_up (RP S r p b ft dp) 136 11 x = RP S r p b ft x := by
  funext c j
  simp only [q_up, RP]
  grind
theorem RP_uptold : q_up (RP S r p b ft dp) 136 13 x = RP S (q_up r 136 13 x) p b ft dp := by
  funext c j
  simp only [q_up, RP]
  grind
theorem RP_upleast : q_up (RP S r p b ft dp) 141 i x = RP S (q_up r 141 i x) p b ft dp := by
  funext c j
  simp only [q_up, RP]
  grind
theorem RP_upSf (h : (14 ≤ i ∧ i ≤ 18) ∨ i = 49 ∨ i = 51) : q_up (RP S r p b ft dp) 136 i x = RP (q_up S 136 i x) r p b ft dp := by
  funext c j
  simp only [q_up, RP]
  grind
theorem RP_up14 : q_up (RP S r p b ft dp) 136 14 x = RP (q_up S 136 14 x) r p b ft dp := RP_upSf (by decide)
theorem RP_up15 : q_up (RP S r p b ft dp) 136 15 x = RP (q_up S 136 15 x) r p b ft dp := RP_upSf (by decide)
theorem RP_up16 : q_up (RP S r p b ft dp) 136 16 x = RP (q_up S 136 16 x) r p b ft dp := RP_upSf (by decide)
theorem RP_up17 : q_up (RP S r p b ft dp) 136 17 x = RP (q_up S 136 17 x) r p b ft dp := RP_upSf (by decide)
theorem RP_up18 : q_up (RP S r p b ft dp) 136 18 x = RP (q_up S 136 18 x) r p b ft dp := RP_upSf (by decide)
theorem RP_up49 : q_up (RP S r p b ft dp) 136 49 x = RP (q_up S 136 49 x) r p b ft dp := RP_upSf (by decide)
theorem RP_up51 : q_up (RP S r p b ft dp) 136 51 x = RP (q_up S 136 51 x) r p b ft dp := RP_upSf (by decide)
theorem RP_upS (h1 : 142 ≤ a) (h2 : a ≤ 172) : q_up (RP S r p b ft dp) a i x = RP (q_up S a i x) r p b ft dp := by
  funext c j
  simp only [q_up, RP]
  grind
theorem RP_c142 : RP S r p b ft dp 142 i = S 142 i := RP_S (by decide) (by decide)
theorem RP_u142 : q_up (RP S r p b ft dp) 142 i x = RP (q_up S 142 i x) r p b ft dp := RP_upS (by decide) (by decide)
theorem RP_c143 : RP S r p b ft dp 143 i = S 143 i := RP_S (by decide) (by decide)
theorem RP_u143 : q_up (RP S r p b ft dp) 143 i x = RP (q_up S 143 i x) r p b ft dp := RP_upS (by decide) (by decide)
theorem RP_c144 : RP S r p b ft dp 144 i = S 144 i := RP_S (by decide) (by decide)
theorem RP_u144 : q_up (RP S r p b ft dp) 144 i x = RP (q_up S 144 i x) r p b ft dp := RP_upS (by decide) (by decide)
theorem RP_c145 : RP S r p b ft dp 145 i = S 145 i := RP_S (by decide) (by decide)
theorem RP_u145 : q_up (RP S r p b ft dp) 145 i x = RP (q_up S 145 i x) r p b ft dp := RP_upS (by decide) (by decide)
theorem RP_c146 : RP S r p b ft dp 146 i = S 146 i := RP_S (by decide) (by decide)
theorem RP_u146 : q_up (RP S r p b ft dp) 146 i x = RP (q_up S 146 i x) r p b ft dp := RP_upS (by decide) (by decide)
theorem RP_c147 : RP S r p b ft dp 147 i = S 147 i := RP_S (by decide) (by decide)
theorem RP_u147 : q_up (RP S r p b ft dp) 147 i x = RP (q_up S 147 i x) r p b ft dp := RP_upS (by decide) (by decide)
theorem RP_c148 : RP S r p b ft dp 148 i = S 148 i := RP_S (by decide) (by decide)
theorem RP_u148 : q_up (RP S r p b ft dp) 148 i x = RP (q_up S 148 i x) r p b ft dp := RP_upS (by decide) (by decide)
theorem RP_c149 : RP S r p b ft dp 149 i = S 149 i := RP_S (by decide) (by decide)
theorem RP_u149 : q_up (RP S r p b ft dp) 149 i x = RP (q_up S 149 i x) r p b ft dp := RP_upS (by decide) (by decide)
theorem RP_c150 : RP S r p b ft dp 150 i = S 150 i := RP_S (by decide) (by decide)
theorem RP_u150 : q_up (RP S r p b ft dp) 150 i x = RP (q_up S 150 i x) r p b ft dp := RP_upS (by decide) (by decide)
theorem RP_c151 : RP S r p b ft dp 151 i = S 151 i := RP_S (by decide) (by decide)
theorem RP_u151 : q_up (RP S r p b ft dp) 151 i x = RP (q_up S 151 i x) r p b ft dp := RP_upS (by decide) (by decide)
theorem RP_c152 : RP S r p b ft dp 152 i = S 152 i := RP_S (by decide) (by decide)
theorem RP_u152 : q_up (RP S r p b ft dp) 152 i x = RP (q_up S 152 i x) r p b ft dp := RP_upS (by decide) (by decide)
theorem RP_c153 : RP S r p b ft dp 153 i = S 153 i := RP_S (by decide) (by decide)
theorem RP_u153 : q_up (RP S r p b ft dp) 153 i x = RP (q_up S 153 i x) r p b ft dp := RP_upS (by decide) (by decide)
theorem RP_c154 : RP S r p b ft dp 154 i = S 154 i := RP_S (by decide) (by decide)
theorem RP_u154 : q_up (RP S r p b ft dp) 154 i x = RP (q_up S 154 i x) r p b ft dp := RP_upS (by decide) (by decide)
theorem RP_c155 : RP S r p b ft dp 155 i = S 155 i := RP_S (by decide) (by decide)
theorem RP_u155 : q_up (RP S r p b ft dp) 155 i x = RP (q_up S 155 i x) r p b ft dp := RP_upS (by decide) (by decide)
theorem RP_c156 : RP S r p b ft dp 156 i = S 156 i := RP_S (by decide) (by decide)
theorem RP_u156 : q_up (RP S r p b ft dp) 156 i x = RP (q_up S 156 i x) r p b ft dp := RP_upS (by decide) (by decide)
theorem RP_c157 : RP S r p b ft dp 157 i = S 157 i := RP_S (by decide) (by decide)
theorem RP_u157 : q_up (RP S r p b ft dp) 157 i x = RP (q_up S 157 i x) r p b ft dp := RP_upS (by decide) (by decide)
theorem RP_c158 : RP S r p b ft dp 158 i = S 158 i := RP_S (by decide) (by decide)
theorem RP_u158 : q_up (RP S r p b ft dp) 158 i x = RP (q_up S 158 i x) r p b ft dp := RP_upS (by decide) (by decide)
theorem RP_c159 : RP S r p b ft dp 159 i = S 159 i := RP_S (by decide) (by decide)
theorem RP_u159 : q_up (RP S r p b ft dp) 159 i x = RP (q_up S 159 i x) r p b ft dp := RP_upS (by decide) (by decide)
theorem RP_c160 : RP S r p b ft dp 160 i = S 160 i := RP_S (by decide) (by decide)
theorem RP_u160 : q_up (RP S r p b ft dp) 160 i x = RP (q_up S 160 i x) r p b ft dp := RP_upS (by decide) (by decide)
theorem RP_c161 : RP S r p b ft dp 161 i = S 161 i := RP_S (by decide) (by decide)
theorem RP_u161 : q_up (RP S r p b ft dp) 161 i x = RP (q_up S 161 i x) r p b ft dp := RP_upS (by decide) (by decide)
theorem RP_c162 : RP S r p b ft dp 162 i = S 162 i := RP_S (by decide) (by decide)
theorem RP_u162 : q_up (RP S r p b ft dp) 162 i x = RP (q_up S 162 i x) r p b ft dp := RP_upS (by decide) (by decide)
theorem RP_c163 : RP S r p b ft dp 163 i = S 163 i := RP_S (by decide) (by decide)
theorem RP_u163 : q_up (RP S r p b ft dp) 163 i x = RP (q_up S 163 i x) r p b ft dp := RP_upS (by decide) (by decide)
theorem RP_c164 : RP S r p b ft dp 164 i = S 164 i := RP_S (by decide) (by decide)
theorem RP_u164 : q_up (RP S r p b ft dp) 164 i x = RP (q_up S 164 i x) r p b ft dp := RP_upS (by decide) (by decide)
theorem RP_c165 : RP S r p b ft dp 165 i = S 165 i := RP_S (by decide) (by decide)
theorem RP_u165 : q_up (RP S r p b ft dp) 165 i x = RP (q_up S 165 i x) r p b ft dp := RP_upS (by decide) (by decide)
theorem RP_c166 : RP S r p b ft dp 166 i = S 166 i := RP_S (by decide) (by decide)
theorem RP_u166 : q_up (RP S r p b ft dp) 166 i x = RP (q_up S 166 i x) r p b ft dp := RP_upS (by decide) (by decide)
theorem RP_c167 : RP S r p b ft dp 167 i = S 167 i := RP_S (by decide) (by decide)
theorem RP_u167 : q_up (RP S r p b ft dp) 167 i x = RP (q_up S 167 i x) r p b ft dp := RP_upS (by decide) (by decide)
theorem RP_c168 : RP S r p b ft dp 168 i = S 168 i := RP_S (by decide) (by decide)
theorem RP_u168 : q_up (RP S r p b ft dp) 168 i x = RP (q_up S 168 i x) r p b ft dp := RP_upS (by decide) (by decide)
theorem RP_c169 : RP S r p b ft dp 169 i = S 169 i := RP_S (by decide) (by decide)
theorem RP_u169 : q_up (RP S r p b ft dp) 169 i x = RP (q_up S 169 i x) r p b ft dp := RP_upS (by decide) (by decide)
theorem RP_c170 : RP S r p b ft dp 170 i = S 170 i := RP_S (by decide) (by decide)
theorem RP_u170 : q_up (RP S r p b ft dp) 170 i x = RP (q_up S 170 i x) r p b ft dp := RP_upS (by decide) (by decide)
theorem RP_c171 : RP S r p b ft dp 171 i = S 171 i := RP_S (by decide) (by decide)
theorem RP_u171 : q_up (RP S r p b ft dp) 171 i x = RP (q_up S 171 i x) r p b ft dp := RP_upS (by decide) (by decide)
theorem RP_c172 : RP S r p b ft dp 172 i = S 172 i := RP_S (by decide) (by decide)
theorem RP_u172 : q_up (RP S r p b ft dp) 172 i x = RP (q_up S 172 i x) r p b ft dp := RP_upS (by decide) (by decide)
theorem RP_upfS {g : Int → Int} (h1 : 142 ≤ a) (h2 : a ≤ 172) : q_upf (RP S r p b ft dp) a g = RP (q_upf S a g) r p b ft dp := by
  funext c j
  simp only [q_upf, RP]
  grind
theorem RP_eta (σ : St) : RP σ σ (σ 136 8) (σ 136 9) (σ 136 10) (σ 136 11) = σ := by
  funext c j
  simp only [RP]
  grind
end RPS
