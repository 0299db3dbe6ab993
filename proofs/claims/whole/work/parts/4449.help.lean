section HLP
variable {S S0 S' : St} {i k f : Int} {a c : Nat} {p : SO} {o : NO}
theorem bel_14 (h : i < S 136 14) (ha : (142 ≤ a ∧ a ≤ 146) ∨ a = 164) : bel S a i := by unfold bel; omega
theorem bel_165 (h : i < 2 * S 136 14) (ha : 165 ≤ a ∧ a ≤ 167) : bel S a i := by unfold bel; omega
theorem bel_15 (h : i < S 136 15) (ha : 147 ≤ a ∧ a ≤ 154) : bel S a i := by unfold bel; omega
theorem bel_16 (h : i < S 136 16) (ha : 155 ≤ a ∧ a ≤ 159) : bel S a i := by unfold bel; omega
theorem bel_17 (h : i < S 136 17) (ha : 160 ≤ a ∧ a ≤ 163) : bel S a i := by unfold bel; omega
theorem bel_18 (h : i < S 136 18) (ha : 168 ≤ a ∧ a ≤ 170) : bel S a i := by unfold bel; omega
theorem bel_172 (h : i < S 136 51) : bel S 172 i := by unfold bel; omega
theorem NTB_Wc (h : NTB S0 S p o) (hct : NCT S0 S p o) (hw : WX (fun a i => a = c ∧ i = k) S S') (hc : 168 ≤ c ∧ c ≤ 170) (hk : k < S0 136 18 ∨ S 136 18 ≤ k) : NTB S0 S' p o := by
  refine NTB_W h hct hw ?_ ?_ ?_ ?_ ?_ ?_ <;> intros <;> rintro ⟨h1, h2⟩ <;> omega
theorem NTB_Wd {n : Nat} (h : NTB S0 S p o) (hct : NCT S0 S p o) (hw : WX (fun a i => (a = 151 ∧ f ≤ i ∧ i < f + n) ∨ (a = 170 ∧ i = k)) S S') (hf : f + n ≤ S0 136 15) (hk : k < S0 136 18 ∨ S 136 18 ≤ k) : NTB S0 S' p o := by
  refine NTB_W h hct hw ?_ ?_ ?_ ?_ ?_ ?_ <;> intros <;> rintro (⟨h1, h2, h3⟩ | ⟨h1, h2⟩) <;> omega
theorem SRokR_of {j : Int} {x : SR} (h : SRokR S j x) (g : ∀ a i, ((142 ≤ a ∧ a ≤ 146) ∨ a = 164) ∧ i = j ∨ (165 ≤ a ∧ a ≤ 166 ∧ (i = 2 * j ∨ i = 2 * j + 1)) → S' a i = S a i) : SRokR S' j x := by
  unfold SRokR at *
  rw [g 142 _ (by omega), g 143 _ (by omega), g 144 _ (by omega), g 145 _ (by omega), g 146 _ (by omega), g 164 _ (by omega), g 165 (2 * j) (by omega), g 166 (2 * j) (by omega), g 165 (2 * j + 1) (by omega), g 166 (2 * j + 1) (by omega)]
  exact h
theorem nbel_18 (h : 168 ≤ a ∧ a ≤ 170) : ¬ bel S a (S 136 18) := by unfold bel; omega
theorem h_two {j n : Int} (h : j < n) (h3 : i = 2 * j ∨ i = 2 * j + 1) : i < 2 * n := by omega
theorem h_ai {j : Int} (h : ((142 ≤ a ∧ a ≤ 146) ∨ a = 164) ∧ i = j ∨ (165 ≤ a ∧ a ≤ 166 ∧ (i = 2 * j ∨ i = 2 * j + 1))) : ¬ a = 170 := by omega
theorem CU_trans {T U : St} (h1 : CU S T) (h2 : CU T U) : CU S U := by
  unfold CU at *
  omega
end HLP
