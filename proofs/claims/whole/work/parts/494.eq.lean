/-! the equations of bounds -/
def TOK (pl : Int → Int) (i : Int) (τ : Int × Int × Int) : Prop := (τ.2.2 = 0 ∨ τ.2.2 = -1) ∧ (τ.1 = 0 ∨ (τ.1 = 1 ∧ -99 ≤ τ.2.1 ∧ τ.2.1 ≤ 99) ∨ (τ.1 = 2 ∧ 0 ≤ τ.2.1 ∧ τ.2.1 ≤ 2 ∧ ¬ pl τ.2.1 = -1) ∨ (τ.1 = 3 ∧ 0 ≤ τ.2.1 ∧ τ.2.1 < i))
theorem TOK_0 {pl : Int → Int} {i : Int} : TOK pl i t0 := ⟨Or.inl rfl, Or.inl rfl⟩
theorem v_term_ok {pl : Int → Int} {T : TT} {sv0 sv1 how w i : Int} (ht : VALt pl T) (h0 : T.2.1.1 = 3 → 0 ≤ sv0 ∧ sv0 < i) (h1 : T.2.2.1 = 3 → 0 ≤ sv1 ∧ sv1 < i) : TOK pl i (v_term T sv0 sv1 how w).1 ∧ TOK pl i (v_term T sv0 sv1 how w).2 := by
  obtain ⟨-, hl, hr⟩ := ht
  have key : ∀ sh : Int, (sh = 0 ∨ sh = -1) → TOK pl i ((if w = 0 then T.2.2.1 else T.2.1.1), (if (if w = 0 then T.2.2.1 else T.2.1.1) = 3 then (if w = 0 then sv1 else sv0) else (if w = 0 then T.2.2.2 else T.2.1.2)), sh) := by
    intro sh hsh
    refine ⟨hsh, ?_⟩
    unfold VALs at hl hr
    by_cases hw : w = 0
    · simp only [if_pos hw]
      rcases hr with ⟨a, b, c⟩ | ⟨a, b, c, d⟩ | ⟨a, b, c⟩
      · simp only [a, Int.reduceEq, if_false]; right; left; exact ⟨trivial, by omega, by omega⟩
      · simp only [a, Int.reduceEq, if_false]; right; right; left; exact ⟨trivial, b, c, d⟩
      · have := h1 a
        simp only [a, if_true]; right; right; right; exact ⟨trivial, this⟩
    · simp only [if_neg hw]
      rcases hl with ⟨a, b, c⟩ | ⟨a, b, c, d⟩ | ⟨a, b, c⟩
      · simp only [a, Int.reduceEq, if_false]; right; left; exact ⟨trivial, by omega, by omega⟩
      · simp only [a, Int.reduceEq, if_false]; right; right; left; exact ⟨trivial, b, c, d⟩
      · have := h0 a
        simp only [a, if_true]; right; right; right; exact ⟨trivial, this⟩
  have ksh : ∀ P : Prop, [Decidable P] → ((if P then (-1 : Int) else 0) = 0 ∨ (if P then (-1 : Int) else 0) = -1) := by
    intro P _
    split
    · exact Or.inr rfl
    · exact Or.inl rfl
  unfold v_term
  dsimp only
  split
  · split
    · exact ⟨key 0 (Or.inl rfl), key 0 (Or.inl rfl)⟩
    · exact ⟨TOK_0, TOK_0⟩
  · split
    · exact ⟨key _ (ksh _), TOK_0⟩
    · exact ⟨TOK_0, key _ (ksh _)⟩
section EQA
variable {G : GT} {pl q : Int → Int} {N i b wo : Int} {V v : Nat}
abbrev v_meet (x : VR) : Prop := x.1.2.1 = 5 ∨ x.1.2.1 = 6
theorem WV_m (h : WV G pl N i) (hm : v_meet (gV G i)) : (0 ≤ (gV G i).1.2.2.2.1 ∧ (gV G i).1.2.2.2.1 < i) ∧ (0 ≤ (gV G i).1.2.2.2.2 ∧ ((gV G i).1.2.2.2.2 < N ∨ (gV G i).1.2.2.2.2 < i)) ∧ (gV G i).2 = ((0, -1, 0), (0, t0, t0)) ∧ ((gV G i).1.2.1 = 5 → (gV G i).1.2.2.2.2 < i) := by
  obtain ⟨-, h⟩ := h
  rcases h with h | h | h | h | h | h
  · unfold W0 at h; omega
  · unfold W1 at h; omega
  · unfold W2 at h; omega
  · unfold W3 at h; omega
  · obtain ⟨a, b1, c, d⟩ := h
    exact ⟨b1, ⟨c.1, Or.inr c.2⟩, d, fun _ => c.2⟩
  · obtain ⟨a, b1, c, e, d⟩ := h
    exact ⟨⟨b1.1, by omega⟩, ⟨c.1, Or.inl c.2⟩, d, fun q => by omega⟩
theorem WV_n (h : WV G pl N i) (hm : ¬ v_meet (gV G i)) : ((gV G i).1.2.2.2.1 = -1 ∨ (0 ≤ (gV G i).1.2.2.2.1 ∧ (gV G i).1.2.2.2.1 < i)) ∧ (-99 ≤ (gV G i).2.2.1 ∧ (gV G i).2.2.1 ≤ 99) ∧ TOK pl i (gV G i).2.2.2.1 ∧ TOK pl i (gV G i).2.2.2.2 := by
  obtain ⟨-, h⟩ := h
  rcases h with h | h | h | h | h | h
  · obtain ⟨a, b1, c⟩ := h
    rw [c]
    exact ⟨Or.inl b1.2.1, by dsimp only; omega, ⟨Or.inl rfl, Or.inr (Or.inl ⟨rfl, by decide, by decide⟩)⟩, ⟨Or.inl rfl, Or.inr (Or.inl ⟨rfl, by decide, by decide⟩)⟩⟩
  · obtain ⟨a, b1, c⟩ := h
    rcases c with ⟨c1, c2, c3, c4⟩ | ⟨c1, c2, c3, c4⟩ | ⟨c1, c2, c3, c4⟩ | ⟨c1, c2, c4⟩
    · rw [c4]
      exact ⟨Or.inl c2, by dsimp only; omega, ⟨Or.inl rfl, Or.inr (Or.inl ⟨rfl, c3⟩)⟩, ⟨Or.inl rfl, Or.inr (Or.inl ⟨rfl, c3⟩)⟩⟩
    · rw [c4]
      exact ⟨Or.inl c2, by dsimp only; omega, ⟨Or.inl rfl, Or.inr (Or.inr (Or.inl ⟨rfl, c3⟩))⟩, ⟨Or.inl rfl, Or.inr (Or.inr (Or.inl ⟨rfl, c3⟩))⟩⟩
    · rw [c4]
      exact ⟨Or.inr c2, c3, TOK_0, TOK_0⟩
    · rw [c4]
      exact ⟨Or.inl c2, by dsimp only; omega, TOK_0, TOK_0⟩
  · obtain ⟨a, b1, c, d, row, e, f⟩ := h
    rw [f]
    exact ⟨Or.inr b1, by dsimp only; omega, ⟨Or.inr rfl, Or.inr (Or.inr (Or.inl ⟨rfl, e⟩))⟩, ⟨Or.inl rfl, Or.inr (Or.inl ⟨rfl, (by decide : (-99 : Int) ≤ 0), (by decide : (0 : Int) ≤ 99)⟩)⟩⟩
  · obtain ⟨a, b1, c, d, ⟨e0, e1⟩, f⟩ := h
    rcases f with ⟨f1, f2, f3, f4⟩ | ⟨f1, f2, f3, f4⟩
    · rw [f3, f4]
      have := e0 f1.1
      exact ⟨Or.inr this, by dsimp only; omega, v_term_ok d e0 e1⟩
    · rw [f3, f4]
      have := e1 f1.1
      exact ⟨Or.inr this, by dsimp only; omega, v_term_ok d e0 e1⟩
  · exact absurd (Or.inl h.1) hm
  · exact absurd (Or.inr h.1) hm
/-- of one version: what it is from; what is told beside it -/
def e_fr (b : Int) (x : VR) : Option (Nat × Int) := if x.1.2.2.2.1 = -1 then none else some (x.1.2.2.2.1.toNat, if b = 3 then -x.2.2.1 else x.2.2.1)
def e_tt (b : Int) (x : VR) : Int × Int × Int := if b = 3 then x.2.2.2.2 else x.2.2.2.1
def e_tm (q : Int → Int) (b : Int) (τ : Int × Int × Int) : Option Int ⊕ (Nat × Int) :=
  if τ.1 = 1 then .inl (some (τ.2.2 + (if b = 3 then -τ.2.1 else τ.2.1 - q b)))
  else if τ.1 = 2 then .inl (if b = 3 then some (-q τ.2.1 + τ.2.2) else if b = τ.2.1 then some (0 + τ.2.2) else none)
  else if τ.1 = 3 then .inr (τ.2.1.toNat, τ.2.2)
  else .inl none
def E_G (G : GT) (q : Int → Int) (b wo : Int) : LE := fun v =>
  if v_meet (gV G v) then .inl ((gV G v).1.2.2.2.1.toNat, (gV G v).1.2.2.2.2.toNat)
  else .inr (e_fr b (gV G v), if (v : Int) = wo then .inl none else e_tm q b (e_tt b (gV G v)))
def QPL (q : Int → Int) : Prop := ∀ k, 0 ≤ k → k ≤ 2 → 0 ≤ q k ∧ q k ≤ 20
theorem TOK_tt (h : TOK pl i (gV G i).2.2.2.1 ∧ TOK pl i (gV G i).2.2.2.2) : TOK pl i (e_tt b (gV G i)) := by
  unfold e_tt
  split
  · exact h.2
  · exact h.1
theorem E_G_W (hW : ∀ i : Int, 0 ≤ i → i < V → WV G pl V i) (hq : QPL q) (hb : 0 ≤ b ∧ b ≤ 3) : l_W (E_G G q b wo) V := by
  intro v hv
  have hw := hW v (by omega) (by omega)
  unfold E_G
  by_cases hm : v_meet (gV G v)
  · rw [if_pos hm]
    obtain ⟨a1, a2, -⟩ := WV_m hw hm
    dsimp only
    omega
  · rw [if_neg hm]
    obtain ⟨a1, a2, a3⟩ := WV_n hw hm
    dsimp only
    have tk := TOK_tt (b := b) a3
    refine ⟨fun a k h => ?_, fun c h => ?_, fun t k h => ?_⟩
    · unfold e_fr at h
      split at h
      · cases h
      · cases h
        refine ⟨by omega, ?_⟩
        split <;> omega
    · split at h
      · cases h
      · unfold e_tm at h
        obtain ⟨k0, k1⟩ := tk
        split at h
        · cases h
          split
          · omega
          · have := hq b (by omega) (by omega)
            omega
        · split at h
          · have := hq (e_tt b (gV G v)).2.1 (by omega) (by omega)
            split at h
            · cases h; omega
            · split at h
              · cases h; omega
              · cases h
          · split at h
            · cases h
            · cases h
    · split at h
      · cases h
      · unfold e_tm at h
        obtain ⟨k0, k1⟩ := tk
        split at h
        · cases h
        · split at h
          · cases h
          · split at h
            · cases h; omega
            · cases h
/-- the least solution -/
def l_lst (E : LE) (V : Nat) (L : Nat → Option Int) : Prop := l_pre E V L ∧ ∀ x, l_pre E V x → ∀ v, v < V → l_le (L v) (x v)
noncomputable def l_L (E : LE) (V : Nat) : Nat → Option Int := Classical.epsilon (l_lst E V)
theorem l_L_ok {E : LE} (hW : l_W E V) : l_lst E V (l_L E V) := Classical.epsilon_spec (l_least hW)
/-- sums over the versions -/
def e_as (G : GT) (v : Nat) : Int := if (gV G v).1.2.1 = 1 then 1 else 0
def e_rd (G : GT) (v : Nat) : Bool := decide ((gV G v).1.2.1 = 6)
theorem l_sm_add {f g : Nat → Int} : ∀ V, l_sm (fun v => f v + g v) V = l_sm f V + l_sm g V := by
  intro V
  induction V with
  | zero => rfl
  | succ V ih => simp only [l_sm, ih]; omega
theorem l_sm_c {f : Nat → Int} {k : Int} : ∀ V, l_sm (fun v => k * f v) V = k * l_sm f V := by
  intro V
  induction V with
  | zero => simp [l_sm]
  | succ V ih => simp only [l_sm, ih, Int.mul_add]
theorem l_sm_1 : ∀ V, l_sm (fun _ => 1) V = V := by
  intro V
  induction V with
  | zero => rfl
  | succ V ih => simp only [l_sm, ih]; omega
/-- rises and falls come from assignments -/
theorem E_G_up (hW : ∀ i : Int, 0 ≤ i → i < V → WV G pl V i) (hv : v < V) : ∃ nf nt, l_dn (E_G G q b wo) v = nf + nt ∧ 0 ≤ nf ∧ 0 ≤ nt ∧ 0 ≤ l_pl (E_G G q b wo) v ∧ l_pl (E_G G q b wo) v + nf ≤ 99 * e_as G v ∧ (if e_rd G v = true then 1 else 0) + e_as G v + nt ≤ 1 := by
  have hw := hW v (by omega) (by omega)
  by_cases hm : v_meet (gV G v)
  · have e : E_G G q b wo v = .inl ((gV G v).1.2.2.2.1.toNat, (gV G v).1.2.2.2.2.toNat) := by unfold E_G; rw [if_pos hm]
    refine ⟨0, 0, by unfold l_dn; rw [e]; rfl, by decide, by decide, by unfold l_pl; rw [e]; exact Int.le_refl 0, ?_, ?_⟩
    · unfold l_pl e_as
      rw [e, if_neg (by omega)]
      exact Int.le_refl 0
    · unfold e_as e_rd
      rw [if_neg (show ¬ (gV G v).1.2.1 = 1 by omega)]
      split <;> decide
  · have e : E_G G q b wo v = .inr (e_fr b (gV G v), if (v : Int) = wo then .inl none else e_tm q b (e_tt b (gV G v))) := by unfold E_G; rw [if_neg hm]
    refine ⟨_, _, l_dn_of e, l_nf_nn _, l_nt_nn _, by rw [l_pl_of e]; exact l_uf_nn _, ?_, ?_⟩
    · rw [l_pl_of e]
      obtain ⟨-, hw⟩ := hw
      have hz : (gV G v).2.2.1 = 0 → l_uf (e_fr b (gV G v)) + l_nf (e_fr b (gV G v)) ≤ 99 * e_as G v := by
        intro h0
        have hz2 : l_uf (e_fr b (gV G v)) + l_nf (e_fr b (gV G v)) = 0 := by
          unfold e_fr
          by_cases hf : (gV G v).1.2.2.2.1 = -1
          · rw [if_pos hf]; rfl
          · rw [if_neg hf, h0]
            unfold l_uf l_nf
            dsimp only
            split <;> omega
        have : 0 ≤ e_as G v := by unfold e_as; split <;> decide
        omega
      rcases hw with h | h | h | h | h | h
      · exact hz (by rw [h.2.2])
      · obtain ⟨a, b1, c⟩ := h
        rcases c with ⟨c1, c2, c3, c4⟩ | ⟨c1, c2, c3, c4⟩ | ⟨c1, c2, c3, c4⟩ | ⟨c1, c2, c4⟩
        · exact hz (by rw [c4])
        · exact hz (by rw [c4])
        · unfold e_fr l_uf l_nf e_as
          rw [if_pos a, if_neg (by omega), c4]
          dsimp only
          split <;> omega
        · exact hz (by rw [c4])
      · obtain ⟨a, b1, c, d, row, e, f⟩ := h
        exact hz (by rw [f])
      · obtain ⟨a, b1, c, d, e', f⟩ := h
        rcases f with ⟨f1, f2, f3, f4⟩ | ⟨f1, f2, f3, f4⟩
        · exact hz (by rw [f4])
        · exact hz (by rw [f4])
      · exact absurd (Or.inl h.1) hm
      · exact absurd (Or.inr h.1) hm
    · have hr : e_rd G v = false := by unfold e_rd; exact decide_eq_false (fun h => hm (Or.inr h))
      rw [hr]
      have ht : l_nt (if (v : Int) = wo then .inl none else e_tm q b (e_tt b (gV G v))) ≤ 1 := by
        have a3 := (WV_n hw hm).2.2
        obtain ⟨tk, -⟩ := TOK_tt (b := b) a3
        split
        · exact (by decide : (0 : Int) ≤ 1)
        · unfold e_tm
          split
          · exact (by decide : (0 : Int) ≤ 1)
          · split
            · exact (by decide : (0 : Int) ≤ 1)
            · split
              · unfold l_nt; dsimp only; omega
              · exact (by decide : (0 : Int) ≤ 1)
      by_cases ha : (gV G v).1.2.1 = 1
      · have hz : (e_tt b (gV G v)).1 ≠ 3 := by
          obtain ⟨-, hw⟩ := hw
          rcases hw with h | h | h | h | h | h
          · unfold W0 at h; omega
          · obtain ⟨a, b1, c⟩ := h
            unfold e_tt
            rcases c with ⟨c1, c2, c3, c4⟩ | ⟨c1, c2, c3, c4⟩ | ⟨c1, c2, c3, c4⟩ | ⟨c1, c2, c4⟩ <;> rw [c4] <;> split <;> simp
          · unfold W2 at h; omega
          · unfold W3 at h; omega
          · unfold W5 at h; omega
          · unfold W6 at h; omega
        have h0 : l_nt (if (v : Int) = wo then .inl none else e_tm q b (e_tt b (gV G v))) = 0 := by
          split
          · rfl
          · unfold e_tm
            rw [if_neg hz]
            split
            · rfl
            · split <;> rfl
        rw [h0]
        unfold e_as
        rw [if_pos ha]
        decide
      · unfold e_as
        rw [if_neg ha]
        simp only [Bool.false_eq_true, if_false]
        omega
end EQA
