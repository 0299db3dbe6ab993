/-! cells of a list as what the second machine holds -/
def l_f (v : Option V2) : Int := match v with
  | some (.inl x) => x
  | some (.inr (.inl b)) => (b : Int)
  | some (.inr (.inr (some _))) => -1
  | _ => 0
def l_cs (c : LC) (i : Int) : Int := if i < 0 then 0 else match c with
  | .inl (_, _, cl) => cl.getD i.toNat 0
  | .inr (_, fs) => l_f fs[i.toNat]?
def l_s (l : List LC) : St := fun a i => match l[a]? with
  | some c => l_cs c i
  | none => 0
def l_okf (N a : Nat) (p : V2 × (Nat × Nat)) : Bool := match p with
  | (.inl x, 0, _) => decide (q_R x)
  | (.inr (.inl b), 1, j) => decide (b = a + j ∧ b < N)
  | (.inr (.inl b), 2, j) => decide (b = j ∧ b < N)
  | (.inr (.inl b), 3, _) => decide (b < N)
  | (.inr (.inr (some _)), 3, _) => true
  | _ => false
def l_okc (N a : Nat) (c : LC) : Bool := match c, q_sh a with
  | .inl (t, n, cl), .inl (t', n') => decide (((t = t' ∧ n = n') ∧ ∀ x ∈ cl, q_R x) ∧ (t < 3 ∨ (cl = [] ∧ t < 5)))
  | .inr (c, fs), .inr (c', ss) => decide (c = c' ∧ fs.length = ss.length) && (fs.zip ss).all (l_okf N a)
  | _, _ => false
def l_okl (N0 N : Nat) (l : List LC) : Bool := decide (l.length = N) && (List.range N).all (fun a => decide (a < N0) || (match l[a]? with | some c => l_okc N a c | none => false))
section LBR
variable {N0 N a : Nat} {v : V2} {s : Nat × Nat} {c : LC} {l : List LC} {σ1 : St}
theorem l_okf_v (h : l_okf N a (v, s) = true) : q_fv a s (l_f (some v)) = l_v v := by
  unfold l_okf at h
  split at h
  · rename_i e; cases e; rfl
  · rename_i e; cases e; rw [decide_eq_true_eq] at h; rw [h.1]; rfl
  · rename_i e; cases e; rw [decide_eq_true_eq] at h; rw [h.1]; rfl
  · rename_i b j e; cases e
    show (if (b : Int) < 0 then Value.null else .ref (b : Int).toNat) = .ref b
    rw [if_neg (by omega), Int.toNat_natCast]
  · rename_i e; cases e; rfl
  · cases h
theorem l_okf_R (hN : N ≤ 1000) (h : l_okf N a (v, s) = true) : q_R (l_f (some v)) := by
  unfold l_okf at h
  split at h
  · rename_i e; cases e; rw [decide_eq_true_eq] at h; exact h
  · rename_i b j e; cases e; rw [decide_eq_true_eq] at h
    show q_R (b : Int); unfold q_R; omega
  · rename_i b j e; cases e; rw [decide_eq_true_eq] at h
    show q_R (b : Int); unfold q_R; omega
  · rename_i b j e; cases e; rw [decide_eq_true_eq] at h
    show q_R (b : Int); unfold q_R; omega
  · rename_i e; cases e; show q_R (-1); decide
  · cases h
theorem l_okf_3 (h : l_okf N a (v, (3, 0)) = true) : l_f (some v) < N := by
  unfold l_okf at h
  split at h
  · rename_i e; cases e
  · rename_i e; cases e
  · rename_i e; cases e
  · rename_i b j e; cases e; rw [decide_eq_true_eq] at h
    show (b : Int) < N; omega
  · rename_i e; cases e; show (-1 : Int) < N; omega
  · cases h
theorem l_cs_n {c : LC} {i : Nat} : l_cs c (i : Int) = match c with | .inl (_, _, cl) => cl.getD i 0 | .inr (_, fs) => l_f fs[i]? := by
  unfold l_cs
  rw [if_neg (by omega), Int.toNat_natCast]
theorem l_zip {fs : List V2} {ss : List (Nat × Nat)} {k : Nat} (hz : (fs.zip ss).all (l_okf N a) = true) (hk : k < fs.length) (hk' : k < ss.length) : l_okf N a (fs[k], ss[k]) = true := by
  refine List.all_eq_true.mp hz _ ?_
  have hkz : k < (fs.zip ss).length := by rw [List.length_zip]; omega
  have e : (fs.zip ss)[k] = (fs[k], ss[k]) := List.getElem_zip
  rw [← e]
  exact List.getElem_mem hkz
theorem l_okc_e (h : l_okc N a c = true) : l_e a c = q_encc a (l_cs c) := by
  unfold l_okc at h
  split at h
  · rename_i t n cl t' n' hs
    rw [decide_eq_true_eq] at h
    obtain ⟨⟨⟨rfl, rfl⟩, -⟩, h2⟩ := h
    have hf : ∀ i : Nat, l_cs (.inl (t, n, cl)) (i : Int) = cl.getD i 0 := fun i => l_cs_n
    unfold q_encc
    rw [hs]
    rcases h2 with h2 | ⟨rfl, h2⟩
    · obtain rfl | rfl | rfl : t = 0 ∨ t = 1 ∨ t = 2 := by omega
      · show (Sum.inl (0, n, Sum.inl fun i : Nat => q_I (cl.getD i 0)) : PE) = Sum.inl (0, n, Sum.inl fun i : Nat => q_I (l_cs (.inl (0, n, cl)) (i : Int)))
        simp only [hf]
      · show (Sum.inl (1, n, Sum.inl fun i : Nat => q_I (cl.getD i 0)) : PE) = Sum.inl (1, n, Sum.inl fun i : Nat => q_I (l_cs (.inl (1, n, cl)) (i : Int)))
        simp only [hf]
      · show (Sum.inl (2, n, Sum.inl fun i : Nat => q_I (cl.getD i 0)) : PE) = Sum.inl (2, n, Sum.inl fun i : Nat => q_I (l_cs (.inl (2, n, cl)) (i : Int)))
        simp only [hf]
    · obtain rfl | rfl | rfl | rfl | rfl : t = 0 ∨ t = 1 ∨ t = 2 ∨ t = 3 ∨ t = 4 := by omega
      · show (Sum.inl (0, n, Sum.inl fun i : Nat => q_I (([] : List Int).getD i 0)) : PE) = Sum.inl (0, n, Sum.inl fun i : Nat => q_I (l_cs (.inl (0, n, [])) (i : Int)))
        simp only [hf]
      · show (Sum.inl (1, n, Sum.inl fun i : Nat => q_I (([] : List Int).getD i 0)) : PE) = Sum.inl (1, n, Sum.inl fun i : Nat => q_I (l_cs (.inl (1, n, [])) (i : Int)))
        simp only [hf]
      · show (Sum.inl (2, n, Sum.inl fun i : Nat => q_I (([] : List Int).getD i 0)) : PE) = Sum.inl (2, n, Sum.inl fun i : Nat => q_I (l_cs (.inl (2, n, [])) (i : Int)))
        simp only [hf]
      · show (Sum.inl (3, n, Sum.inr (Sum.inl fun _ => 0)) : PE) = Sum.inl (3, n, Sum.inr (Sum.inl fun i : Nat => Int64.ofInt (l_cs (.inl (3, n, [])) (i : Int))))
        simp only [hf]
        rfl
      · rfl
  · rename_i cc fs c' ss hs
    rw [Bool.and_eq_true, decide_eq_true_eq] at h
    obtain ⟨⟨rfl, hlen⟩, hz⟩ := h
    unfold q_encc
    rw [hs]
    show (Sum.inr (cc, fs.map l_v) : PE) = Sum.inr (cc, q_fs a ss (l_cs (.inr (cc, fs))))
    have e : fs.map l_v = q_fs a ss (l_cs (.inr (cc, fs))) := by
      unfold q_fs
      apply List.ext_getElem
      · rw [List.length_map, List.length_map, List.length_range, hlen]
      · intro k h1 h2
        have hk : k < fs.length := by rw [List.length_map] at h1; exact h1
        have hk' : k < ss.length := by omega
        rw [List.getElem_map, List.getElem_map, List.getElem_range]
        have e1 : l_cs (.inr (cc, fs)) (k : Int) = l_f (some fs[k]) := by rw [l_cs_n]; show l_f fs[k]? = _; rw [List.getElem?_eq_getElem hk]
        have e2 : ss.getD k (0, 0) = ss[k] := by rw [List.getD_eq_getElem?_getD, List.getElem?_eq_getElem hk']; rfl
        rw [e1, e2]
        exact (l_okf_v (l_zip hz hk hk')).symm
    rw [e]
  · cases h
theorem l_okc_R (hN : N ≤ 1000) (h : l_okc N a c = true) (i : Int) : q_R (l_cs c i) := by
  by_cases hi : i < 0
  · unfold l_cs
    rw [if_pos hi]
    decide
  · obtain ⟨k, rfl⟩ : ∃ k : Nat, i = k := ⟨i.toNat, by omega⟩
    unfold l_okc at h
    split at h
    · rename_i t n cl t' n' hs
      rw [decide_eq_true_eq] at h
      rw [l_cs_n]
      show q_R (cl.getD k 0)
      by_cases hk : k < cl.length
      · rw [List.getD_eq_getElem?_getD, List.getElem?_eq_getElem hk]
        exact h.1.2 _ (List.getElem_mem hk)
      · rw [List.getD_eq_getElem?_getD, List.getElem?_eq_none (by omega)]
        decide
    · rename_i cc fs c' ss hs
      rw [Bool.and_eq_true, decide_eq_true_eq] at h
      obtain ⟨⟨rfl, hlen⟩, hz⟩ := h
      rw [l_cs_n]
      show q_R (l_f fs[k]?)
      by_cases hk : k < fs.length
      · rw [List.getElem?_eq_getElem hk]
        exact l_okf_R hN (l_zip hz hk (by omega))
      · rw [List.getElem?_eq_none (by omega)]
        decide
    · cases h
theorem l_okc_3 {k c' : Nat} (h : l_okc N a c = true) (hk : q_fk a k = some (c', 3, 0)) : l_cs c (k : Int) < N := by
  obtain ⟨ss0, h0, h1, -⟩ := q_fk_ok hk
  unfold l_okc at h
  rw [h0] at h
  split at h
  · rename_i e; cases e
  · rename_i cc fs c' ss e
    cases e
    rw [Bool.and_eq_true, decide_eq_true_eq] at h
    obtain ⟨⟨rfl, hlen⟩, hz⟩ := h
    have hk' : k < ss0.length := by
      rcases Nat.lt_or_ge k ss0.length with h9 | h9
      · exact h9
      · rw [List.getElem?_eq_none h9] at h1; cases h1
    have hz' := l_zip hz (show k < fs.length by omega) hk'
    rw [List.getElem?_eq_getElem hk'] at h1
    rw [Option.some.inj h1] at hz'
    rw [l_cs_n]
    show l_f fs[k]? < N
    rw [List.getElem?_eq_getElem (show k < fs.length by omega)]
    exact l_okf_3 hz'
  · cases h
/-- N0 cells as they stand, and those of the list behind them -/
def l_c2 (N0 : Nat) (σ1 : St) (l : List LC) : St := fun a i => if a < N0 then σ1 a i else l_s l a i
theorem l_okl_a (h : l_okl N0 N l = true) : l.length = N ∧ ∀ a, N0 ≤ a → a < N → ∃ c, l[a]? = some c ∧ l_okc N a c = true := by
  unfold l_okl at h
  rw [Bool.and_eq_true, decide_eq_true_eq, List.all_eq_true] at h
  refine ⟨h.1, fun a h0 h1 => ?_⟩
  have h2 := h.2 a (List.mem_range.mpr h1)
  rw [Bool.or_eq_true, decide_eq_true_eq] at h2
  rcases h2 with h2 | h2
  · omega
  · split at h2
    · rename_i c hc
      exact ⟨c, hc, h2⟩
    · cases h2
theorem l_bridge (h : l_okl N0 N l = true) (hN : N0 ≤ N) : l_hb N0 (q_eh N0 pm_h0 σ1) l = q_eh N pm_h0 (l_c2 N0 σ1 l) := by
  obtain ⟨h1, h2⟩ := l_okl_a h
  funext a
  unfold l_hb q_eh
  by_cases e : a < N0
  · rw [if_pos e, if_pos e, if_pos (by omega)]
    congr 1
    funext i
    unfold l_c2
    rw [if_pos e]
  · rw [if_neg e]
    by_cases e2 : a < N
    · obtain ⟨c, hc, ho⟩ := h2 a (by omega) e2
      rw [if_pos e2, l_h_get hc, l_okc_e ho]
      congr 1
      funext i
      unfold l_c2 l_s
      rw [if_neg e, hc]
    · rw [if_neg e2]
      unfold l_h
      rw [List.getElem?_eq_none (by omega)]
      rfl
theorem l_bridgeS (h : l_okl N0 N l = true) (hN : N0 ≤ N) (hM : N ≤ 1000) (hS : q_S N0 σ1) : q_S N (l_c2 N0 σ1 l) := by
  obtain ⟨h1, h2⟩ := l_okl_a h
  refine ⟨fun a i => ?_, fun a k c' ha hk => ?_⟩
  · unfold l_c2
    by_cases e : a < N0
    · rw [if_pos e]; exact hS.1 a i
    · rw [if_neg e]
      unfold l_s
      by_cases e2 : a < N
      · obtain ⟨c, hc, ho⟩ := h2 a (by omega) e2
        rw [hc]
        exact l_okc_R hM ho i
      · rw [List.getElem?_eq_none (by omega)]
        show q_R 0
        decide
  · unfold l_c2
    by_cases e : a < N0
    · rw [if_pos e]
      have := hS.2 a k c' e hk
      omega
    · rw [if_neg e]
      obtain ⟨c, hc, ho⟩ := h2 a (by omega) ha
      unfold l_s
      rw [hc]
      exact l_okc_3 ho hk
end LBR
/-! the first N cells lead to none beyond them -/
def q_clb (N : Nat) : Bool := decide (N ≤ q_N) && (List.range N).all fun a => match q_sh a with
  | .inl (t, n) => decide (t = 4 → a + n < N)
  | .inr (_, ss) => ss.all fun s => decide ((s.1 = 1 → a + s.2 < N) ∧ (s.1 = 2 → s.2 < N))
theorem q_clb_ok {N : Nat} (h : q_clb N = true) : q_cl N := by
  unfold q_clb at h
  rw [Bool.and_eq_true, decide_eq_true_eq, List.all_eq_true] at h
  obtain ⟨h1, h2⟩ := h
  have key : ∀ a k c s, a < N → q_fk a k = some (c, s) → (s.1 = 1 → a + s.2 < N) ∧ (s.1 = 2 → s.2 < N) := by
    intro a k c s ha hk
    obtain ⟨ss, e0, e1, -⟩ := q_fk_ok hk
    have h3 := h2 a (List.mem_range.mpr ha)
    rw [e0] at h3
    have h4 := List.all_eq_true.mp h3 s (List.mem_of_getElem? e1)
    rw [decide_eq_true_eq] at h4
    exact h4
  refine ⟨h1, fun a k c j ha hk => (key a k c _ ha hk).1 rfl, fun a k c b ha hk => (key a k c _ ha hk).2 rfl, fun a n ha hs => ?_⟩
  have h3 := h2 a (List.mem_range.mpr ha)
  rw [hs] at h3
  exact (decide_eq_true_eq.mp h3) rfl
theorem q_cl136 : q_cl 136 := q_clb_ok (by decide +kernel)
theorem q_cl188 : q_cl 188 := q_clb_ok (by decide +kernel)
theorem q_cl189 : q_cl 189 := q_clb_ok (by decide +kernel)
/-- a run of the second machine is one of the first -/
theorem px_q {sc : Nat × (Nat → Int32)} {D y pc N : Nat} (hN : q_cl N) {h0 : PH} {Q : PP} {ls st : List V2} {u : PU} {bb : Bool} {σ : St} (hl : ∀ v ∈ ls, q_ok N v) (hs : ∀ v ∈ st, q_ok N v) (hσ : q_S N σ) (h : qx sc D y pc ls st u bb σ (fun r bb' σ' => q_S N σ' → Q (q_r r) (N, bb') (q_eh N h0 σ'))) : px sc D y pc (ls.map q_v) (st.map q_v) u (N, bb) (q_eh N h0 σ) Q := by
  obtain ⟨n, r, bb', σ', he, hQ⟩ := h
  obtain ⟨h1, h2, h3⟩ := q_sim hN h0 sc n D y pc ls st u bb σ r bb' σ' hl hs hσ he
  exact ⟨n, q_r r, _, _, h1, hQ h3⟩
