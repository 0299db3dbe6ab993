/-! LEAST SOLUTIONS of bounds: none stands for 'nothing is enough' -/
def l_le (a b : Option Int) : Prop := ∀ y, b = some y → ∃ x, a = some x ∧ x ≤ y
def l_add (a : Option Int) (k : Int) : Option Int := match a with
  | some x => some (x + k)
  | none => none
def l_max (a b : Option Int) : Option Int := match a, b with
  | some x, some y => some (max x y)
  | _, _ => none
def l_min (a b : Option Int) : Option Int := match a, b with
  | some x, some y => some (min x y)
  | some x, none => some x
  | none, b => b
/-- of a version: the greater of two; or the lesser of one and a number, and of a constant, or another one and a number -/
abbrev LE : Type := Nat → (Nat × Nat) ⊕ (Option (Nat × Int) × (Option Int ⊕ (Nat × Int)))
def l_fr (x : Nat → Option Int) (fr : Option (Nat × Int)) : Option Int := match fr with
  | none => none
  | some (a, k) => l_add (x a) k
def l_tm (x : Nat → Option Int) (tm : Option Int ⊕ (Nat × Int)) : Option Int := match tm with
  | .inl c => c
  | .inr (t, k) => l_add (x t) k
def l_F (E : LE) (x : Nat → Option Int) (v : Nat) : Option Int := match E v with
  | .inl (a, b) => l_max (x a) (x b)
  | .inr (fr, tm) => l_min (l_fr x fr) (l_tm x tm)
def l_pre (E : LE) (V : Nat) (x : Nat → Option Int) : Prop := ∀ v, v < V → l_le (l_F E x v) (x v)
/-- what is asked of the equations -/
def l_W (E : LE) (V : Nat) : Prop := ∀ v, v < V → match E v with
  | .inl (a, b) => a < v ∧ b < V
  | .inr (fr, tm) => (∀ a k, fr = some (a, k) → a < v ∧ -99 ≤ k ∧ k ≤ 99) ∧ (∀ c, tm = .inl (some c) → -200 ≤ c) ∧ (∀ t k, tm = .inr (t, k) → t < v ∧ -1 ≤ k ∧ k ≤ 0)
theorem l_le_refl (a : Option Int) : l_le a a := fun y h => ⟨y, h, Int.le_refl _⟩
theorem l_le_trans {a b c : Option Int} (h1 : l_le a b) (h2 : l_le b c) : l_le a c := by
  intro y hy
  obtain ⟨x, hx, h3⟩ := h2 y hy
  obtain ⟨z, hz, h4⟩ := h1 x hx
  exact ⟨z, hz, by omega⟩
theorem l_add_mono {a b : Option Int} (h : l_le a b) (k : Int) : l_le (l_add a k) (l_add b k) := by
  intro y hy
  cases b with
  | none => cases hy
  | some z =>
    obtain ⟨x, rfl, h3⟩ := h z rfl
    simp only [l_add, Option.some.injEq] at hy
    exact ⟨x + k, rfl, by omega⟩
theorem l_max_mono {a b c d : Option Int} (h1 : l_le a c) (h2 : l_le b d) : l_le (l_max a b) (l_max c d) := by
  intro y hy
  cases c with
  | none => cases hy
  | some c =>
    cases d with
    | none => cases hy
    | some d =>
      obtain ⟨x, rfl, h3⟩ := h1 c rfl
      obtain ⟨z, rfl, h4⟩ := h2 d rfl
      simp only [l_max, Option.some.injEq] at hy
      exact ⟨max x z, rfl, by omega⟩
theorem l_min_mono {a b c d : Option Int} (h1 : l_le a c) (h2 : l_le b d) : l_le (l_min a b) (l_min c d) := by
  intro y hy
  cases c with
  | none =>
    cases d with
    | none => cases hy
    | some d =>
      obtain ⟨z, rfl, h4⟩ := h2 d rfl
      simp only [l_min, Option.some.injEq] at hy
      cases a with
      | none => exact ⟨z, rfl, by omega⟩
      | some a => exact ⟨min a z, rfl, by omega⟩
  | some c =>
    obtain ⟨x, rfl, h3⟩ := h1 c rfl
    cases d with
    | none =>
      simp only [l_min, Option.some.injEq] at hy
      cases b with
      | none => exact ⟨x, rfl, by omega⟩
      | some b => exact ⟨min x b, rfl, by omega⟩
    | some d =>
      obtain ⟨z, rfl, h4⟩ := h2 d rfl
      simp only [l_min, Option.some.injEq] at hy
      exact ⟨min x z, rfl, by omega⟩
theorem l_F_mono {E : LE} {V : Nat} (hW : l_W E V) {x y : Nat → Option Int} (h : ∀ v, v < V → l_le (x v) (y v)) {v : Nat} (hv : v < V) : l_le (l_F E x v) (l_F E y v) := by
  have hw := hW v hv
  unfold l_F
  split at hw
  · rename_i a b e
    try rw [e]
    exact l_max_mono (h a (by omega)) (h b hw.2)
  · rename_i fr tm e
    try rw [e]
    refine l_min_mono ?_ ?_
    · cases fr with
      | none => exact l_le_refl _
      | some q => exact l_add_mono (h q.1 (by have := (hw.1 q.1 q.2 rfl).1; omega)) _
    · cases tm with
      | inl c => exact l_le_refl _
      | inr q => exact l_add_mono (h q.1 (by have := (hw.2.2 q.1 q.2 rfl).1; omega)) _
/-- a least whole number -/
theorem int_least {P : Int → Prop} {m : Int} (hb : ∀ a, P a → m ≤ a) (h : ∃ a, P a) : ∃ a, P a ∧ ∀ b, P b → a ≤ b := by
  obtain ⟨a, ha⟩ := h
  have key : ∀ (n : Nat) (a : Int), (a - m).toNat = n → P a → ∃ a, P a ∧ ∀ b, P b → a ≤ b := by
    intro n
    induction n using Nat.strongRecOn with
    | ind n ih =>
      intro a hn ha
      by_cases hc : ∃ b, P b ∧ b < a
      · obtain ⟨b, hb1, hb2⟩ := hc
        have := hb b hb1
        exact ih (b - m).toNat (by omega) b rfl hb1
      · exact ⟨a, ha, fun b hb1 => by
          by_cases q : a ≤ b
          · exact q
          · exact absurd ⟨b, hb1, by omega⟩ hc⟩
  exact key _ a rfl ha
def l_sm (g : Nat → Int) : Nat → Int
  | 0 => 0
  | v + 1 => l_sm g v + g v
theorem l_sm_range (g : Nat → Int) (V : Nat) : ((List.range V).map g).sum = l_sm g V := by
  induction V with
  | zero => rfl
  | succ V ih => rw [List.range_succ, List.map_append, List.sum_append, ih]; simp [l_sm]
theorem l_sm_mono {g : Nat → Int} (h : ∀ v, 0 ≤ g v) {a b : Nat} (hab : a ≤ b) : l_sm g a ≤ l_sm g b := by
  induction hab with
  | refl => omega
  | step _ ih => simp only [l_sm]; have := h; rename_i m _; have := h m; omega
def l_nf (fr : Option (Nat × Int)) : Int := match fr with
  | some (_, k) => max 0 (-k)
  | none => 0
def l_nt (tm : Option Int ⊕ (Nat × Int)) : Int := match tm with
  | .inr (_, k) => max 0 (-k)
  | .inl _ => 0
def l_uf (fr : Option (Nat × Int)) : Int := match fr with
  | some (_, k) => max 0 k
  | none => 0
theorem l_nf_nn (fr : Option (Nat × Int)) : 0 ≤ l_nf fr := by unfold l_nf; split <;> omega
theorem l_nt_nn (tm : Option Int ⊕ (Nat × Int)) : 0 ≤ l_nt tm := by unfold l_nt; split <;> omega
theorem l_uf_nn (fr : Option (Nat × Int)) : 0 ≤ l_uf fr := by unfold l_uf; split <;> omega
/-- how much a version may fall -/
def l_dn (E : LE) (v : Nat) : Int := match E v with
  | .inl _ => 0
  | .inr (fr, tm) => l_nf fr + l_nt tm
theorem l_dn_of {E : LE} {v : Nat} {fr : Option (Nat × Int)} {tm : Option Int ⊕ (Nat × Int)} (e : E v = .inr (fr, tm)) : l_dn E v = l_nf fr + l_nt tm := by
  unfold l_dn
  rw [e]
theorem l_dn_nn (E : LE) (v : Nat) : 0 ≤ l_dn E v := by
  unfold l_dn
  split
  · omega
  · rename_i fr tm _
    have h1 := l_nf_nn fr
    have h2 := l_nt_nn tm
    omega
theorem l_low {E : LE} {V : Nat} (hW : l_W E V) {x : Nat → Option Int} (hp : l_pre E V x) : ∀ v, v < V → ∀ a, x v = some a → -200 - l_sm (l_dn E) (v + 1) ≤ a := by
  intro v
  induction v using Nat.strongRecOn with
  | ind v ih =>
    intro hv a ha
    obtain ⟨z, hz, hza⟩ := hp v hv a ha
    have hw := hW v hv
    unfold l_F at hz
    split at hw
    · rename_i i j e
      try rw [e] at hz
      try simp only at hz
      cases hi : x i with
      | none => rw [hi] at hz; simp [l_max] at hz
      | some xi =>
        cases hj : x j with
        | none => rw [hi, hj] at hz; simp [l_max] at hz
        | some xj =>
          rw [hi, hj] at hz
          simp only [l_max, Option.some.injEq] at hz
          have := ih i hw.1 (by omega) xi hi
          have h7 := l_sm_mono (l_dn_nn E) (show i + 1 ≤ v + 1 by omega)
          omega
    · rename_i fr tm e
      try rw [e] at hz
      try simp only at hz
      have edn : l_dn E v = l_nf fr + l_nt tm := l_dn_of e
      have g1 := l_nf_nn fr
      have g2 := l_nt_nn tm
      have esum : l_sm (l_dn E) (v + 1) = l_sm (l_dn E) v + l_dn E v := rfl
      have hsn := l_sm_mono (l_dn_nn E) (Nat.zero_le v)
      simp only [l_sm] at hsn
      have h1 : ∀ q, l_fr x fr = some q → -200 - l_sm (l_dn E) (v + 1) ≤ q := by
        intro q hq
        cases fr with
        | none => cases hq
        | some w =>
          obtain ⟨w1, w2, w3⟩ := hw.1 w.1 w.2 rfl
          simp only [l_fr] at hq
          cases hx : x w.1 with
          | none => rw [hx] at hq; cases hq
          | some y =>
            rw [hx] at hq
            simp only [l_add, Option.some.injEq] at hq
            have := ih w.1 w1 (by omega) y hx
            have h7 := l_sm_mono (l_dn_nn E) (show w.1 + 1 ≤ v by omega)
            simp only [l_nf] at g1 edn
            omega
      have h2 : ∀ q, l_tm x tm = some q → -200 - l_sm (l_dn E) (v + 1) ≤ q := by
        intro q hq
        cases tm with
        | inl c =>
          simp only [l_tm] at hq
          subst hq
          have := hw.2.1 q rfl
          simp only [l_nt] at edn
          omega
        | inr w =>
          obtain ⟨w1, w2, w3⟩ := hw.2.2 w.1 w.2 rfl
          simp only [l_tm] at hq
          cases hx : x w.1 with
          | none => rw [hx] at hq; cases hq
          | some y =>
            rw [hx] at hq
            simp only [l_add, Option.some.injEq] at hq
            have := ih w.1 w1 (by omega) y hx
            have h7 := l_sm_mono (l_dn_nn E) (show w.1 + 1 ≤ v by omega)
            simp only [l_nt] at g2 edn
            omega
      cases h3 : l_fr x fr with
      | none =>
        rw [h3] at hz
        have := h2 z (by simpa [l_min] using hz)
        omega
      | some q =>
        have h4 := h1 q h3
        rw [h3] at hz
        cases h5 : l_tm x tm with
        | none =>
          rw [h5] at hz
          simp only [l_min, Option.some.injEq] at hz
          omega
        | some q2 =>
          have := h2 q2 h5
          rw [h5] at hz
          simp only [l_min, Option.some.injEq] at hz
          omega
/-- there is a least solution -/
theorem l_least {E : LE} {V : Nat} (hW : l_W E V) : ∃ L : Nat → Option Int, l_pre E V L ∧ ∀ x, l_pre E V x → ∀ v, v < V → l_le (L v) (x v) := by
  have key : ∀ v, v < V → ∃ o : Option Int, (∀ x, l_pre E V x → l_le o (x v)) ∧ (∀ a, o = some a → ∃ x, l_pre E V x ∧ x v = some a) := by
    intro v hv
    by_cases h : ∃ a, ∃ x, l_pre E V x ∧ x v = some a
    · obtain ⟨a, ⟨x, hx, hxa⟩, hmin⟩ := int_least (P := fun a => ∃ x, l_pre E V x ∧ x v = some a) (m := -200 - l_sm (l_dn E) (v + 1)) (fun a ha => by
        obtain ⟨x, hx, hxa⟩ := ha
        exact l_low hW hx v hv a hxa) h
      refine ⟨some a, fun y hy b hb => ⟨a, rfl, hmin b ⟨y, hy, hb⟩⟩, fun a' e => ?_⟩
      cases e
      exact ⟨x, hx, hxa⟩
    · exact ⟨none, fun y hy b hb => absurd ⟨b, y, hy, hb⟩ h, fun a e => by cases e⟩
  refine ⟨fun v => if h : v < V then Classical.choose (key v h) else none, ?_, ?_⟩
  · have hle : ∀ x, l_pre E V x → ∀ v, v < V → l_le ((fun v => if h : v < V then Classical.choose (key v h) else none) v) (x v) := by
      intro x hx v hv
      simp only [hv, dif_pos]
      exact (Classical.choose_spec (key v hv)).1 x hx
    intro v hv y hy
    simp only [hv, dif_pos] at hy
    obtain ⟨x, hx, hxy⟩ := (Classical.choose_spec (key v hv)).2 y hy
    have h1 := l_F_mono hW (hle x hx) hv
    exact l_le_trans h1 (hx v hv) y hxy
  · intro x hx v hv
    simp only [hv, dif_pos]
    exact (Classical.choose_spec (key v hv)).1 x hx
/-- a number that no interval covers -/
theorem l_gap : ∀ (n : Nat) (I : List (Int × Int)) (B : Int), I.length = n → (∀ q ∈ I, q.1 ≤ q.2) → ∃ g, B < g ∧ g ≤ B + (I.map (fun q => q.2 - q.1)).sum + 1 ∧ ∀ q ∈ I, ¬ (q.1 < g ∧ g ≤ q.2) := by
  intro n
  induction n with
  | zero =>
    intro I B hl _
    have : I = [] := List.length_eq_zero_iff.mp hl
    subst this
    exact ⟨B + 1, by omega, by simp, by simp⟩
  | succ n ih =>
    intro I B hl hI
    have hnn : ∀ J : List (Int × Int), (∀ q ∈ J, q.1 ≤ q.2) → 0 ≤ (J.map (fun q => q.2 - q.1)).sum := by
      intro J
      induction J with
      | nil => intro _; simp
      | cons q J ihJ =>
        intro h
        have h1 := ihJ (fun q hq => h q (List.mem_cons_of_mem _ hq))
        have h2 := h q List.mem_cons_self
        simp only [List.map_cons, List.sum_cons]
        omega
    by_cases h : ∃ q ∈ I, q.1 < B + 1 ∧ B + 1 ≤ q.2
    · obtain ⟨q, hq, h1, h2⟩ := h
      obtain ⟨I1, I2, rfl⟩ := List.append_of_mem hq
      obtain ⟨g, g1, g2, g3⟩ := ih (I1 ++ I2) q.2 (by simp at hl ⊢; omega) (fun z hz => hI z (by
        rcases List.mem_append.mp hz with h | h
        · exact List.mem_append_left _ h
        · exact List.mem_append_right _ (List.mem_cons_of_mem _ h)))
      refine ⟨g, by omega, ?_, fun z hz => ?_⟩
      · simp only [List.map_append, List.sum_append, List.map_cons, List.sum_cons] at g2 ⊢
        omega
      · rcases List.mem_append.mp hz with h | h
        · exact g3 z (List.mem_append_left _ h)
        · rcases List.mem_cons.mp h with h | h
          · subst h; omega
          · exact g3 z (List.mem_append_right _ h)
    · refine ⟨B + 1, by omega, ?_, fun z hz hc => h ⟨z, hz, hc⟩⟩
      have := hnn I hI
      omega
/-- how much a version rises -/
def l_pl (E : LE) (v : Nat) : Int := match E v with
  | .inr (fr, _) => l_uf fr
  | .inl _ => 0
theorem l_pl_of {E : LE} {v : Nat} {fr : Option (Nat × Int)} {tm : Option Int ⊕ (Nat × Int)} (e : E v = .inr (fr, tm)) : l_pl E v = l_uf fr := by
  unfold l_pl
  rw [e]
/-- an interval that ends with a bound -/
def l_iv (o : Option Int) (k : Int) : Int × Int := match o with
  | some x => (x - k, x)
  | none => (0, 0)
/-- all from g on lowered by one -/
def l_lo (g : Int) (o : Option Int) : Option Int := match o with
  | some x => if g ≤ x then some (x - 1) else some x
  | none => none
/-- finite bounds are small -/
theorem l_small {E : LE} {V : Nat} (hW : l_W E V) {L : Nat → Option Int} (hp : l_pre E V L) (hl : ∀ x, l_pre E V x → ∀ v, v < V → l_le (L v) (x v)) {B : Int} (hB : ∀ v, v < V → ∀ fr c, E v = .inr (fr, .inl (some c)) → c ≤ B) {v : Nat} (hv : v < V) {a : Int} (ha : L v = some a) : a ≤ B + l_sm (l_pl E) V := by
  have hpl : ∀ v, 0 ≤ l_pl E v := by
    intro v
    unfold l_pl
    split
    · exact l_uf_nn _
    · omega
  obtain ⟨g, g1, g2, g3⟩ := l_gap _ ((List.range V).map (fun v => l_iv (L v) (l_pl E v))) B rfl (by
    intro q hq
    obtain ⟨w, hw, rfl⟩ := List.mem_map.mp hq
    have := hpl w
    unfold l_iv
    split <;> simp <;> omega)
  have hsum : ∀ J : List Nat, ((J.map (fun v => l_iv (L v) (l_pl E v))).map (fun q => q.2 - q.1)).sum ≤ (J.map (l_pl E)).sum := by
    intro J
    induction J with
    | nil => simp
    | cons w J ih =>
      simp only [List.map_cons, List.sum_cons]
      have h1 : (l_iv (L w) (l_pl E w)).2 - (l_iv (L w) (l_pl E w)).1 ≤ l_pl E w := by
        have := hpl w
        unfold l_iv
        split
        · simp only; omega
        · simpa using this
      omega
  have hs := hsum (List.range V)
  rw [l_sm_range] at hs
  have hgap : ∀ w, w < V → ∀ x, L w = some x → g ≤ x → g ≤ x - l_pl E w := by
    intro w hw x hx hg
    have := g3 (x - l_pl E w, x) (List.mem_map.mpr ⟨w, List.mem_range.mpr hw, by rw [hx]; rfl⟩)
    simp only at this
    omega
  by_cases hc : a ≤ B + l_sm (l_pl E) V
  · exact hc
  exfalso
  have hyL : ∀ v, l_le (l_lo g (L v)) (L v) := by
    intro v x hx
    rw [hx]
    unfold l_lo
    simp only
    split
    · exact ⟨x - 1, rfl, by omega⟩
    · exact ⟨x, rfl, by omega⟩
  have ydef : ∀ v q, L v = some q → l_lo g (L v) = if g ≤ q then some (q - 1) else some q := by
    intro v q hq
    rw [hq]
    rfl
  have hy : l_pre E V (fun v => l_lo g (L v)) := by
    intro w hw z hz
    have hLw : ∃ x, L w = some x ∧ z = (if g ≤ x then x - 1 else x) := by
      simp only at hz
      cases hL : L w with
      | none => rw [hL] at hz; cases hz
      | some x =>
        rw [hL] at hz
        refine ⟨x, rfl, ?_⟩
        simp only [l_lo] at hz
        by_cases hg : g ≤ x
        · rw [if_pos hg] at hz ⊢; cases hz; rfl
        · rw [if_neg hg] at hz ⊢; cases hz; rfl
    obtain ⟨x, hx, hzx⟩ := hLw
    have hFy := l_F_mono (y := L) hW (fun v _ => hyL v) hw
    obtain ⟨f, hf, hfx⟩ := hp w hw x hx
    by_cases hg : g ≤ x
    · rw [if_pos hg] at hzx
      have hgw := hgap w hw x hx hg
      by_cases hfx2 : f ≤ x - 1
      · obtain ⟨f2, hf2, h3⟩ := hFy f hf
        exact ⟨f2, hf2, by omega⟩
      · have hfe : f = x := by omega
        subst hfe
        have hw2 := hW w hw
        unfold l_F at hf ⊢
        rcases e : E w with ⟨i, j⟩ | ⟨fr, tm⟩
        · rw [e] at hf hw2
          simp only at hf hw2 ⊢
          cases hi : L i with
          | none => rw [hi] at hf; simp [l_max] at hf
          | some xi =>
            cases hj : L j with
            | none => rw [hi, hj] at hf; simp [l_max] at hf
            | some xj =>
              rw [hi, hj] at hf
              simp only [l_max, Option.some.injEq] at hf
              have a1 := ydef i xi hi
              have a2 := ydef j xj hj
              rw [hi] at a1
              rw [hj] at a2
              rw [a1, a2]
              by_cases h1 : g ≤ xi
              · by_cases h2 : g ≤ xj
                · rw [if_pos h1, if_pos h2]
                  exact ⟨_, rfl, by omega⟩
                · rw [if_pos h1, if_neg h2]
                  exact ⟨_, rfl, by omega⟩
              · by_cases h2 : g ≤ xj
                · rw [if_neg h1, if_pos h2]
                  exact ⟨_, rfl, by omega⟩
                · rw [if_neg h1, if_neg h2]
                  exact ⟨_, rfl, by omega⟩
        · rw [e] at hf hw2
          simp only at hf hw2 ⊢
          have epl := l_pl_of e
          have h1 : ∀ q, l_fr L fr = some q → ∃ q', l_fr (fun v => l_lo g (L v)) fr = some q' ∧ q' ≤ q ∧ (q = f → q' ≤ f - 1) := by
            intro q hq
            cases fr with
            | none => cases hq
            | some k =>
              simp only [l_fr] at hq ⊢
              cases hk : L k.1 with
              | none => rw [hk] at hq; cases hq
              | some xk =>
                rw [hk] at hq
                simp only [l_add, Option.some.injEq] at hq
                simp only [l_uf] at epl
                simp only [l_lo]
                by_cases h2 : g ≤ xk
                · rw [if_pos h2]
                  exact ⟨_, rfl, by omega, by omega⟩
                · rw [if_neg h2]
                  exact ⟨_, rfl, by omega, by omega⟩
          have h2 : ∀ q, l_tm L tm = some q → ∃ q', l_tm (fun v => l_lo g (L v)) tm = some q' ∧ q' ≤ q ∧ (q = f → q' ≤ f - 1) := by
            intro q hq
            cases tm with
            | inl c =>
              simp only [l_tm] at hq ⊢
              subst hq
              have := hB w hw fr q e
              exact ⟨q, rfl, by omega, by omega⟩
            | inr k =>
              have hk0 := hw2.2.2 k.1 k.2 rfl
              simp only [l_tm] at hq ⊢
              cases hk : L k.1 with
              | none => rw [hk] at hq; cases hq
              | some xk =>
                rw [hk] at hq
                simp only [l_add, Option.some.injEq] at hq
                simp only [l_lo]
                by_cases h2 : g ≤ xk
                · rw [if_pos h2]
                  exact ⟨_, rfl, by omega, by omega⟩
                · rw [if_neg h2]
                  exact ⟨_, rfl, by omega, by omega⟩
          cases h3 : l_fr L fr with
          | none =>
            rw [h3] at hf
            have hf : l_tm L tm = some f := by simpa [l_min] using hf
            obtain ⟨q', k1, k2, k3⟩ := h2 f hf
            rw [k1]
            cases h4 : l_fr (fun v => l_lo g (L v)) fr with
            | none => exact ⟨q', rfl, by have := k3 rfl; omega⟩
            | some z2 => exact ⟨min z2 q', rfl, by have := k3 rfl; omega⟩
          | some q =>
            obtain ⟨q', k1, k2, k3⟩ := h1 q h3
            rw [h3] at hf
            rw [k1]
            cases h5 : l_tm L tm with
            | none =>
              rw [h5] at hf
              simp only [l_min, Option.some.injEq] at hf
              have := k3 hf
              cases h6 : l_tm (fun v => l_lo g (L v)) tm with
              | none => exact ⟨q', rfl, by omega⟩
              | some z2 => exact ⟨min q' z2, rfl, by omega⟩
            | some q2 =>
              obtain ⟨q3, m1, m2, m3⟩ := h2 q2 h5
              rw [h5] at hf
              simp only [l_min, Option.some.injEq] at hf
              rw [m1]
              refine ⟨min q' q3, rfl, ?_⟩
              by_cases e1 : q = f
              · have := k3 e1; omega
              · have := m3 (by omega); omega
    · rw [if_neg hg] at hzx
      subst hzx
      exact l_le_trans hFy (hp w hw) z hx
  obtain ⟨z, hz1, hz2⟩ := hl _ hy v hv (a - 1) (by
    rw [ydef v a ha, if_pos (by omega)])
  rw [ha] at hz1
  cases hz1
  omega
