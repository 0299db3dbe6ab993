/-! SWEEPS: bounds found by going over all versions again and again -/
/-- what rises above its threshold is beyond all bounds -/
def l_T (thr : Nat → Option Int) (v : Nat) (o : Option Int) : Option Int := match thr v, o with
  | some m, some z => if m < z then none else some z
  | _, o => o
def l_sw1 (E : LE) (thr : Nat → Option Int) (v : Nat) (X : Nat → Option Int) : Nat → Option Int := fun w => if w = v then l_T thr v (l_F E X v) else X w
/-- the first k versions gone over -/
def l_sw (E : LE) (thr : Nat → Option Int) : Nat → (Nat → Option Int) → Nat → Option Int
  | 0, X => X
  | k + 1, X => l_sw1 E thr k (l_sw E thr k X)
/-- t sweeps over V versions -/
def l_it (E : LE) (thr : Nat → Option Int) (V : Nat) (K : Int) : Nat → Nat → Option Int
  | 0 => fun _ => some (-K)
  | t + 1 => l_sw E thr V (l_it E thr V K t)
section SW
variable {E : LE} {V : Nat} {thr : Nat → Option Int} {K : Int} {X Y : Nat → Option Int}
theorem l_sw_ge {k w : Nat} (h : k ≤ w) : l_sw E thr k X w = X w := by
  induction k with
  | zero => rfl
  | succ k ih =>
    rw [l_sw, l_sw1, if_neg (by omega)]
    exact ih (by omega)
theorem l_sw_at {w : Nat} : l_sw E thr (w + 1) X w = l_T thr w (l_F E (l_sw E thr w X) w) := by
  rw [l_sw, l_sw1, if_pos rfl]
theorem l_sw_lt {k w : Nat} (h : w < k) : l_sw E thr k X w = l_sw E thr (w + 1) X w := by
  induction k with
  | zero => omega
  | succ k ih =>
    by_cases e : w = k
    · rw [e]
    · rw [l_sw, l_sw1, if_neg e]
      exact ih (by omega)
theorem l_T_ge (v : Nat) (o : Option Int) : l_le o (l_T thr v o) := by
  unfold l_T
  split
  · split
    · intro y hy; cases hy
    · exact l_le_refl _
  · exact l_le_refl _
theorem l_T_mono {v : Nat} {a b : Option Int} (h : l_le a b) : l_le (l_T thr v a) (l_T thr v b) := by
  intro y hy
  unfold l_T at hy ⊢
  cases ht : thr v with
  | none =>
    rw [ht] at hy
    try simp only at hy ⊢
    exact h y hy
  | some m =>
    rw [ht] at hy
    cases b with
    | none => cases hy
    | some z =>
      try simp only at hy
      split at hy
      · cases hy
      · cases hy
        obtain ⟨x, rfl, hx⟩ := h y rfl
        try simp only
        rw [if_neg (by omega)]
        exact ⟨x, rfl, hx⟩
theorem l_T_some {v : Nat} {o : Option Int} {a : Int} (h : l_T thr v o = some a) : o = some a := by
  unfold l_T at h
  cases ht : thr v with
  | none => rw [ht] at h; exact h
  | some m =>
    rw [ht] at h
    cases o with
    | none => exact h
    | some z =>
      simp only at h
      split at h
      · cases h
      · exact h
theorem l_F_ext (hW : l_W E V) {v : Nat} (hv : v < V) (h : ∀ w, w < V → X w = Y w) : l_F E X v = l_F E Y v := by
  have hw := hW v hv
  unfold l_F
  split at hw
  · rename_i a b e
    try rw [e]
    try simp only
    rw [h a (by omega), h b hw.2]
  · rename_i fr tm e
    try rw [e]
    try simp only
    congr 1
    · cases fr with
      | none => rfl
      | some q => simp only [l_fr]; rw [h q.1 (by have := (hw.1 q.1 q.2 rfl).1; omega)]
    · cases tm with
      | inl c => rfl
      | inr q => simp only [l_tm]; rw [h q.1 (by have := (hw.2.2 q.1 q.2 rfl).1; omega)]
/-- what is no ROUND looks at earlier ones alone -/
theorem l_F_ext0 (hW : l_W E V) {v : Nat} (hv : v < V) (hr : ∀ a b, E v = .inl (a, b) → b < v) (h : ∀ w, w < v → X w = Y w) : l_F E X v = l_F E Y v := by
  have hw := hW v hv
  unfold l_F
  split at hw
  · rename_i a b e
    try rw [e]
    try simp only
    rw [h a hw.1, h b (hr a b e)]
  · rename_i fr tm e
    try rw [e]
    try simp only
    congr 1
    · cases fr with
      | none => rfl
      | some q => simp only [l_fr]; rw [h q.1 (hw.1 q.1 q.2 rfl).1]
    · cases tm with
      | inl c => rfl
      | inr q => simp only [l_tm]; rw [h q.1 (hw.2.2 q.1 q.2 rfl).1]
theorem l_sw_mono (hW : l_W E V) (h : ∀ w, w < V → l_le (X w) (Y w)) : ∀ k, k ≤ V → ∀ w, w < V → l_le (l_sw E thr k X w) (l_sw E thr k Y w) := by
  intro k
  induction k with
  | zero => intro _ w hw; exact h w hw
  | succ k ih =>
    intro hk w hw
    rw [l_sw, l_sw, l_sw1, l_sw1]
    by_cases e : w = k
    · rw [if_pos e, if_pos e]
      exact l_T_mono (l_F_mono hW (ih (by omega)) (by omega))
    · rw [if_neg e, if_neg e]
      exact ih (by omega) w hw
/-- never above the least solution -/
theorem l_sw_sound (hW : l_W E V) {L : Nat → Option Int} (hp : l_pre E V L) (hs : ∀ v, v < V → ∀ m a, thr v = some m → L v = some a → a ≤ m) (h : ∀ w, w < V → l_le (X w) (L w)) : ∀ k, k ≤ V → ∀ w, w < V → l_le (l_sw E thr k X w) (L w) := by
  intro k
  induction k with
  | zero => intro _ w hw; exact h w hw
  | succ k ih =>
    intro hk w hw
    rw [l_sw, l_sw1]
    by_cases e : w = k
    · subst e
      rw [if_pos rfl]
      intro y hy
      obtain ⟨x, hx, hxy⟩ := l_le_trans (l_F_mono hW (ih (by omega)) hw) (hp w hw) y hy
      rw [hx]
      unfold l_T
      cases ht : thr w with
      | none => exact ⟨x, rfl, hxy⟩
      | some m =>
        try simp only
        rw [if_neg (by have := hs w hw m y ht hy; omega)]
        exact ⟨x, rfl, hxy⟩
    · rw [if_neg e]
      exact ih (by omega) w hw
theorem l_it_sound (hW : l_W E V) {L : Nat → Option Int} (hp : l_pre E V L) (hs : ∀ v, v < V → ∀ m a, thr v = some m → L v = some a → a ≤ m) (hK : 200 + l_sm (l_dn E) V ≤ K) : ∀ t w, w < V → l_le (l_it E thr V K t w) (L w) := by
  intro t
  induction t with
  | zero =>
    intro w hw y hy
    have := l_low hW hp w hw y hy
    have h2 := l_sm_mono (l_dn_nn E) (show w + 1 ≤ V by omega)
    exact ⟨-K, rfl, by omega⟩
  | succ t ih =>
    intro w hw
    exact l_sw_sound hW hp hs ih V (Nat.le_refl _) w hw
/-- what has been gone over isn't too low -/
theorem l_sw_low (hW : l_W E V) : ∀ k, k ≤ V → ∀ w, w < k → ∀ a, l_sw E thr k X w = some a → -200 - l_sm (l_dn E) (w + 1) ≤ a := by
  intro k hk w
  induction w using Nat.strongRecOn with
  | ind w ih =>
    intro hw a ha
    have hv : w < V := by omega
    rw [l_sw_lt hw, l_sw_at] at ha
    have hz := l_T_some ha
    have hsame : ∀ i, i < w → l_sw E thr w X i = l_sw E thr k X i := fun i hi => by rw [l_sw_lt hi, l_sw_lt (k := k) (by omega)]
    have hw2 := hW w hv
    unfold l_F at hz
    split at hw2
    · rename_i i j e
      try rw [e] at hz
      try simp only at hz
      cases hi : l_sw E thr w X i with
      | none => rw [hi] at hz; simp [l_max] at hz
      | some xi =>
        cases hj : l_sw E thr w X j with
        | none => rw [hi, hj] at hz; simp [l_max] at hz
        | some xj =>
          rw [hi, hj] at hz
          simp only [l_max, Option.some.injEq] at hz
          have := ih i hw2.1 (by omega) xi (by rw [← hsame i hw2.1]; exact hi)
          have h7 := l_sm_mono (l_dn_nn E) (show i + 1 ≤ w + 1 by omega)
          omega
    · rename_i fr tm e
      try rw [e] at hz
      try simp only at hz
      have edn : l_dn E w = l_nf fr + l_nt tm := l_dn_of e
      have g1 := l_nf_nn fr
      have g2 := l_nt_nn tm
      have esum : l_sm (l_dn E) (w + 1) = l_sm (l_dn E) w + l_dn E w := rfl
      have hsn := l_sm_mono (l_dn_nn E) (Nat.zero_le w)
      simp only [l_sm] at hsn
      have h1 : ∀ q, l_fr (l_sw E thr w X) fr = some q → -200 - l_sm (l_dn E) (w + 1) ≤ q := by
        intro q hq
        cases fr with
        | none => cases hq
        | some y =>
          obtain ⟨w1, w2, w3⟩ := hw2.1 y.1 y.2 rfl
          simp only [l_fr] at hq
          cases hx : l_sw E thr w X y.1 with
          | none => rw [hx] at hq; cases hq
          | some z =>
            rw [hx] at hq
            simp only [l_add, Option.some.injEq] at hq
            have := ih y.1 w1 (by omega) z (by rw [← hsame _ w1]; exact hx)
            have h7 := l_sm_mono (l_dn_nn E) (show y.1 + 1 ≤ w by omega)
            simp only [l_nf] at g1 edn
            omega
      have h2 : ∀ q, l_tm (l_sw E thr w X) tm = some q → -200 - l_sm (l_dn E) (w + 1) ≤ q := by
        intro q hq
        cases tm with
        | inl c =>
          simp only [l_tm] at hq
          subst hq
          have := hw2.2.1 q rfl
          simp only [l_nt] at edn
          omega
        | inr y =>
          obtain ⟨w1, w2, w3⟩ := hw2.2.2 y.1 y.2 rfl
          simp only [l_tm] at hq
          cases hx : l_sw E thr w X y.1 with
          | none => rw [hx] at hq; cases hq
          | some z =>
            rw [hx] at hq
            simp only [l_add, Option.some.injEq] at hq
            have := ih y.1 w1 (by omega) z (by rw [← hsame _ w1]; exact hx)
            have h7 := l_sm_mono (l_dn_nn E) (show y.1 + 1 ≤ w by omega)
            simp only [l_nt] at g2 edn
            omega
      cases h3 : l_fr (l_sw E thr w X) fr with
      | none =>
        rw [h3] at hz
        exact h2 a (by simpa [l_min] using hz)
      | some q =>
        have h4 := h1 q h3
        rw [h3] at hz
        cases h5 : l_tm (l_sw E thr w X) tm with
        | none =>
          rw [h5] at hz
          simp only [l_min, Option.some.injEq] at hz
          omega
        | some q2 =>
          have := h2 q2 h5
          rw [h5] at hz
          simp only [l_min, Option.some.injEq] at hz
          omega
/-- each sweep raises -/
theorem l_it_inc (hW : l_W E V) (hK : 200 + l_sm (l_dn E) V ≤ K) : ∀ t w, w < V → l_le (l_it E thr V K t w) (l_it E thr V K (t + 1) w) := by
  intro t
  induction t with
  | zero =>
    intro w hw y hy
    have := l_sw_low (X := l_it E thr V K 0) (thr := thr) hW V (Nat.le_refl _) w hw y hy
    have h2 := l_sm_mono (l_dn_nn E) (show w + 1 ≤ V by omega)
    exact ⟨-K, rfl, by omega⟩
  | succ t ih =>
    intro w hw
    exact l_sw_mono hW ih V (Nat.le_refl _) w hw
/-- a sweep after which nothing moves has found them -/
theorem l_fix (hW : l_W E V) {L : Nat → Option Int} (hl : ∀ x, l_pre E V x → ∀ v, v < V → l_le (L v) (x v)) (hX : ∀ w, w < V → l_le (X w) (L w)) (hf : ∀ v, v < V → X v = l_T thr v (l_F E X v)) : ∀ v, v < V → X v = L v := by
  have hpX : l_pre E V X := by
    intro v hv
    have := l_T_ge (thr := thr) v (l_F E X v)
    rw [← hf v hv] at this
    exact this
  intro v hv
  have h1 := hl X hpX v hv
  have h2 := hX v hv
  cases hx : X v with
  | none =>
    cases hL : L v with
    | none => rfl
    | some a => obtain ⟨x, h3, -⟩ := h2 a hL; rw [hx] at h3; cases h3
  | some x =>
    obtain ⟨y, hy, hyx⟩ := h1 x hx
    obtain ⟨z, hz, hzy⟩ := h2 y hy
    rw [hx] at hz
    cases hz
    rw [hy]
    congr 1
    omega
/-- the entries that are no ROUND are settled behind every sweep -/
theorem l_it_nr (hW : l_W E V) {v : Nat} (hv : v < V) (hr : ∀ a b, E v = .inl (a, b) → b < v) (t : Nat) : l_it E thr V K (t + 1) v = l_T thr v (l_F E (l_it E thr V K (t + 1)) v) := by
  show l_sw E thr V (l_it E thr V K t) v = _
  rw [l_sw_lt hv, l_sw_at]
  congr 1
  refine l_F_ext0 hW hv hr (fun w hw => ?_)
  rw [l_sw_lt hw]
  show _ = l_sw E thr V (l_it E thr V K t) w
  rw [l_sw_lt (k := V) (by omega)]
/-- rd: which are ROUND ones. If none of them moves in a sweep behind the first, nothing does -/
theorem l_it_still (hW : l_W E V) {rd : Nat → Prop} (hrd : ∀ v, v < V → ¬ rd v → ∀ a b, E v = .inl (a, b) → b < v) (t : Nat) (h : ∀ v, v < V → rd v → l_it E thr V K (t + 2) v = l_it E thr V K (t + 1) v) : ∀ v, v < V → l_it E thr V K (t + 2) v = l_it E thr V K (t + 1) v := by
  intro v
  induction v using Nat.strongRecOn with
  | ind v ih =>
    intro hv
    by_cases hr : rd v
    · exact h v hv hr
    · rw [l_it_nr hW hv (hrd v hv hr) (t + 1), l_it_nr hW hv (hrd v hv hr) t]
      congr 1
      exact l_F_ext0 hW hv (hrd v hv hr) (fun w hw => ih w hw (by omega))
/-- a sweep that changes nothing has settled all -/
theorem l_it_fix (t : Nat) (h : ∀ v, v < V → l_it E thr V K (t + 1) v = l_it E thr V K t v) (hW : l_W E V) : ∀ v, v < V → l_it E thr V K t v = l_T thr v (l_F E (l_it E thr V K t) v) := by
  intro v hv
  have h1 := h v hv
  rw [← h1]
  show l_sw E thr V (l_it E thr V K t) v = _
  rw [l_sw_lt hv, l_sw_at]
  congr 1
  refine l_F_ext hW hv (fun w hw => ?_)
  by_cases e : w < v
  · rw [l_sw_lt e]
    have h2 := h w hw
    rw [← h2]
    show _ = l_sw E thr V (l_it E thr V K t) w
    rw [l_sw_lt (k := V) hw]
  · rw [l_sw_ge (by omega)]
end SW
