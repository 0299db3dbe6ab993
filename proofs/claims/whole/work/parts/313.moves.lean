/-! HOW MANY SWEEPS move something -/
def l_c (M : Int) (o : Option Int) : Int := match o with
  | some z => z
  | none => M + 1
/-- the sum over some versions -/
def l_ph (M : Int) (rd : Nat → Bool) (X : Nat → Option Int) (V : Nat) : Int := l_sm (fun v => if rd v = true then l_c M (X v) else 0) V
def l_nr (rd : Nat → Bool) (V : Nat) : Int := l_sm (fun v => if rd v = true then 1 else 0) V
section MV
variable {E : LE} {V : Nat} {thr : Nat → Option Int} {K M : Int} {rd : Nat → Bool}
theorem l_sm_le {f g : Nat → Int} : ∀ V, (∀ v, v < V → f v ≤ g v) → l_sm f V ≤ l_sm g V := by
  intro V
  induction V with
  | zero => intro _; exact Int.le_refl _
  | succ V ih =>
    intro h
    have h1 := ih (fun v hv => h v (by omega))
    have h2 := h V (by omega)
    simp only [l_sm]
    omega
theorem l_sm_lt {f g : Nat → Int} : ∀ V, (∀ v, v < V → f v ≤ g v) → (∃ v, v < V ∧ f v < g v) → l_sm f V + 1 ≤ l_sm g V := by
  intro V
  induction V with
  | zero => intro _ h; obtain ⟨v, hv, _⟩ := h; omega
  | succ V ih =>
    intro h hx
    have h2 := h V (by omega)
    simp only [l_sm]
    by_cases e : f V < g V
    · have h1 := l_sm_le V (fun v hv => h v (by omega))
      omega
    · obtain ⟨v, hv, hlt⟩ := hx
      have h1 := ih (fun v hv => h v (by omega)) ⟨v, by
        by_cases q : v = V
        · subst q; omega
        · omega, hlt⟩
      omega
theorem l_sm_mul {c : Int} : ∀ V, l_sm (fun v => if rd v = true then c else 0) V = l_nr rd V * c := by
  intro V
  induction V with
  | zero => simp [l_sm, l_nr]
  | succ V ih =>
    simp only [l_sm, l_nr] at ih ⊢
    rw [ih, Int.add_mul]
    by_cases h : rd V = true
    · simp [h]
    · simp [h]
theorem l_it_top {v m : Nat} {M z : Int} (hv : v < V) (ht : thr v = some M) (h : l_it E thr V K (m + 1) v = some z) : z ≤ M := by
  have h : l_sw E thr V (l_it E thr V K m) v = some z := h
  rw [l_sw_lt hv, l_sw_at] at h
  unfold l_T at h
  rw [ht] at h
  cases hF : l_F E (l_sw E thr v (l_it E thr V K m)) v with
  | none => rw [hF] at h; cases h
  | some q =>
    rw [hF] at h
    simp only at h
    split at h
    · cases h
    · cases h; omega
theorem l_it_low {v m : Nat} {z : Int} (hW : l_W E V) (hv : v < V) (h : l_it E thr V K (m + 1) v = some z) : -200 - l_sm (l_dn E) V ≤ z := by
  have := l_sw_low hW V (Nat.le_refl _) v hv z h
  have h2 := l_sm_mono (l_dn_nn E) (show v + 1 ≤ V by omega)
  omega
theorem l_c_mono {a b : Option Int} (h : l_le a b) (ha : ∀ z, a = some z → z ≤ M) : l_c M a ≤ l_c M b ∧ (a ≠ b → l_c M a < l_c M b) := by
  unfold l_c
  cases b with
  | none =>
    cases a with
    | none => simp
    | some x => have := ha x rfl; simp; omega
  | some y =>
    obtain ⟨x, rfl, hx⟩ := h y rfl
    simp
    omega
/-- T sweeps behind the first that each move something: not too many -/
theorem l_moves (hW : l_W E V) (hK : 200 + l_sm (l_dn E) V ≤ K) (ht : ∀ v, v < V → rd v = true → thr v = some M) : ∀ T : Nat, (∀ t, t < T → ∃ v, v < V ∧ rd v = true ∧ l_it E thr V K (t + 2) v ≠ l_it E thr V K (t + 1) v) → l_ph M rd (l_it E thr V K 1) V + T ≤ l_ph M rd (l_it E thr V K (T + 1)) V := by
  intro T
  induction T with
  | zero => intro _; simp
  | succ T ih =>
    intro h
    have h1 := ih (fun t ht => h t (by omega))
    obtain ⟨v, hv, hr, hne⟩ := h T (by omega)
    have h2 : l_ph M rd (l_it E thr V K (T + 1)) V + 1 ≤ l_ph M rd (l_it E thr V K (T + 1 + 1)) V := by
      refine l_sm_lt V (fun w hw => ?_) ⟨v, hv, ?_⟩
      · by_cases hrw : rd w = true
        · simp only [hrw, if_true]
          exact (l_c_mono (l_it_inc hW hK (T + 1) w hw) (fun z hz => l_it_top hw (ht w hw hrw) hz)).1
        · simp [hrw]
      · simp only [hr, if_true]
        exact (l_c_mono (l_it_inc hW hK (T + 1) v hv) (fun z hz => l_it_top hv (ht v hv hr) hz)).2 (fun q => hne q.symm)
    omega
theorem l_moves_lt (hW : l_W E V) (hK : 200 + l_sm (l_dn E) V ≤ K) (ht : ∀ v, v < V → rd v = true → thr v = some M) (hM : -201 - l_sm (l_dn E) V ≤ M) (T : Nat) (h : ∀ t, t < T → ∃ v, v < V ∧ rd v = true ∧ l_it E thr V K (t + 2) v ≠ l_it E thr V K (t + 1) v) : (T : Int) ≤ l_nr rd V * (M + 201 + l_sm (l_dn E) V) := by
  have h1 := l_moves hW hK ht T h
  have h2 : l_ph M rd (l_it E thr V K (T + 1)) V ≤ l_nr rd V * (M + 1) := by
    rw [← l_sm_mul]
    refine l_sm_le V (fun v hv => ?_)
    by_cases hr : rd v = true
    · simp only [hr, if_true]
      unfold l_c
      cases hx : l_it E thr V K (T + 1) v with
      | none => simp
      | some z => have := l_it_top hv (ht v hv hr) hx; simp; omega
    · simp [hr]
  have h3 : l_nr rd V * (-200 - l_sm (l_dn E) V) ≤ l_ph M rd (l_it E thr V K 1) V := by
    rw [← l_sm_mul]
    refine l_sm_le V (fun v hv => ?_)
    by_cases hr : rd v = true
    · simp only [hr, if_true]
      unfold l_c
      cases hx : l_it E thr V K 1 v with
      | none => simp; omega
      | some z => have := l_it_low hW hv hx; simp; omega
    · simp [hr]
  have h4 : l_nr rd V * (M + 201 + l_sm (l_dn E) V) = l_nr rd V * (M + 1) - l_nr rd V * (-200 - l_sm (l_dn E) V) := by
    rw [← Int.mul_sub]
    congr 1
    omega
  omega
end MV
