/-! THE TEXT: runs of bytes of a kind; words, numbers and signs at a place -/
def t_rn (P : Int → Bool) (f : Int → Int) : Nat → Int → Int
  | 0, p => p
  | k + 1, p => if P (f p) = true then t_rn P f k (p + 1) else p
/-- the first place from p on that is the end or isn't of the kind -/
def t_run (P : Int → Bool) (f : Int → Int) (n p : Int) : Int := t_rn P f (n - p).toNat p
section TR
variable {P : Int → Bool} {f : Int → Int} {n p q : Int}
theorem t_run_eq : t_run P f n p = if p < n ∧ P (f p) = true then t_run P f n (p + 1) else p := by
  unfold t_run
  by_cases h : p < n
  · have e : (n - p).toNat = (n - (p + 1)).toNat + 1 := by omega
    rw [e, t_rn]
    simp only [h, true_and]
  · have e : (n - p).toNat = 0 := by omega
    rw [e, t_rn, if_neg (fun q => h q.1)]
theorem t_run_go (h : p < n) (hP : P (f p) = true) : t_run P f n p = t_run P f n (p + 1) := by rw [t_run_eq, if_pos ⟨h, hP⟩]
theorem t_run_fix (h : ¬ (p < n ∧ P (f p) = true)) : t_run P f n p = p := by rw [t_run_eq, if_neg h]
theorem t_run_spec : ∀ (k : Nat) (p : Int), (n - p).toNat = k → p ≤ t_run P f n p ∧ (p ≤ n → t_run P f n p ≤ n) ∧ (t_run P f n p < n → P (f (t_run P f n p)) = false) ∧ ∀ q, p ≤ q → q < t_run P f n p → P (f q) = true := by
  intro k
  induction k with
  | zero =>
    intro p hk
    rw [t_run_fix (by omega)]
    exact ⟨by omega, by omega, by omega, by omega⟩
  | succ k ih =>
    intro p hk
    by_cases h : P (f p) = true
    · rw [t_run_go (by omega) h]
      obtain ⟨h1, h2, h3, h4⟩ := ih (p + 1) (by omega)
      refine ⟨by omega, by omega, h3, fun q hq1 hq2 => ?_⟩
      by_cases e : q = p
      · rw [e]; exact h
      · exact h4 q (by omega) hq2
    · rw [t_run_fix (fun q => h q.2)]
      exact ⟨by omega, by omega, fun _ => by simpa using h, by omega⟩
theorem t_run_ge : p ≤ t_run P f n p := (t_run_spec _ p rfl).1
theorem t_run_le (h : p ≤ n) : t_run P f n p ≤ n := (t_run_spec _ p rfl).2.1 h
theorem t_run_stop (h : t_run P f n p < n) : P (f (t_run P f n p)) = false := (t_run_spec _ p rfl).2.2.1 h
theorem t_run_all (h1 : p ≤ q) (h2 : q < t_run P f n p) : P (f q) = true := (t_run_spec _ p rfl).2.2.2 q h1 h2
theorem t_run_id : t_run P f n (t_run P f n p) = t_run P f n p := t_run_fix (fun h => by rw [t_run_stop h.1] at h; cases h.2)
theorem t_run_of (h1 : p ≤ q) (h2 : q ≤ n) (h3 : ∀ k, p ≤ k → k < q → P (f k) = true) (h4 : q < n → P (f q) = false) : t_run P f n p = q := by
  have a1 := t_run_ge (P := P) (f := f) (n := n) (p := p)
  have a2 := t_run_le (P := P) (f := f) (n := n) (p := p) (by omega)
  by_cases e : t_run P f n p < q
  · have := h3 _ a1 e
    rw [t_run_stop (P := P) (f := f) (n := n) (p := p) (by omega)] at this
    cases this
  · by_cases e2 : q < t_run P f n p
    · have := t_run_all h1 e2
      rw [h4 (by omega)] at this
      cases this
    · omega
end TR
def t_bl (b : Int) : Bool := decide (b = 9 ∨ b = 10 ∨ b = 32)
def t_let (b : Int) : Bool := decide (97 ≤ b ∧ b ≤ 122)
def t_dg (b : Int) : Bool := decide (48 ≤ b ∧ b ≤ 57)
/-- blanks passed over -/
def sk (f : Int → Int) (n p : Int) : Int := t_run t_bl f n p
def t_w (f : Int → Int) : Int → List Nat → Bool
  | _, [] => true
  | p, c :: w => decide (f p = (c : Int)) && t_w f (p + 1) w
/-- what a word is, by its place and how many letters it has -/
def t_wk (f : Int → Int) (p m : Int) : Int :=
  if m = 1 then f p
  else if m = 5 ∧ t_w f p [97, 114, 114, 97, 121] = true then 256
  else if m = 3 ∧ t_w f p [111, 117, 116] = true then 257
  else if m = 2 ∧ t_w f p [105, 102] = true then 258
  else if m = 4 ∧ t_w f p [101, 108, 115, 101] = true then 259
  else if m = 5 ∧ t_w f p [119, 104, 105, 108, 101] = true then 260
  else if m = 2 ∧ t_w f p [105, 110] = true then 261
  else 264
/-- what stands at a place that is no blank -/
def tk (f : Int → Int) (n p : Int) : Int :=
  if n ≤ p then -1
  else if t_let (f p) = true then t_wk f p (t_run t_let f n p - p)
  else if t_dg (f p) = true then (if t_run t_dg f n p - p ≤ 2 then 262 else 264)
  else if f p = 60 ∧ p + 1 < n ∧ f (p + 1) = 61 then 263
  else if f p < 0 then f p + 256 else f p
/-- where it ends -/
def te (f : Int → Int) (n p : Int) : Int :=
  if n ≤ p then p
  else if t_let (f p) = true then t_run t_let f n p
  else if t_dg (f p) = true then t_run t_dg f n p
  else if f p = 60 ∧ p + 1 < n ∧ f (p + 1) = 61 then p + 2
  else p + 1
/-- what comes next -/
def nx (f : Int → Int) (n p : Int) : Int := sk f n (te f n p)
/-- a number's worth -/
def tw (f : Int → Int) (n p : Int) : Int := if t_run t_dg f n p - p = 2 then (f p - 48) * 10 + (f (p + 1) - 48) else f p - 48
section TK
variable {f : Int → Int} {n p q : Int}
theorem t_w_eq {f g : Int → Int} : ∀ (w : List Nat) (p : Int), (∀ k : Int, 0 ≤ k → k < w.length → f (p + k) = g (p + k)) → t_w f p w = t_w g p w := by
  intro w
  induction w with
  | nil => intro p _; rfl
  | cons c w ih =>
    intro p h
    have h0 := h 0 (by omega) (by simp only [List.length_cons]; omega)
    rw [Int.add_zero] at h0
    rw [t_w, t_w, h0, ih (p + 1) (fun k h1 h2 => by
      have := h (k + 1) (by omega) (by simp only [List.length_cons]; omega)
      rw [show p + 1 + k = p + (k + 1) by omega]
      exact this)]
theorem t_w_iff : ∀ (w : List Nat) (p : Int), t_w f p w = true ↔ ∀ k : Nat, k < w.length → f (p + k) = ((w.getD k 0 : Nat) : Int) := by
  intro w
  induction w with
  | nil => intro p; simp [t_w]
  | cons c w ih =>
    intro p
    rw [t_w, Bool.and_eq_true, ih, decide_eq_true_iff]
    constructor
    · rintro ⟨h1, h2⟩ k hk
      cases k with
      | zero => simpa using h1
      | succ k =>
        have := h2 k (by simp only [List.length_cons] at hk; omega)
        rw [show p + 1 + (k : Int) = p + ((k + 1 : Nat) : Int) by omega] at this
        simpa using this
    · intro h
      refine ⟨by simpa using h 0 (by simp), fun k hk => ?_⟩
      have := h (k + 1) (by simp only [List.length_cons]; omega)
      rw [show p + 1 + (k : Int) = p + ((k + 1 : Nat) : Int) by omega]
      simpa using this
theorem sk_ge : p ≤ sk f n p := t_run_ge
theorem sk_le (h : p ≤ n) : sk f n p ≤ n := t_run_le h
theorem sk_id : sk f n (sk f n p) = sk f n p := t_run_id
theorem te_gt (h : p < n) : p < te f n p := by
  unfold te
  rw [if_neg (by omega)]
  split
  · rename_i h1; rw [t_run_go h h1]; have := t_run_ge (P := t_let) (f := f) (n := n) (p := p + 1); omega
  · split
    · rename_i h1; rw [t_run_go h h1]; have := t_run_ge (P := t_dg) (f := f) (n := n) (p := p + 1); omega
    · split <;> omega
theorem te_le (h : p ≤ n) : te f n p ≤ n := by
  unfold te
  split
  · omega
  · split
    · exact t_run_le h
    · split
      · exact t_run_le h
      · split <;> omega
theorem nx_le (h : p ≤ n) : nx f n p ≤ n := sk_le (te_le h)
theorem nx_gt (h : p < n) : p < nx f n p := by
  have h1 := te_gt (f := f) h
  have h2 := sk_ge (f := f) (n := n) (p := te f n p)
  unfold nx
  omega
theorem nx_sk : sk f n (nx f n p) = nx f n p := sk_id
/-- bytes -/
def t_by (f : Int → Int) (n : Int) : Prop := ∀ i, 0 ≤ i → i < n → -128 ≤ f i ∧ f i ≤ 127
theorem t_wk_cases {m : Int} : (m = 1 ∧ t_wk f p m = f p) ∨ (m ≠ 1 ∧ 256 ≤ t_wk f p m ∧ t_wk f p m ≤ 264 ∧ t_wk f p m ≠ 262 ∧ t_wk f p m ≠ 263) := by
  by_cases h : m = 1
  · left
    unfold t_wk
    exact ⟨h, if_pos h⟩
  · right
    refine ⟨h, ?_⟩
    generalize hz : t_wk f p m = z
    unfold t_wk at hz
    rw [if_neg h] at hz
    (repeat' split at hz) <;> omega
theorem t_let_iff {b : Int} : t_let b = true ↔ 97 ≤ b ∧ b ≤ 122 := decide_eq_true_iff
theorem t_dg_iff {b : Int} : t_dg b = true ↔ 48 ≤ b ∧ b ≤ 57 := decide_eq_true_iff
theorem t_bl_iff {b : Int} : t_bl b = true ↔ b = 9 ∨ b = 10 ∨ b = 32 := decide_eq_true_iff
/-- the ways that a place may be -/
theorem tk_cases (hf : t_by f n) (h0 : 0 ≤ p) (h : p < n) :
    (t_let (f p) = true ∧ tk f n p = t_wk f p (t_run t_let f n p - p) ∧ te f n p = t_run t_let f n p ∧ p + 1 ≤ t_run t_let f n p) ∨
    (t_dg (f p) = true ∧ tk f n p = (if t_run t_dg f n p - p ≤ 2 then 262 else 264) ∧ te f n p = t_run t_dg f n p ∧ p + 1 ≤ t_run t_dg f n p) ∨
    (f p = 60 ∧ p + 1 < n ∧ f (p + 1) = 61 ∧ tk f n p = 263 ∧ te f n p = p + 2) ∨
    (t_let (f p) = false ∧ t_dg (f p) = false ∧ ¬ (f p = 60 ∧ p + 1 < n ∧ f (p + 1) = 61) ∧ te f n p = p + 1 ∧ ((f p < 0 ∧ tk f n p = f p + 256) ∨ (0 ≤ f p ∧ tk f n p = f p)) ∧ -128 ≤ f p ∧ f p ≤ 127) := by
  have hb := hf p h0 h
  have hn : ¬ n ≤ p := by omega
  unfold tk te
  rw [if_neg hn, if_neg hn]
  by_cases h1 : t_let (f p) = true
  · left
    rw [if_pos h1, if_pos h1]
    refine ⟨h1, rfl, rfl, ?_⟩
    rw [t_run_go h h1]
    exact t_run_ge
  · rw [if_neg h1, if_neg h1]
    right
    by_cases h2 : t_dg (f p) = true
    · left
      rw [if_pos h2, if_pos h2]
      refine ⟨h2, rfl, rfl, ?_⟩
      rw [t_run_go h h2]
      exact t_run_ge
    · right
      rw [if_neg h2, if_neg h2]
      by_cases h3 : f p = 60 ∧ p + 1 < n ∧ f (p + 1) = 61
      · left
        rw [if_pos h3, if_pos h3]
        exact ⟨h3.1, h3.2.1, h3.2.2, rfl, rfl⟩
      · right
        rw [if_neg h3, if_neg h3]
        refine ⟨by simpa using h1, by simpa using h2, h3, rfl, ?_, hb.1, hb.2⟩
        by_cases h4 : f p < 0
        · left; rw [if_pos h4]; exact ⟨h4, rfl⟩
        · right; rw [if_neg h4]; exact ⟨by omega, rfl⟩
theorem tk_past (h : n ≤ p) : tk f n p = -1 ∧ te f n p = p := by
  unfold tk te
  rw [if_pos h, if_pos h]
  exact ⟨rfl, rfl⟩
theorem tk_ge (hf : t_by f n) (h0 : 0 ≤ p) (h : p < n) : 0 ≤ tk f n p ∧ tk f n p ≤ 264 := by
  have hc := t_wk_cases (f := f) (p := p) (m := t_run t_let f n p - p)
  rcases tk_cases hf h0 h with ⟨h1, h2, -⟩ | ⟨h1, h2, -⟩ | ⟨-, -, -, h2, -⟩ | ⟨-, -, -, -, h2, h3, h4⟩
  · rw [t_let_iff] at h1; omega
  · rw [h2]; split <;> omega
  · omega
  · omega
theorem tk_end (hf : t_by f n) (h0 : 0 ≤ p) : tk f n p = -1 ↔ n ≤ p := by
  constructor
  · intro h
    by_cases h1 : p < n
    · have := tk_ge hf h0 h1; omega
    · omega
  · intro h; exact (tk_past h).1
/-- a sign -/
theorem tk_sign (hf : t_by f n) (h0 : 0 ≤ p) {c : Int} (hc : 0 ≤ c ∧ c ≤ 127) (h1 : t_let c = false) (h2 : t_dg c = false) (h3 : c ≠ 60) : tk f n p = c ↔ p < n ∧ f p = c := by
  by_cases h : p < n
  · have hw := t_wk_cases (f := f) (p := p) (m := t_run t_let f n p - p)
    rcases tk_cases hf h0 h with ⟨k1, k2, -⟩ | ⟨k1, k2, -⟩ | ⟨k1, -, -, k2, -⟩ | ⟨k1, k3, k4, -, k2, k5, k6⟩
    · have : f p ≠ c := fun e => by rw [e, h1] at k1; cases k1
      rw [k2]; omega
    · have : f p ≠ c := fun e => by rw [e, h2] at k1; cases k1
      rw [k2]; split <;> omega
    · omega
    · omega
  · rw [(tk_past (by omega)).1]; omega
theorem te_sign (hf : t_by f n) (h0 : 0 ≤ p) {c : Int} (h1 : t_let c = false) (h2 : t_dg c = false) (h3 : c ≠ 60) (h : p < n) (e : f p = c) : te f n p = p + 1 := by
  rcases tk_cases hf h0 h with ⟨k1, k2, -⟩ | ⟨k1, k2, -⟩ | ⟨k1, -, -, k2, -⟩ | ⟨k1, k3, k4, k5, k2, k6, k7⟩
  · rw [e, h1] at k1; cases k1
  · rw [e, h2] at k1; cases k1
  · omega
  · exact k5
/-- a variable -/
theorem tk_var (hf : t_by f n) (h0 : 0 ≤ p) : (97 ≤ tk f n p ∧ tk f n p ≤ 104) ↔ (t_run t_let f n p - p = 1 ∧ f p ≤ 104) := by
  by_cases h : p < n
  · have hw := t_wk_cases (f := f) (p := p) (m := t_run t_let f n p - p)
    rcases tk_cases hf h0 h with ⟨k1, k2, -⟩ | ⟨k1, k2, -⟩ | ⟨k1, -, -, k2, -⟩ | ⟨k1, k3, k4, -, k2, k5, k6⟩
    · rw [t_let_iff] at k1; rw [k2]; omega
    · have e : t_run t_let f n p = p := t_run_fix (fun q => by rw [t_dg_iff] at k1; have := q.2; rw [t_let_iff] at this; omega)
      rw [k2, e]; split <;> omega
    · have e : t_run t_let f n p = p := t_run_fix (fun q => by have := q.2; rw [t_let_iff] at this; omega)
      omega
    · have e : t_run t_let f n p = p := t_run_fix (fun q => by rw [k1] at q; cases q.2)
      have k8 : ¬ (97 ≤ f p ∧ f p ≤ 122) := fun q => by rw [← t_let_iff, k1] at q; cases q
      omega
  · have e : t_run t_let f n p = p := t_run_fix (fun q => h q.1)
    rw [(tk_past (by omega)).1, e]; omega
theorem te_var (hf : t_by f n) (h0 : 0 ≤ p) (h : 97 ≤ tk f n p ∧ tk f n p ≤ 104) : p < n ∧ tk f n p = f p ∧ te f n p = p + 1 ∧ 97 ≤ f p ∧ f p ≤ 104 := by
  have h1 := (tk_var hf h0).mp h
  have hn : p < n := by
    by_cases q : p < n
    · exact q
    · have := (tk_past (f := f) (n := n) (p := p) (by omega)).1; omega
  have hw := t_wk_cases (f := f) (p := p) (m := t_run t_let f n p - p)
  rcases tk_cases hf h0 hn with ⟨k1, k2, k3, -⟩ | ⟨k1, k2, -⟩ | ⟨k1, -, -, k2, -⟩ | ⟨k1, k3, k4, -, k2, k5, k6⟩
  · rw [t_let_iff] at k1; omega
  · rw [k2] at h; split at h <;> omega
  · omega
  · have k8 : ¬ (97 ≤ f p ∧ f p ≤ 122) := fun q => by rw [← t_let_iff, k1] at q; cases q
    omega
/-- a row -/
theorem tk_row (hf : t_by f n) (h0 : 0 ≤ p) : (65 ≤ tk f n p ∧ tk f n p ≤ 67) ↔ (p < n ∧ 65 ≤ f p ∧ f p ≤ 67) := by
  by_cases h : p < n
  · have hw := t_wk_cases (f := f) (p := p) (m := t_run t_let f n p - p)
    rcases tk_cases hf h0 h with ⟨k1, k2, -⟩ | ⟨k1, k2, -⟩ | ⟨k1, -, -, k2, -⟩ | ⟨k1, k3, k4, -, k2, k5, k6⟩
    · rw [t_let_iff] at k1; rw [k2]; omega
    · rw [t_dg_iff] at k1; rw [k2]; split <;> omega
    · omega
    · omega
  · rw [(tk_past (by omega)).1]; omega
theorem te_row (hf : t_by f n) (h0 : 0 ≤ p) (h : p < n ∧ 65 ≤ f p ∧ f p ≤ 67) : tk f n p = f p ∧ te f n p = p + 1 := by
  rcases tk_cases hf h0 h.1 with ⟨k1, k2, k3, -⟩ | ⟨k1, k2, -⟩ | ⟨k1, -, -, k2, -⟩ | ⟨k1, k3, k4, k5, k2, k6, k7⟩
  · rw [t_let_iff] at k1; omega
  · rw [t_dg_iff] at k1; omega
  · omega
  · exact ⟨by omega, k5⟩
/-- a number -/
theorem tk_num (hf : t_by f n) (h0 : 0 ≤ p) : tk f n p = 262 ↔ (p < n ∧ t_dg (f p) = true ∧ t_run t_dg f n p - p ≤ 2) := by
  by_cases h : p < n
  · have hw := t_wk_cases (f := f) (p := p) (m := t_run t_let f n p - p)
    rcases tk_cases hf h0 h with ⟨k1, k2, -⟩ | ⟨k1, k2, -⟩ | ⟨k1, -, -, k2, -⟩ | ⟨k1, k3, k4, -, k2, k5, k6⟩
    · have : ¬ t_dg (f p) = true := fun q => by rw [t_dg_iff] at q; rw [t_let_iff] at k1; omega
      rw [t_let_iff] at k1
      rw [k2]
      constructor
      · omega
      · intro q; exact absurd q.2.1 this
    · rw [k2]
      constructor
      · intro q; split at q
        · exact ⟨h, k1, by assumption⟩
        · omega
      · intro q; rw [if_pos q.2.2]
    · constructor
      · omega
      · intro q; have := q.2.1; rw [t_dg_iff] at this; omega
    · constructor
      · omega
      · intro q; rw [k3] at q; cases q.2.1
  · rw [(tk_past (by omega)).1]; omega
theorem te_num (h : p < n) (hd : t_dg (f p) = true) : te f n p = t_run t_dg f n p := by
  unfold te
  rw [if_neg (by omega), if_neg (fun q => by rw [t_let_iff] at q; rw [t_dg_iff] at hd; omega), if_pos hd]
theorem tw_range (h : p < n) (hd : t_dg (f p) = true) : 0 ≤ tw f n p ∧ tw f n p ≤ 99 := by
  unfold tw
  have h1 := (t_dg_iff).mp hd
  split
  · rename_i e
    have h2 := (t_dg_iff).mp (t_run_all (P := t_dg) (f := f) (n := n) (p := p) (q := p + 1) (by omega) (by omega))
    omega
  · omega
/-- a word of some letters; c: its number, w: its letters -/
theorem tk_word (hf : t_by f n) (h0 : 0 ≤ p) {c : Int} {w : List Nat} (hw : (c, w) ∈ [((256 : Int), [97, 114, 114, 97, 121]), (257, [111, 117, 116]), (258, [105, 102]), (259, [101, 108, 115, 101]), (260, [119, 104, 105, 108, 101]), (261, [105, 110])]) :
    tk f n p = c ↔ (t_run t_let f n p - p = w.length ∧ t_w f p w = true) := by
  by_cases h : p < n
  · rcases tk_cases hf h0 h with ⟨k1, k2, -⟩ | ⟨k1, k2, -⟩ | ⟨k1, -, -, k2, -⟩ | ⟨k1, k3, k4, -, k2, k5, k6⟩
    · rw [k2, t_let_iff] at *
      simp only [List.mem_cons, Prod.mk.injEq, List.not_mem_nil, or_false] at hw
      rcases hw with ⟨rfl, rfl⟩ | ⟨rfl, rfl⟩ | ⟨rfl, rfl⟩ | ⟨rfl, rfl⟩ | ⟨rfl, rfl⟩ | ⟨rfl, rfl⟩ <;> simp only [t_wk, t_w, List.length_cons, List.length_nil, Bool.and_eq_true, decide_eq_true_iff] <;> grind (splits := 30)
    · have e : t_run t_let f n p = p := t_run_fix (fun q => by rw [t_dg_iff] at k1; have := q.2; rw [t_let_iff] at this; omega)
      rw [k2, e]
      simp only [List.mem_cons, Prod.mk.injEq, List.not_mem_nil, or_false] at hw
      rcases hw with ⟨rfl, rfl⟩ | ⟨rfl, rfl⟩ | ⟨rfl, rfl⟩ | ⟨rfl, rfl⟩ | ⟨rfl, rfl⟩ | ⟨rfl, rfl⟩ <;> simp only [List.length_cons, List.length_nil] <;> grind
    · have e : t_run t_let f n p = p := t_run_fix (fun q => by have := q.2; rw [t_let_iff] at this; omega)
      rw [k2, e]
      simp only [List.mem_cons, Prod.mk.injEq, List.not_mem_nil, or_false] at hw
      rcases hw with ⟨rfl, rfl⟩ | ⟨rfl, rfl⟩ | ⟨rfl, rfl⟩ | ⟨rfl, rfl⟩ | ⟨rfl, rfl⟩ | ⟨rfl, rfl⟩ <;> simp only [List.length_cons, List.length_nil] <;> grind
    · have e : t_run t_let f n p = p := t_run_fix (fun q => by rw [k1] at q; cases q.2)
      rw [e]
      simp only [List.mem_cons, Prod.mk.injEq, List.not_mem_nil, or_false] at hw
      rcases hw with ⟨rfl, rfl⟩ | ⟨rfl, rfl⟩ | ⟨rfl, rfl⟩ | ⟨rfl, rfl⟩ | ⟨rfl, rfl⟩ | ⟨rfl, rfl⟩ <;> simp only [List.length_cons, List.length_nil] <;> grind
  · have e : t_run t_let f n p = p := t_run_fix (fun q => h q.1)
    rw [(tk_past (by omega)).1, e]
    simp only [List.mem_cons, Prod.mk.injEq, List.not_mem_nil, or_false] at hw
    rcases hw with ⟨rfl, rfl⟩ | ⟨rfl, rfl⟩ | ⟨rfl, rfl⟩ | ⟨rfl, rfl⟩ | ⟨rfl, rfl⟩ | ⟨rfl, rfl⟩ <;> simp only [List.length_cons, List.length_nil] <;> grind
theorem te_word (h : t_run t_let f n p - p ≥ 1) : te f n p = t_run t_let f n p := by
  have hp : p < n ∧ t_let (f p) = true := by
    by_cases q : p < n ∧ t_let (f p) = true
    · exact q
    · rw [t_run_fix q] at h; omega
  unfold te
  rw [if_neg (by omega), if_pos hp.2]
end TK
