/-! the cells that the constructors make, by program; and what is equal, as a truth value -/
def v_eq (a b : V2) : Bool := match a, b with
  | .inl x, .inl y => decide (x = y)
  | .inr (.inl x), .inr (.inl y) => decide (x = y)
  | .inr (.inr none), .inr (.inr none) => true
  | .inr (.inr (some x)), .inr (.inr (some y)) => decide (x = y)
  | _, _ => false
theorem v_eq_ok {a b : V2} (h : v_eq a b = true) : a = b := by
  unfold v_eq at h
  split at h
  · rw [decide_eq_true_eq] at h; rw [h]
  · rw [decide_eq_true_eq] at h; rw [h]
  · rfl
  · rw [decide_eq_true_eq] at h; rw [h]
  · cases h
def vs_eq : List V2 → List V2 → Bool
  | [], [] => true
  | a :: l, b :: m => v_eq a b && vs_eq l m
  | _, _ => false
theorem vs_eq_ok : ∀ {l m : List V2}, vs_eq l m = true → l = m := by
  intro l
  induction l with
  | nil => intro m h; cases m with
    | nil => rfl
    | cons b m => cases h
  | cons a l ih => intro m h; cases m with
    | nil => cases h
    | cons b m =>
      rw [vs_eq, Bool.and_eq_true] at h
      rw [v_eq_ok h.1, ih h.2]
def c_eq (a b : LC) : Bool := match a, b with
  | .inl (t, n, cl), .inl (t', n', cl') => decide (t = t' ∧ n = n' ∧ cl = cl')
  | .inr (c, fs), .inr (c', fs') => decide (c = c') && vs_eq fs fs'
  | _, _ => false
theorem c_eq_ok {a b : LC} (h : c_eq a b = true) : a = b := by
  unfold c_eq at h
  split at h
  · rw [decide_eq_true_eq] at h; rw [h.1, h.2.1, h.2.2]
  · rw [Bool.and_eq_true, decide_eq_true_eq] at h; rw [h.1, vs_eq_ok h.2]
  · cases h
def cs_eq : List LC → List LC → Bool
  | [], [] => true
  | a :: l, b :: m => c_eq a b && cs_eq l m
  | _, _ => false
theorem cs_eq_ok : ∀ {l m : List LC}, cs_eq l m = true → l = m := by
  intro l
  induction l with
  | nil => intro m h; cases m with
    | nil => rfl
    | cons b m => cases h
  | cons a l ih => intro m h; cases m with
    | nil => cases h
    | cons b m =>
      rw [cs_eq, Bool.and_eq_true] at h
      rw [c_eq_ok h.1, ih h.2]
def x_eq (x : Option (Nat × List V2 × List V2 × PU × List LC)) (pc : Nat) (ls st : List V2) (u : PU) (l : List LC) : Bool := match x with
  | some (pc', ls', st', u', l') => decide (pc' = pc ∧ u' = u) && (vs_eq ls' ls && (vs_eq st' st && cs_eq l' l))
  | none => false
theorem x_eq_ok {x : Option (Nat × List V2 × List V2 × PU × List LC)} {pc : Nat} {ls st : List V2} {u : PU} {l : List LC} (h : x_eq x pc ls st u l = true) : x = some (pc, ls, st, u, l) := by
  unfold x_eq at h
  split at h
  · rw [Bool.and_eq_true, Bool.and_eq_true, Bool.and_eq_true, decide_eq_true_eq] at h
    obtain ⟨⟨h1, h2⟩, h3, h4, h5⟩ := h
    rw [h1, h2, vs_eq_ok h3, vs_eq_ok h4, cs_eq_ok h5]
  · cases h
def n_eq (x : Option LMN) (y : Nat) (as st : List V2) : Bool := match x with
  | some (.inr (y', as', st')) => decide (y' = y) && (vs_eq as' as && vs_eq st' st)
  | _ => false
theorem n_eq_ok {x : Option LMN} {y : Nat} {as st : List V2} (h : n_eq x y as st = true) : x = some (.inr (y, as, st)) := by
  unfold n_eq at h
  split at h
  · rw [Bool.and_eq_true, Bool.and_eq_true, decide_eq_true_eq] at h
    rw [h.1, vs_eq_ok h.2.1, vs_eq_ok h.2.2]
  · cases h
abbrev l_hole (N : Nat) : List LC := List.replicate N (.inr (0, []))
def l_A0 : List LC := [.inr (14, [vr 1, vr 2, vr 3, vr 4, vr 9, vr 27, vr 39, vr 55, vr 66, vr 72, vr 77, vr 88, vr 112, vi 0, vi (-1)]), .inl (0, 400, []), .inl (0, 3, []), .inl (0, 3, []), .inr (9, [vr 5, vi 0, vi 0, vl 0, vi 0]), .inr (12, [vr 1, vi 0, vi 0, vr 6, vr 7, vr 8]), .inl (0, 401, []), .inl (0, 401, []), .inl (0, 401, []), .inr (13, [vi 0, vr 10, vr 11, vr 12, vr 13, vr 14, vr 15, vr 16, vr 17, vr 18, vr 21, vr 24]), .inl (0, 240, []), .inl (0, 240, []), .inl (0, 240, []), .inl (0, 240, []), .inl (0, 240, []), .inl (0, 240, []), .inl (0, 240, []), .inl (0, 240, []), .inl (4, 2, []), .inl (0, 240, []), .inl (0, 240, []), .inl (4, 2, []), .inl (0, 240, []), .inl (0, 240, []), .inl (4, 2, []), .inl (0, 240, []), .inl (0, 240, []), .inr (6, [vr 28, vr 29, vr 30, vr 31, vr 32, vr 33, vr 34, vr 35, vr 36]), .inl (0, 40, []), .inl (0, 40, []), .inl (0, 40, []), .inl (0, 40, []), .inl (0, 40, []), .inl (0, 40, [])]
def l_A1 : List LC := [.inl (0, 40, []), .inl (0, 40, []), .inl (4, 2, []), .inl (0, 40, []), .inl (0, 40, []), .inr (7, [vr 9, vr 27, vr 40, vr 41, vr 48, vl 0]), .inl (0, 8, []), .inl (4, 6, []), .inl (0, 8, []), .inl (0, 8, []), .inl (0, 8, []), .inl (0, 8, []), .inl (0, 8, []), .inl (0, 8, []), .inl (4, 6, []), .inl (0, 8, []), .inl (0, 8, []), .inl (0, 8, []), .inl (0, 8, []), .inl (0, 8, []), .inl (0, 8, []), .inr (3, [vr 9, vl 0, vr 56, vr 61]), .inl (4, 4, []), .inl (0, 240, []), .inl (0, 240, []), .inl (0, 240, []), .inl (0, 240, []), .inl (4, 4, []), .inl (0, 240, []), .inl (0, 240, []), .inl (0, 240, []), .inl (0, 240, []), .inr (8, [vr 9, vr 27, vr 55, vl 0, vr 67, vi 0, vr 68, vr 69, vi 0, vi 0]), .inl (0, 240, [])]
def l_A2 : List LC := [.inl (0, 40, []), .inl (4, 2, []), .inl (0, 40, []), .inl (0, 40, []), .inr (5, [vr 9, vr 27, vl 0, vr 66, vr 73, vr 74, vr 75, vr 76, vi 0]), .inl (0, 40, []), .inl (0, 40, []), .inl (0, 40, []), .inl (0, 40, []), .inr (10, [vr 9, vr 27, vr 66, vr 72, vr 2, vr 3, vr 78, vr 79, vl 0, vi 0, vr 80, vr 81, vr 85, vr 86, vr 87]), .inl (0, 8, []), .inl (0, 40, []), .inl (0, 240, []), .inl (4, 3, []), .inl (0, 40, []), .inl (0, 40, []), .inl (0, 40, []), .inl (0, 3, []), .inl (0, 300, []), .inl (0, 7, []), .inr (4, [vi 0, vi 0, vi 0, vr 89, vr 90, vr 91, vr 92, vr 93, vr 94, vr 95, vr 96, vr 97, vr 98, vr 99, vr 100, vr 101, vr 102, vr 103, vr 104]), .inl (0, 3, [-1, -1, -1]), .inl (0, 40, []), .inl (0, 40, []), .inl (0, 40, []), .inl (0, 40, []), .inl (0, 40, []), .inl (0, 40, []), .inl (0, 40, []), .inl (0, 40, []), .inl (0, 40, []), .inl (0, 40, []), .inl (0, 40, []), .inl (0, 40, [])]
def l_A3 : List LC := [.inl (0, 40, []), .inl (0, 40, []), .inr (11, [vr 105, vr 106, vr 109]), .inl (0, 40, []), .inl (4, 2, []), .inl (0, 40, []), .inl (0, 40, []), .inl (4, 2, []), .inl (0, 40, []), .inl (0, 40, []), .inr (4, [vi 0, vi 0, vi 0, vr 113, vr 114, vr 115, vr 116, vr 117, vr 118, vr 119, vr 120, vr 121, vr 122, vr 123, vr 124, vr 125, vr 126, vr 127, vr 128]), .inl (0, 3, [-1, -1, -1]), .inl (0, 40, []), .inl (0, 40, []), .inl (0, 40, []), .inl (0, 40, []), .inl (0, 40, []), .inl (0, 40, []), .inl (0, 40, []), .inl (0, 40, []), .inl (0, 40, []), .inl (0, 40, []), .inl (0, 40, []), .inl (0, 40, []), .inl (0, 40, []), .inl (0, 40, []), .inr (11, [vr 129, vr 130, vr 133]), .inl (0, 40, []), .inl (4, 2, []), .inl (0, 40, []), .inl (0, 40, []), .inl (4, 2, []), .inl (0, 40, []), .inl (0, 40, [])]
def l_A : List LC := l_A0 ++ (l_A1 ++ (l_A2 ++ (l_A3)))
def l_B0 : List LC := [.inr (15, [vi 0, vr 137, vi 0, vr 138, vr 139, vr 140, vi 0, vi 0, vi 0, vi 0, vi 0, vi 0, vr 141, vi 0, vi 0, vi 0, vi 0, vi 0, vi 0, vr 142, vr 143, vr 144, vr 145, vr 146, vr 147, vr 148, vr 149, vr 150, vr 151, vr 152, vr 153, vr 154, vr 155, vr 156, vr 157, vr 158, vr 159, vr 160, vr 161, vr 162, vr 163, vr 164, vr 165, vr 166, vr 167, vr 168, vr 169, vr 170, vr 171, vi 0, vr 172, vi 0, vi (-1), vr 173, vi 0, vr 174, vr 175, vr 176, vr 177, vr 178, vr 179, vr 180, vi 0, vr 181, vr 182, vr 183, vr 184, vr 185, vr 186, vr 187, vi 0, vi 0, vi 0, vi 0, vi 0, vi 0, vi 0, vi 0]), .inl (1, 400, []), .inl (0, 5, []), .inl (1, 400, []), .inl (1, 400, []), .inl (0, 3, []), .inl (0, 40, []), .inl (0, 40, []), .inl (0, 40, []), .inl (0, 40, []), .inl (0, 40, []), .inl (0, 700, []), .inl (0, 700, []), .inl (0, 700, []), .inl (0, 700, []), .inl (0, 700, []), .inl (0, 700, []), .inl (0, 700, []), .inl (0, 700, []), .inl (0, 40, []), .inl (0, 40, []), .inl (0, 40, []), .inl (0, 40, []), .inl (0, 40, []), .inl (0, 40, []), .inl (0, 40, []), .inl (0, 40, []), .inl (0, 40, []), .inl (0, 40, []), .inl (0, 80, []), .inl (0, 80, []), .inl (0, 80, []), .inl (0, 3000, []), .inl (0, 3000, [])]
def l_B1 : List LC := [.inl (0, 3000, []), .inl (0, 8, []), .inl (0, 512, []), .inl (0, 2800, []), .inl (0, 700, []), .inl (0, 700, []), .inl (0, 40, []), .inl (0, 40, []), .inl (2, 40, []), .inl (2, 40, []), .inl (0, 702, []), .inl (0, 3, []), .inl (0, 3, []), .inl (0, 8, []), .inl (0, 123, []), .inl (0, 700, []), .inl (0, 301, []), .inl (2, 40, [])]
def l_B : List LC := l_hole 136 ++ (l_B0 ++ (l_B1))
theorem l_93_is : l_93 = some (203, [vr 0], [vr 0], (135, 10318), l_A) := x_eq_ok (by decide +kernel)
def l_R : List LC := l_hole 136 ++ [.inr (15, l_df 15)]
def l_125 : Option (Nat × List V2 × List V2 × PU × List LC) := l_exec 400 434 0 125 0 [vr 136, vn] [] (0, 0) l_R
theorem l_125_is : l_125 = some (434, [vr 136, vn], [], (51, 23408), l_B) := x_eq_ok (by decide +kernel)
theorem l_A_ok : l_okl 0 136 l_A = true := by decide +kernel
theorem l_B_ok : l_okl 136 188 l_B = true := by decide +kernel
