/-! PROGRAMS, and how a text is read -/
/-- a statement without a block: kind (0 VARIABLE = .., 1 ROW [..] = .., 2 out), its variable, the value's form (1 number, 2 length, 3 variable, 4 element, 5 input; 0), source, number; its check: 1 (or 0), row, variable -/
abbrev SB : Type := (Int × Int × Int × Int × Int) × (Int × Int × Int)
/-- a test: 0 <, 1 <=, 2 =; its sides: 1 number, 2 length, 3 variable, and which -/
abbrev TT : Type := Int × (Int × Int) × (Int × Int)
/-- statements with at most d blocks within one another; true: while -/
def ST : Nat → Type
  | 0 => SB
  | d + 1 => SB ⊕ ((Bool × TT) × List (ST d) × List (ST d))
/-- a fault's place; or what was read, and the place of what comes next -/
abbrev PX (α : Type) : Type := Int ⊕ (α × Int)
def p_b {α β : Type} (x : PX α) (g : α → Int → PX β) : PX β := match x with
  | .inl q => .inl q
  | .inr (a, p) => g a p
section PS
variable (f : Int → Int) (n : Int) (pl : Int → Int)
def p_sg (c p : Int) : PX Unit := if tk f n p = c then .inr ((), nx f n p) else .inl p
def p_va (p : Int) : PX Int := if 97 ≤ tk f n p ∧ tk f n p ≤ 104 then .inr (tk f n p - 97, nx f n p) else .inl p
def p_ro (p : Int) : PX Int := if (65 ≤ tk f n p ∧ tk f n p ≤ 67) ∧ ¬ pl (tk f n p - 65) = -1 then .inr (tk f n p - 65, nx f n p) else .inl p
def p_nu (most p : Int) : PX Int := if tk f n p = 262 ∧ tw f n p ≤ most then .inr (tw f n p, nx f n p) else .inl p
/-- ROW [ VARIABLE ] -/
def p_el (p : Int) : PX (Int × Int) := p_b (p_ro f n pl p) fun r p => p_b (p_sg f n 91 p) fun _ p => p_b (p_va f n p) fun v p => p_b (p_sg f n 93 p) fun _ p => .inr ((r, v), p)
abbrev p_no : Int × Int × Int := (0, -1, -1)
def p_vl (p : Int) : PX ((Int × Int × Int) × (Int × Int × Int)) :=
  if tk f n p = 262 then p_b (p_nu f n 99 p) fun v p => .inr (((1, -1, v), p_no), p)
  else if tk f n p = 45 then p_b (p_nu f n 99 (nx f n p)) fun v p => .inr (((1, -1, -v), p_no), p)
  else if tk f n p = 35 then p_b (p_ro f n pl (nx f n p)) fun r p => .inr (((2, r, 0), p_no), p)
  else if tk f n p = 261 then p_b (p_nu f n 2 (nx f n p)) fun d p => .inr (((5, d, 0), p_no), p)
  else if 65 ≤ tk f n p ∧ tk f n p ≤ 67 then p_b (p_el f n pl p) fun e p => .inr (((4, -1, 0), (1, e.1, e.2)), p)
  else p_b (p_va f n p) fun v p =>
    if tk f n p = 43 then p_b (p_nu f n 99 (nx f n p)) fun w p => .inr (((3, v, w), p_no), p)
    else if tk f n p = 45 then p_b (p_nu f n 99 (nx f n p)) fun w p => .inr (((3, v, -w), p_no), p)
    else .inr (((3, v, 0), p_no), p)
def p_sd (p : Int) : PX (Int × Int) :=
  if tk f n p = 262 then p_b (p_nu f n 99 p) fun v p => .inr ((1, v), p)
  else if tk f n p = 35 then p_b (p_ro f n pl (nx f n p)) fun r p => .inr ((2, r), p)
  else p_b (p_va f n p) fun v p => .inr ((3, v), p)
def p_re (p : Int) : PX Int := if tk f n p = 60 then .inr (0, nx f n p) else if tk f n p = 263 then .inr (1, nx f n p) else if tk f n p = 61 then .inr (2, nx f n p) else .inl p
def p_te (p : Int) : PX TT := p_b (p_sd f n pl p) fun l p => p_b (p_re f n p) fun b p => p_b (p_sd f n pl p) fun r p => .inr ((b, l, r), p)
def p_out (p : Int) : PX SB := p_b (p_va f n (nx f n p)) fun v p => p_b (p_sg f n 59 p) fun _ p => .inr (((2, v, 0, -1, 0), p_no), p)
def p_sto (p : Int) : PX SB := p_b (p_el f n pl p) fun e p => p_b (p_sg f n 61 p) fun _ p => p_b (p_va f n p) fun v p => p_b (p_sg f n 59 p) fun _ p => .inr (((1, e.2, 0, v, 0), (1, e.1, e.2)), p)
def p_asg (p : Int) : PX SB := p_b (p_va f n p) fun v p => p_b (p_sg f n 61 p) fun _ p => p_b (p_vl f n pl p) fun w p => p_b (p_sg f n 59 p) fun _ p => .inr (((0, v, w.1.1, w.1.2.1, w.1.2.2), w.2), p)
section PG
variable {α β : Type} (sb : SB → α) (cp : Bool → TT → β → β → α) (e0 : β) (blk : Int → Int → PX (β × Int))
def p_if (cnt p : Int) : PX (α × Int) := p_b (p_te f n pl (nx f n p)) fun t p => p_b (blk (cnt + 1) p) fun A p =>
    if tk f n p = 259 then p_b (blk A.2 (nx f n p)) fun B p => .inr ((cp false t A.1 B.1, B.2), p) else .inr ((cp false t A.1 e0, A.2), p)
def p_wh (cnt p : Int) : PX (α × Int) := p_b (p_te f n pl (nx f n p)) fun t p => p_b (blk (cnt + 1) p) fun A p => .inr ((cp true t A.1 e0, A.2), p)
/-- a statement, with cnt ahead of it: it, and how many there are behind it -/
def p_s1 (cnt p : Int) : PX (α × Int) :=
  if tk f n p = 257 then p_b (p_out f n p) fun x p => .inr ((sb x, cnt + 1), p)
  else if tk f n p = 258 then p_if f n pl cp e0 blk cnt p
  else if tk f n p = 260 then p_wh f n pl cp e0 blk cnt p
  else if 65 ≤ tk f n p ∧ tk f n p ≤ 67 then p_b (p_sto f n pl p) fun x p => .inr ((sb x, cnt + 1), p)
  else p_b (p_asg f n pl p) fun x p => .inr ((sb x, cnt + 1), p)
def p_ls : Nat → Int → Int → PX (List α × Int)
  | 0, _, p => .inl p
  | k + 1, cnt, p => if tk f n p = -1 ∨ tk f n p = 125 then .inr (([], cnt), p) else if 40 ≤ cnt then .inl p else
    p_b (p_s1 f n pl sb cp e0 blk cnt p) fun x p => p_b (p_ls k x.2 p) fun L p => .inr ((x.1 :: L.1, L.2), p)
end PG
def p_bk {γ : Type} (g : Int → Int → PX (γ × Int)) (cnt p : Int) : PX (γ × Int) :=
  if tk f n p = 123 then p_b (g cnt (nx f n p)) fun L p => p_b (p_sg f n 125 p) fun _ p => .inr (L, p) else .inl p
def p_L : (d : Nat) → Int → Int → PX (List (ST d) × Int)
  | 0 => p_ls f n pl (α := ST 0) (β := Unit) (fun x => x) (fun _ _ _ _ => ((0, 0, 0, 0, 0), p_no)) () (fun _ p => .inl p) 41
  | d + 1 => p_ls f n pl (α := ST (d + 1)) (β := List (ST d)) (fun x => .inl x) (fun w t A B => .inr ((w, t), A, B)) [] (p_bk f n (p_L d)) 41
end PS
def p_up (pl : Int → Int) (r v : Int) : Int → Int := fun i => if i = r then v else pl i
/-- the rows that are told -/
def p_rs (f : Int → Int) (n : Int) : Nat → (Int → Int) → Int → PX (Int → Int)
  | 0, _, p => .inl p
  | k + 1, pl, p => if tk f n p = 256 then
      (if (65 ≤ tk f n (nx f n p) ∧ tk f n (nx f n p) ≤ 67) ∧ pl (tk f n (nx f n p) - 65) = -1 then
        p_b (p_nu f n 20 (nx f n (nx f n p))) fun v q => p_b (p_sg f n 59 q) fun _ q => p_rs f n k (p_up pl (tk f n (nx f n p) - 65) v) q
      else .inl (nx f n p))
    else .inr (pl, p)
/-- a whole text: the rows, the statements, how many -/
def p_P (f : Int → Int) (n : Int) : PX ((Int → Int) × List (ST 5) × Int) :=
  p_b (p_rs f n 4 (fun _ => -1) (sk f n 0)) fun pl p => p_b (p_L f n pl 5 0 p) fun L p => if tk f n p = -1 then .inr ((pl, L.1, L.2), p) else .inl p
