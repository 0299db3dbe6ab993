/-! VERSIONS of a program, as lists: what both sides must make -/
/-- a version: variable, how, statement, from, too; the reference's value (sort, row, number); the class's plus and what is told upwards and downwards -/
abbrev VR : Type := (Int × Int × Int × Int × Int) × (Int × Int × Int) × (Int × (Int × Int × Int) × (Int × Int × Int))
/-- of a statement: its value's version; merged, merges; held, failed, sides; the versions of its sides -/
abbrev MR : Type := Int × (Int × Int) × (Int × Int × Int) × (Int × Int)
/-- of a check: looks, made, the loop around it -/
abbrev NC : Type := Int × Int × Int
/-- of a loop: first, rounds -/
abbrev NP : Type := Int × Int
abbrev CD : Type := Int × Int × Int
abbrev NO : Type := (Int → Int) × List VR × List MR × List NC × List NP × List CD
/-- s k l v c ar now -/
abbrev NF : Type := Int → Int → Int → Int → Int → Int → (Int → Int) → NO
def nz (f : Int → Int) : Int → Int := fun i => if 0 ≤ i ∧ i ≤ 7 then f i else 0
def un (f : Int → Int) (x v : Int) : Int → Int := nz (p_up f x v)
abbrev t0 : Int × Int × Int := (0, 0, 0)
def v_mk (x how s fr too : Int) : VR := ((x, how, s, fr, too), (0, -1, 0), (0, t0, t0))
def v_chk (x s fr row : Int) : VR := ((x, 2, s, fr, -1), (0, -1, 0), (0, (2, row, -1), (1, 0, 0)))
def v_val (x : SB) (s fr ck : Int) : VR := ((x.1.2.1, 1, s, fr, -1),
  ((if x.1.2.2.1 = 1 then 0 else if x.1.2.2.1 = 2 then 2 else if x.1.2.2.1 = 3 then 1 else if x.1.2.2.1 = 4 then 3 else 4), (if x.1.2.2.1 = 2 ∨ x.1.2.2.1 = 3 then x.1.2.2.2.1 else if x.1.2.2.1 = 4 then ck else -1), (if x.1.2.2.1 = 5 then x.1.2.2.2.1 else x.1.2.2.2.2)),
  ((if x.1.2.2.1 = 3 then x.1.2.2.2.2 else 0), (if x.1.2.2.1 = 1 then (1, x.1.2.2.2.2, 0) else if x.1.2.2.1 = 2 then (2, x.1.2.2.2.1, 0) else t0), (if x.1.2.2.1 = 1 then (1, x.1.2.2.2.2, 0) else if x.1.2.2.1 = 2 then (2, x.1.2.2.2.1, 0) else t0)))
/-- what an answer (how 3: it holds) tells of a side (w 0 left, 1 right): upwards, downwards -/
def v_term (t : TT) (sv0 sv1 how w : Int) : (Int × Int × Int) × (Int × Int × Int) :=
  let ok := if w = 0 then t.2.2.1 else t.2.1.1
  let on := if ok = 3 then (if w = 0 then sv1 else sv0) else (if w = 0 then t.2.2.2 else t.2.1.2)
  if t.1 = 2 then (if how = 3 then ((ok, on, 0), (ok, on, 0)) else (t0, t0))
  else if (how = 3 ∧ w = 0) ∨ (¬ how = 3 ∧ ¬ w = 0) then ((ok, on, if (t.1 = 0 ∧ how = 3) ∨ (¬ t.1 = 0 ∧ ¬ how = 3) then -1 else 0), t0)
  else (t0, (ok, on, if (t.1 = 0 ∧ how = 3) ∨ (¬ t.1 = 0 ∧ ¬ how = 3) then -1 else 0))
def v_same (t : TT) : Prop := t.2.1.1 = 3 ∧ t.2.2.1 = 3 ∧ t.2.1.2 = t.2.2.2
abbrev v_own0 (t : TT) : Prop := t.2.1.1 = 3 ∧ ¬ (t.2.1.1 = 3 ∧ t.2.2.1 = 3 ∧ t.2.1.2 = t.2.2.2)
abbrev v_own1 (t : TT) : Prop := t.2.2.1 = 3 ∧ ¬ (t.2.1.1 = 3 ∧ t.2.2.1 = 3 ∧ t.2.1.2 = t.2.2.2)
def v_s0 (t : TT) (sv0 sv1 how s : Int) : List VR := if v_own0 t then [((t.2.1.2, how, s, sv0, -1), (0, -1, 0), (0, v_term t sv0 sv1 how 0))] else []
def v_s1 (t : TT) (sv0 sv1 how s : Int) : List VR := if v_own1 t then [((t.2.2.2, how, s, sv1, -1), (0, -1, 0), (0, v_term t sv0 sv1 how 1))] else []
/-- the versions of the sides -/
def v_sd (t : TT) (sv0 sv1 how s : Int) : List VR := v_s0 t sv0 sv1 how s ++ v_s1 t sv0 sv1 how s
def v_n0 (t : TT) (v : Int) (now : Int → Int) : Int → Int := if v_own0 t then un now t.2.1.2 v else now
def v_n1 (t : TT) (v : Int) (now : Int → Int) : Int → Int := if v_own1 t then un now t.2.2.2 v else now
/-- what is looked at behind them -/
def v_sn (t : TT) (v : Int) (now : Int → Int) : Int → Int := v_n1 t (v + (if v_own0 t then 1 else 0)) (v_n0 t v now)
def v_sv (now : Int → Int) (q : Int × Int) : Int := if q.1 = 3 then now q.2 else -1
/-- DO_MAKE of so many from v on -/
def v_cd (v : Int) : Nat → List CD
  | 0 => []
  | k + 1 => (6, v, 0) :: v_cd (v + 1) k
def v_join (set : Int) (one other : Int → Int) (s : Int) : Nat → Int → List VR
  | 0, _ => []
  | k + 1, x => if q_bit set x = 0 then v_join set one other s k (x + 1) else v_mk x 5 s (one x) (other x) :: v_join set one other s k (x + 1)
def v_round (set : Int) (now fin : Int → Int) (s : Int) : Nat → Int → List VR
  | 0, _ => []
  | k + 1, x => if q_bit set x = 0 then v_round set now fin s k (x + 1) else v_mk x 6 s (now x) (fin x) :: v_round set now fin s k (x + 1)
/-- now, with versions of the set's variables from v on -/
def v_now (set : Int) : Nat → Int → Int → (Int → Int) → Int → Int
  | 0, _, _, now => now
  | k + 1, x, v, now => if q_bit set x = 0 then v_now set k (x + 1) v now else v_now set k (x + 1) (v + 1) (un now x v)
def v_many (set : Int) : Nat → Int → Nat
  | 0, _ => 0
  | k + 1, x => if q_bit set x = 0 then v_many set k (x + 1) else v_many set k (x + 1) + 1
/-- kinds and variables of statements -/
def ks_seq : List (List (Int × Int)) → List (Int × Int)
  | [] => []
  | a :: L => a ++ ks_seq L
def ks_S : (d : Nat) → ST d → List (Int × Int)
  | 0 => fun x => [((x : SB).1.1, (x : SB).1.2.1)]
  | d + 1 => fun x => match (x : SB ⊕ ((Bool × TT) × List (ST d) × List (ST d))) with
    | .inl x => [(x.1.1, x.1.2.1)]
    | .inr y => if y.1.1 = true then (4, -1) :: ks_seq (y.2.1.map (ks_S d)) else (3, -1) :: (ks_seq (y.2.1.map (ks_S d)) ++ ks_seq (y.2.2.map (ks_S d)))
def ks_L (d : Nat) (L : List (ST d)) : List (Int × Int) := ks_seq (L.map (ks_S d))
def tbits : List (Int × Int) → Int → Int
  | [], m => m
  | a :: L, m => tbits L (if a.1 = 0 ∧ ¬ a.2 = -1 then q_or m a.2 else m)
def n_seq : List NF → NF
  | [], _, _, _, _, _, _, now => (now, [], [], [], [], [])
  | g :: gs, s, k, l, v, c, ar, now =>
    let o := g s k l v c ar now
    let o' := n_seq gs (s + o.2.2.1.length) (k + o.2.2.2.1.length) (l + o.2.2.2.2.1.length) (v + o.2.1.length) (c + o.2.2.2.2.2.length) ar o.1
    (o'.1, o.2.1 ++ o'.2.1, o.2.2.1 ++ o'.2.2.1, o.2.2.2.1 ++ o'.2.2.2.1, o.2.2.2.2.1 ++ o'.2.2.2.2.1, o.2.2.2.2.2 ++ o'.2.2.2.2.2)
def m_no : MR := (-1, (-1, 0), (-1, -1, 0), (-1, -1))
def n_b (x : SB) : NF := fun s k _ v _ ar now =>
  if x.1.1 = 0 then
    (if x.1.2.2.1 = 4 then
      (un (un now x.2.2.2 v) x.1.2.1 (v + 1), [v_chk x.2.2.2 s (now x.2.2.2) x.2.2.1, v_val x s (-1) k], [(v + 1, m_no.2)], [(now x.2.2.2, v, ar)], [], [(0, s, 0), (1, k, 0), (6, v, 0), (2, v + 1, 0)])
    else (un now x.1.2.1 v, [v_val x s (if x.1.2.2.1 = 3 then now x.1.2.2.2.1 else -1) k], [(v, m_no.2)], [], [], [(0, s, 0), (2, v, 0)]))
  else if x.1.1 = 1 then (un now x.2.2.2 v, [v_chk x.2.2.2 s (now x.2.2.2) x.2.2.1], [m_no], [(now x.2.2.2, v, ar)], [], [(0, s, 0), (1, k, 0), (6, v, 0), (3, k, x.1.2.2.2.1)])
  else (now, [], [m_no], [], [], [(0, s, 0), (4, x.1.2.1, 0)])
def n_if (t : TT) (set : Int) (A B : NF) : NF := fun s k l v c ar now =>
  let sv0 := v_sv now t.2.1
  let sv1 := v_sv now t.2.2
  let H := v_sd t sv0 sv1 3 s
  let a := A (s + 1) k l (v + H.length) (c + 2 + H.length) ar (v_sn t v now)
  let vF := v + H.length + a.2.1.length
  let cF := c + 2 + H.length + a.2.2.2.2.2.length + 1
  let F := v_sd t sv0 sv1 4 s
  let b := B (s + 1 + a.2.2.1.length) (k + a.2.2.2.1.length) (l + a.2.2.2.2.1.length) (vF + F.length) (cF + F.length) ar (v_sn t vF now)
  let vJ := vF + F.length + b.2.1.length
  let cJ := cF + F.length + b.2.2.2.2.2.length
  let J := v_join set a.1 b.1 s 8 0
  (v_now set 8 0 vJ now, H ++ (a.2.1 ++ (F ++ (b.2.1 ++ J))), (-1, (vJ, J.length), (v, vF, H.length), (sv0, sv1)) :: (a.2.2.1 ++ b.2.2.1), a.2.2.2.1 ++ b.2.2.2.1, a.2.2.2.2.1 ++ b.2.2.2.2.1,
    (0, s, 0) :: (5, s, cF) :: (v_cd v H.length ++ (a.2.2.2.2.2 ++ ((7, cJ, 0) :: (v_cd vF F.length ++ (b.2.2.2.2.2 ++ v_cd vJ J.length))))))
def n_wh (t : TT) (set : Int) (A : NF) : NF := fun s k l v c ar now =>
  let nR := v_many set 8 0
  let now1 := v_now set 8 0 v now
  let sv0 := v_sv now1 t.2.1
  let sv1 := v_sv now1 t.2.2
  let vH := v + nR
  let cH := c + 1 + nR + 2
  let H := v_sd t sv0 sv1 3 s
  let a := A (s + 1) k (l + 1) (vH + H.length) (cH + H.length) l (v_sn t vH now1)
  let vF := vH + H.length + a.2.1.length
  let cF := cH + H.length + a.2.2.2.2.2.length + 1
  let F := v_sd t sv0 sv1 4 s
  (v_sn t vF now1, v_round set now a.1 s 8 0 ++ (H ++ (a.2.1 ++ F)), (-1, (v, (nR : Int)), (vH, vF, H.length), (sv0, sv1)) :: a.2.2.1, a.2.2.2.1, (v, (nR : Int)) :: a.2.2.2.2.1,
    (8, l, 0) :: (v_cd v nR ++ ((0, s, 0) :: (5, s, cF) :: (v_cd vH H.length ++ (a.2.2.2.2.2 ++ ((7, c + 1, 0) :: (v_cd vF F.length ++ [(9, l, 0)])))))))
def n_S : (d : Nat) → ST d → NF
  | 0 => fun x => n_b x
  | d + 1 => fun x => match (x : SB ⊕ ((Bool × TT) × List (ST d) × List (ST d))) with
    | .inl x => n_b x
    | .inr y => if y.1.1 = true then n_wh y.1.2 (tbits (ks_L d y.2.1) 0) (n_seq (y.2.1.map (n_S d))) else n_if y.1.2 (tbits (ks_L d y.2.1 ++ ks_L d y.2.2) 0) (n_seq (y.2.1.map (n_S d))) (n_seq (y.2.2.map (n_S d)))
def n_LL (d : Nat) (L : List (ST d)) : NF := n_seq (L.map (n_S d))
/-! programs as they may be -/
def VALb (pl : Int → Int) (x : SB) : Prop :=
  (0 ≤ x.1.2.1 ∧ x.1.2.1 ≤ 7) ∧
  ((x.1.1 = 0 ∧ ((x.1.2.2.1 = 1 ∧ x.1.2.2.2.1 = -1 ∧ -99 ≤ x.1.2.2.2.2 ∧ x.1.2.2.2.2 ≤ 99 ∧ x.2 = p_no) ∨ (x.1.2.2.1 = 2 ∧ 0 ≤ x.1.2.2.2.1 ∧ x.1.2.2.2.1 ≤ 2 ∧ ¬ pl x.1.2.2.2.1 = -1 ∧ x.1.2.2.2.2 = 0 ∧ x.2 = p_no) ∨ (x.1.2.2.1 = 3 ∧ 0 ≤ x.1.2.2.2.1 ∧ x.1.2.2.2.1 ≤ 7 ∧ -99 ≤ x.1.2.2.2.2 ∧ x.1.2.2.2.2 ≤ 99 ∧ x.2 = p_no) ∨ (x.1.2.2.1 = 4 ∧ x.1.2.2.2.1 = -1 ∧ x.1.2.2.2.2 = 0 ∧ x.2.1 = 1 ∧ 0 ≤ x.2.2.1 ∧ x.2.2.1 ≤ 2 ∧ ¬ pl x.2.2.1 = -1 ∧ 0 ≤ x.2.2.2 ∧ x.2.2.2 ≤ 7) ∨ (x.1.2.2.1 = 5 ∧ 0 ≤ x.1.2.2.2.1 ∧ x.1.2.2.2.1 ≤ 2 ∧ x.1.2.2.2.2 = 0 ∧ x.2 = p_no)))
  ∨ (x.1.1 = 1 ∧ x.1.2.1 = x.2.2.2 ∧ x.1.2.2.1 = 0 ∧ 0 ≤ x.1.2.2.2.1 ∧ x.1.2.2.2.1 ≤ 7 ∧ x.1.2.2.2.2 = 0 ∧ x.2.1 = 1 ∧ 0 ≤ x.2.2.1 ∧ x.2.2.1 ≤ 2 ∧ ¬ pl x.2.2.1 = -1)
  ∨ (x.1.1 = 2 ∧ x.1.2.2.1 = 0 ∧ x.1.2.2.2.1 = -1 ∧ x.1.2.2.2.2 = 0 ∧ x.2 = p_no))
def VALs (pl : Int → Int) (q : Int × Int) : Prop := (q.1 = 1 ∧ 0 ≤ q.2 ∧ q.2 ≤ 99) ∨ (q.1 = 2 ∧ 0 ≤ q.2 ∧ q.2 ≤ 2 ∧ ¬ pl q.2 = -1) ∨ (q.1 = 3 ∧ 0 ≤ q.2 ∧ q.2 ≤ 7)
def VALt (pl : Int → Int) (t : TT) : Prop := (t.1 = 0 ∨ t.1 = 1 ∨ t.1 = 2) ∧ VALs pl t.2.1 ∧ VALs pl t.2.2
def VALl {α : Type} (ok : α → Prop) : List α → Prop
  | [] => True
  | x :: L => ok x ∧ VALl ok L
def VALS (pl : Int → Int) : (d : Nat) → ST d → Prop
  | 0 => fun x => VALb pl x
  | d + 1 => fun x => match (x : SB ⊕ ((Bool × TT) × List (ST d) × List (ST d))) with
    | .inl x => VALb pl x
    | .inr y => VALt pl y.1.2 ∧ VALl (VALS pl d) y.2.1 ∧ VALl (VALS pl d) y.2.2
