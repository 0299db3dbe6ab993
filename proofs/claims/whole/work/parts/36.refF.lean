/-! WHAT THE REFERENCE MAKES OF A PROGRAM, as functions of the state -/
def F_lay (S : St) (op a b : Int) : St := q_up (q_up (q_up (q_up S 168 (S 136 18) op) 169 (S 136 18) a) 170 (S 136 18) b) 136 18 (S 136 18 + 1)
def F_mk (S : St) (x how s from_ too : Int) : St :=
  q_up (q_up (q_up (q_up (q_up (q_up (q_up (q_up (q_up (q_up S 147 (S 136 15) x) 148 (S 136 15) how) 149 (S 136 15) s) 150 (S 136 15) from_) 151 (S 136 15) too) 152 (S 136 15) 0) 153 (S 136 15) (-1)) 154 (S 136 15) 0) 136 15 (S 136 15 + 1)) 171 x (S 136 15)
def F_keep (S : St) : St := q_up (q_upf S 172 (fun j => if S 136 51 ≤ j ∧ j < S 136 51 + 8 then S 171 (j - S 136 51) else S 172 j)) 136 51 (S 136 51 + 8)
def F_take (S : St) (at_ : Int) : St := q_upf S 171 (fun j => if 0 ≤ j ∧ j < 8 then S 172 (at_ + j) else S 171 j)
def q_or (m k : Int) : Int := (q_I m ||| q_I (q_I 1 <<< (q_I k &&& 31)).toInt).toInt
theorem q_or_fold {m k : Int} : (q_I m ||| q_I (q_I 1 <<< (q_I k &&& 31)).toInt).toInt = q_or m k := rfl
/-- variables told anew in k statements from s on, into a set -/
def F_told (S : St) : Nat → Int → Int → Int
  | 0, _, m => m
  | k + 1, s, m => F_told S k (s + 1) (if S 142 s = 0 ∧ ¬ S 143 s = -1 then q_or m (S 143 s) else m)
abbrev F_own (S : St) (s w : Int) : Prop := S 165 (2 * s + w) = 1 ∧ (¬ S 165 (2 * s) = 1 ∨ ¬ S 165 (2 * s + 1) = 1 ∨ ¬ S 166 (2 * s) = S 166 (2 * s + 1))
def F_look1 (S : St) (s w : Int) : St := q_up S 167 (2 * s + w) (if S 165 (2 * s + w) = 1 then S 171 (S 166 (2 * s + w)) else -1)
def F_look (S : St) (s : Int) : St := F_look1 (F_look1 S s 0) s 1
def F_side1 (S : St) (s how w : Int) : St := if F_own S s w then F_lay (F_mk S (S 166 (2 * s + w)) how s (S 167 (2 * s + w)) (-1)) 6 (S 136 15) 0 else S
def F_sides (S : St) (s how : Int) : St := F_side1 (F_side1 S s how 0) s how 1
/-- a statement begins: of which sort -/
def F_beg (S : St) (sort : Int) : St :=
  q_up (q_up (q_up (q_up (q_up (q_up S 136 14 (S 136 14 + 1)) 143 (S 136 14) (-1)) 144 (S 136 14) (-1)) 145 (S 136 14) (-1)) 146 (S 136 14) (S 136 49)) 142 (S 136 14) sort
/-- a check of row r by variable v in statement s -/
def F_chk (S : St) (s r v : Int) : St :=
  let k := S 136 16
  let S1 := q_up (q_up (q_up (q_up S 155 k s) 156 k r) 157 k (S 171 v)) 159 k (S 136 49)
  let S2 := q_up (F_mk S1 v 2 s (S1 171 v) (-1)) 158 k (S1 136 15)
  let S3 := q_up (q_up S2 144 s k) 136 16 (k + 1)
  F_lay (F_lay S3 1 k 0) 6 (S1 136 15) 0
/-- kinds of sides and values, as the reference has them -/
def F_sk (k : Int) : Int := if k = 1 then 0 else if k = 2 then 2 else 1
/-- a statement without a block -/
def F_b (x : SB) (S : St) : St :=
  let s := S 136 14
  if x.1.1 = 0 then
    let S1 := F_lay (q_up (F_beg S 0) 143 s x.1.2.1) 0 s 0
    let S2 := if x.1.2.2.1 = 4 then F_chk S1 s x.2.2.1 x.2.2.2 else S1
    let m := S2 136 15
    F_lay (q_up (q_up (q_up (F_mk S2 x.1.2.1 1 s (if x.1.2.2.1 = 3 then S2 171 x.1.2.2.2.1 else -1) (-1)) 152 m (if x.1.2.2.1 = 1 then 0 else if x.1.2.2.1 = 2 then 2 else if x.1.2.2.1 = 3 then 1 else if x.1.2.2.1 = 4 then 3 else 4))
      153 m (if x.1.2.2.1 = 2 ∨ x.1.2.2.1 = 3 then x.1.2.2.2.1 else if x.1.2.2.1 = 4 then S1 136 16 else -1)) 154 m (if x.1.2.2.1 = 5 then x.1.2.2.2.1 else x.1.2.2.2.2)) 2 m 0
  else if x.1.1 = 1 then
    let S1 := F_lay (F_beg S 1) 0 s 0
    let S2 := F_chk S1 s x.2.2.1 x.2.2.2
    F_lay (q_up S2 143 s (S2 147 (S2 157 (S1 136 16)))) 3 (S1 136 16) x.1.2.2.2.1
  else F_lay (F_lay (q_up (F_beg S 2) 143 s x.1.2.1) 0 s 0) 4 x.1.2.1 0
/-- a test of statement s -/
def F_test (S : St) (s : Int) (t : TT) : St :=
  let S1 := q_up (q_up S 165 (2 * s) (F_sk t.2.1.1)) 166 (2 * s) t.2.1.2
  let S2 := q_up S1 164 s t.1
  q_up (q_up S2 165 (2 * s + 1) (F_sk t.2.2.1)) 166 (2 * s + 1) t.2.2.2
/-- versions of the variables of a set, from x on: JOINED of s -/
def F_join (set one other s : Int) : Nat → Int → St → St
  | 0, _, S => S
  | k + 1, x, S => F_join set one other s k (x + 1) (if q_bit set x = 0 then S else F_lay (F_mk S x 5 s (S 172 (one + x)) (S 172 (other + x))) 6 (S 136 15) 0)
/-- ROUND of s -/
def F_round (set s : Int) : Nat → Int → St → St
  | 0, _, S => S
  | k + 1, x, S => F_round set s k (x + 1) (if q_bit set x = 0 then S else F_lay (F_mk S x 6 s (S 171 x) (-1)) 6 (S 136 15) 0)
/-- where the ROUND ones come from at the end of the block -/
def F_too : Nat → Int → St → St
  | 0, _, S => S
  | k + 1, v, S => F_too k (v + 1) (q_up S 151 v (S 171 (S 147 v)))
/-- if; FA, FB: its blocks -/
def F_if (t : TT) (FA FB : St → St) (S : St) : St :=
  let s := S 136 14
  let S := F_look (F_test (F_beg S 3) s t) s
  let S := F_lay S 0 s 0
  let test := S 136 18
  let S := F_lay S 5 s 0
  let ahead := S 136 51
  let S := F_keep S
  let first := S 136 14
  let S := FA (F_sides S s 3)
  let one := S 136 51
  let S := F_keep S
  let over := S 136 18
  let S := F_lay S 7 0 0
  let S := q_up S 170 test (S 136 18)
  let S := FB (F_sides (F_take S ahead) s 4)
  let other := S 136 51
  let S := F_keep S
  let S := q_up S 169 over (S 136 18)
  let S := F_take S ahead
  let S := F_join (F_told S (S 136 14 - first).toNat first 0) one other s 8 0 S
  q_up S 136 51 ahead
/-- the block gone through once, all as it was behind it: the set, the state -/
def F_dry (FA : St → St) (S : St) : Int × St :=
  let at_ := S 136 51
  let S1 := FA (F_keep S)
  let set := F_told S1 (S1 136 14 - S 136 14).toNat (S 136 14) 0
  (set, q_up (F_take (q_up (q_up (q_up (q_up (q_up (q_up S1 136 14 (S 136 14)) 136 15 (S 136 15)) 136 16 (S 136 16)) 136 17 (S 136 17)) 136 18 (S 136 18)) 136 49 (S 136 49)) at_) 136 51 at_)
/-- while -/
def F_wh (t : TT) (FA : St → St) (S : St) : St :=
  let s := S 136 14
  let S := F_beg S 4
  let l := S 136 17
  let S := q_up (q_up (q_up (q_up S 136 17 (l + 1)) 145 s l) 160 l s) 161 l (S 136 49)
  let S := q_up (F_test S s t) 136 49 l
  let set := (F_dry FA S).1
  let S := (F_dry FA S).2
  let S := q_up S 162 l (S 136 15)
  let S := F_lay S 8 l 0
  let head := S 136 18
  let first := S 136 15
  let S := F_round set s 8 0 S
  let S := q_up S 163 l (S 136 15 - first)
  let S := F_look (F_lay S 0 s 0) s
  let test := S 136 18
  let S := F_lay S 5 s 0
  let ahead := S 136 51
  let S := FA (F_sides (F_keep S) s 3)
  let S := F_lay S 7 head 0
  let S := F_too (S 163 l).toNat first S
  let S := q_up S 170 test (S 136 18)
  let S := F_sides (F_take S ahead) s 4
  let S := F_lay S 9 l 0
  q_up (q_up S 136 49 (S 161 l)) 136 51 ahead
def F_S : (d : Nat) → ST d → St → St
  | 0 => fun x S => F_b x S
  | d + 1 => fun x S => match (x : SB ⊕ ((Bool × TT) × List (ST d) × List (ST d))) with
    | .inl x => F_b x S
    | .inr y => if y.1.1 = true then F_wh y.1.2 (fun S => y.2.1.foldl (fun S x => F_S d x S) S) S else F_if y.1.2 (fun S => y.2.1.foldl (fun S x => F_S d x S) S) (fun S => y.2.2.foldl (fun S x => F_S d x S) S) S
def F_L (d : Nat) (L : List (ST d)) (S : St) : St := L.foldl (fun S x => F_S d x S) S
