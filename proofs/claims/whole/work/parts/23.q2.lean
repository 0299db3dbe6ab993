/-! THE SECOND PURE MACHINE: numbers are whole numbers (what leaves the range of int ends it), nothing is made; the heap is what the cells hold. -/
/-- a number; a reference; nothing; a long number -/
abbrev V2 : Type := Int ⊕ (Nat ⊕ Option Int)
abbrev St : Type := Nat → Int → Int
abbrev vi (x : Int) : V2 := .inl x
abbrev vr (a : Nat) : V2 := .inr (.inl a)
abbrev vn : V2 := .inr (.inr none)
abbrev vl (x : Int) : V2 := .inr (.inr (some x))
abbrev q_R (x : Int) : Prop := -2147483648 ≤ x ∧ x ≤ 2147483647
abbrev q_I (x : Int) : Int32 := Int32.ofInt x
def q_sh (a : Nat) : (Nat × Nat) ⊕ (Nat × List (Nat × Nat)) := (q_cells[a]?).getD (.inr (0, []))
def q_ln (a : Nat) : Int := match q_sh a with | .inl (_, n) => n | .inr _ => 0
def q_ty (a : Nat) : Nat := match q_sh a with | .inl (t, _) => t | .inr _ => 9
/-- a field: the class, its kind -/
def q_fk (a k : Nat) : Option (Nat × Nat × Nat) := match q_sh a with | .inr (c, fs) => (fs[k]?).map fun s => (c, s) | .inl _ => none
def q_up (σ : St) (a : Nat) (i x : Int) : St := fun b j => if b = a ∧ j = i then x else σ b j
def q_upf (σ : St) (a : Nat) (f : Int → Int) : St := fun b j => if b = a then f j else σ b j
def q_get (σ : St) (a k : Nat) (s : Nat × Nat) : Option V2 := match s.1 with
  | 0 => some (vi (σ a k))
  | 1 => some (vr (a + s.2))
  | 2 => some (vr s.2)
  | _ => if 0 ≤ σ a k then some (vr (σ a k).toNat) else none
abbrev N2 : Type := (Nat × List V2 × List V2 × PU × St) ⊕ ((Option V2 ⊕ Nat) ⊕ (Nat × List V2 × List V2))
def q_cat (v : V2) : Nat := match v with | .inr (.inr (some _)) => 2 | _ => 1
def q_sum (st : List V2) : Nat := (st.map q_cat).sum
def q_go (t : Int) (ls st : List V2) (u : PU) (σ : St) : Option N2 := if 0 ≤ t then some (.inl (t.toNat, ls, st, u, σ)) else none
def q_cmp (c : Jvm.ClassFile.Cond) (x y : Int) : Bool := match c with
  | .eq => decide (x = y)
  | .ne => decide (¬ x = y)
  | .lt => decide (x < y)
  | .ge => decide (y ≤ x)
  | .gt => decide (y < x)
  | .le => decide (x ≤ y)
def q_take (n : Nat) (st : List V2) : Option (List V2 × List V2) := if n ≤ st.length then some ((st.take n).reverse, st.drop n) else none
def q_retOk (r : Option FieldType) (x : Int) : Bool := match r with
  | some .int => true
  | some .boolean => decide (x = 0) || decide (x = 1)
  | _ => false
def q_cpy (f g : Int → Int) (sp dp n : Int) : Int → Int := fun j => if dp ≤ j ∧ j < dp + n then f (sp + (j - dp)) else g j
def q_call (y k y' pc : Nat) (ls st : List V2) (u : PU) (σ : St) : Option N2 :=
  if q_sum st ≤ 100 ∧ pm_fits y 0 0 u = true then (match k with
  | 0 => match q_take (pm_np y' + 1) st with
    | some (.inr (.inl a) :: as, st) => (match q_sh a with
      | .inr (c, _) => if c = pm_own y' ∧ a < q_N then some (.inr (.inr (y', vr a :: as, st))) else none
      | .inl _ => none)
    | _ => none
  | 2 => (q_take (pm_np y') st).bind fun q => some (.inr (.inr (y', q.1, q.2)))
  | 5 => match st with
    | .inl b :: .inl a :: st => some (.inl (pc + 3, ls, vi (max a b) :: st, u, σ))
    | _ => none
  | 6 => match st with
    | .inl b :: .inl a :: st => some (.inl (pc + 3, ls, vi (min a b) :: st, u, σ))
    | _ => none
  | 7 => match st with
    | .inl n :: .inl dp :: .inr (.inl b) :: .inl sp :: .inr (.inl a) :: st =>
        if q_ty a = 0 ∧ q_ty b = 0 ∧ 0 ≤ sp ∧ 0 ≤ dp ∧ 0 ≤ n ∧ sp + n ≤ q_ln a ∧ dp + n ≤ q_ln b then
          some (.inl (pc + 3, ls, st, u, q_upf σ b (q_cpy (σ a) (σ b) sp dp n)))
        else none
    | _ => none
  | 8 => match st with
    | .inr (.inl a) :: st => if 2000000 ≤ a ∧ q_sum st ≤ 8 then (match pm_tx[a - 2000000]? with
      | some t => some (.inl (pc + 3, ls, vi t.length :: st, u, σ))
      | none => none) else none
    | _ => none
  | 9 => match st with
    | .inl i :: .inr (.inl a) :: st => if 2000000 ≤ a ∧ q_sum st ≤ 8 then (match pm_tx[a - 2000000]? with
      | some t => if 0 ≤ i ∧ i < t.length then some (.inl (pc + 3, ls, vi (t.getD i.toNat 0 : Nat) :: st, u, σ)) else none
      | none => none) else none
    | _ => none
  | 10 => (q_take (pm_np y') st).bind fun q => some (.inr (.inr (y', q.1, q.2)))
  | _ => none) else none
def q_push (x : Int) (pc : Nat) (ls st : List V2) (u : PU) (σ : St) : Option N2 := if q_R x then some (.inl (pc, ls, vi x :: st, u, σ)) else none
/-- an act of method y at pc; sc: the script -/
def q_act (sc : Nat × (Nat → Int32)) (y : Nat) (i : Instr) (pc : Nat) (ls st : List V2) (u : PU) (σ : St) : Option N2 :=
  match i with
  | .iconst n => q_push n (pc + 1) ls st u σ
  | .bipush n => if -128 ≤ n ∧ n ≤ 127 then some (.inl (pc + 2, ls, vi n :: st, u, σ)) else none
  | .sipush n => if -32768 ≤ n ∧ n ≤ 32767 then some (.inl (pc + 3, ls, vi n :: st, u, σ)) else none
  | .ldc idx => match pm_num (pm_own y) idx, pm_str (pm_own y) idx with
    | some v, _ => some (.inl (pc + 2, ls, vi v.toInt :: st, u, σ))
    | none, some j => some (.inl (pc + 2, ls, vr (2000000 + j) :: st, u, σ))
    | none, none => none
  | .ldc_w idx => match pm_num (pm_own y) idx, pm_str (pm_own y) idx with
    | some v, _ => some (.inl (pc + 3, ls, vi v.toInt :: st, u, σ))
    | none, some j => some (.inl (pc + 3, ls, vr (2000000 + j) :: st, u, σ))
    | none, none => none
  | .iload k => match ls[k]? with
    | some (.inl x) => some (.inl (pc + 2, ls, vi x :: st, u, σ))
    | _ => none
  | .iload_n k => match ls[k.val]? with
    | some (.inl x) => some (.inl (pc + 1, ls, vi x :: st, u, σ))
    | _ => none
  | .aload k => match ls[k]? with
    | some (.inr (.inl a)) => some (.inl (pc + 2, ls, vr a :: st, u, σ))
    | _ => none
  | .aload_n k => match ls[k.val]? with
    | some (.inr (.inl a)) => some (.inl (pc + 1, ls, vr a :: st, u, σ))
    | _ => none
  | .istore k => match st with
    | .inl x :: st => if k < ls.length then some (.inl (pc + 2, ls.set k (vi x), st, u, σ)) else none
    | _ => none
  | .istore_n k => match st with
    | .inl x :: st => if k.val < ls.length then some (.inl (pc + 1, ls.set k.val (vi x), st, u, σ)) else none
    | _ => none
  | .astore k => match st with
    | .inr (.inl x) :: st => if k < ls.length then some (.inl (pc + 2, ls.set k (vr x), st, u, σ)) else none
    | _ => none
  | .astore_n k => match st with
    | .inr (.inl x) :: st => if k.val < ls.length then some (.inl (pc + 1, ls.set k.val (vr x), st, u, σ)) else none
    | _ => none
  | .iinc k n => match ls[k]? with
    | some (.inl x) => if q_R (x + n) then some (.inl (pc + 3, ls.set k (vi (x + n)), st, u, σ)) else none
    | _ => none
  | .iadd => match st with | .inl b :: .inl a :: st => q_push (a + b) (pc + 1) ls st u σ | _ => none
  | .isub => match st with | .inl b :: .inl a :: st => q_push (a - b) (pc + 1) ls st u σ | _ => none
  | .imul => match st with | .inl b :: .inl a :: st => q_push (a * b) (pc + 1) ls st u σ | _ => none
  | .idiv => match st with | .inl b :: .inl a :: st => if 0 ≤ a ∧ 0 < b then q_push (a / b) (pc + 1) ls st u σ else none | _ => none
  | .irem => match st with | .inl b :: .inl a :: st => if 0 ≤ a ∧ 0 < b then q_push (a % b) (pc + 1) ls st u σ else none | _ => none
  | .iand => match st with | .inl b :: .inl a :: st => some (.inl (pc + 1, ls, vi (q_I a &&& q_I b).toInt :: st, u, σ)) | _ => none
  | .ior => match st with | .inl b :: .inl a :: st => some (.inl (pc + 1, ls, vi (q_I a ||| q_I b).toInt :: st, u, σ)) | _ => none
  | .ishl => match st with | .inl b :: .inl a :: st => some (.inl (pc + 1, ls, vi (q_I a <<< (q_I b &&& 31)).toInt :: st, u, σ)) | _ => none
  | .ishr => match st with | .inl b :: .inl a :: st => some (.inl (pc + 1, ls, vi (q_I a >>> (q_I b &&& 31)).toInt :: st, u, σ)) | _ => none
  | .iushr => match st with | .inl b :: .inl a :: st => some (.inl (pc + 1, ls, vi ((q_I a).toUInt32 >>> ((q_I b).toUInt32 &&& Int32.toUInt32 31)).toInt32.toInt :: st, u, σ)) | _ => none
  | .ineg => match st with | .inl a :: st => q_push (-a) (pc + 1) ls st u σ | _ => none
  | .i2b => match st with | .inl a :: st => some (.inl (pc + 1, ls, vi (q_I a).toInt8.toInt32.toInt :: st, u, σ)) | _ => none
  | .i2l => match st with | .inl a :: st => some (.inl (pc + 1, ls, vl a :: st, u, σ)) | _ => none
  | .lcmp => match st with | .inr (.inr (some b)) :: .inr (.inr (some a)) :: st => some (.inl (pc + 1, ls, vi (if b < a then 1 else if a = b then 0 else -1) :: st, u, σ)) | _ => none
  | .dup => match st with | v :: st => if q_cat v = 1 then some (.inl (pc + 1, ls, v :: v :: st, u, σ)) else none | _ => none
  | .dup2 => match st with | v :: w :: st => if q_cat v = 1 ∧ q_cat w = 1 then some (.inl (pc + 1, ls, v :: w :: v :: w :: st, u, σ)) else none | _ => none
  | .pop => match st with | v :: st => if q_cat v = 1 then some (.inl (pc + 1, ls, st, u, σ)) else none | _ => none
  | .goto off => q_go ((pc : Int) + off) ls st u σ
  | .ifCond c off => match st with
    | .inl x :: st => if 0 ≤ (pc : Int) + off then (if q_cmp c x 0 = true then q_go ((pc : Int) + off) ls st u σ else some (.inl (pc + 3, ls, st, u, σ))) else none
    | _ => none
  | .if_icmp c off => match st with
    | .inl b :: .inl a :: st => if 0 ≤ (pc : Int) + off then (if q_cmp c a b = true then q_go ((pc : Int) + off) ls st u σ else some (.inl (pc + 3, ls, st, u, σ))) else none
    | _ => none
  | .tableswitch d lo hi offs => match st with
    | .inl x :: st => if x < lo ∨ hi < x then q_go ((pc : Int) + d) ls st u σ else
      (match offs[(x - lo).toNat]? with
      | some off => q_go ((pc : Int) + off) ls st u σ
      | none => none)
    | _ => none
  | .lookupswitch d ps => match st with
    | .inl x :: st => if (ps.toList.zip (ps.toList.drop 1)).all (fun (a, next) => a.1 < next.1) = true then q_go ((pc : Int) + Op.lookupswitch.offset ps.toList d x) ls st u σ else none
    | _ => none
  | .getfield idx => match st with
    | .inr (.inl a) :: st => (match pm_fld (pm_own y) idx with
      | some (c, k) => (match q_fk a k with
        | some (c', s) => if c = c' then (match q_get σ a k s with
          | some v => some (.inl (pc + 3, ls, v :: st, u, σ))
          | none => none) else none
        | none => none)
      | none => none)
    | _ => none
  | .putfield idx => match st with
    | .inl x :: .inr (.inl a) :: st => (match pm_fld (pm_own y) idx with
      | some (c, k) => if q_fk a k = some (c, 0, 0) ∧ pm_fi c k = true ∧ pm_wr y c k = true then some (.inl (pc + 3, ls, st, u, q_up σ a k x)) else none
      | none => none)
    | .inr (.inl b) :: .inr (.inl a) :: st => (match pm_fld (pm_own y) idx with
      | some (c, k) => if q_fk a k = some (c, 3, 0) ∧ pm_fi c k = false ∧ pm_wr y c k = true ∧ b < 1000000 then some (.inl (pc + 3, ls, st, u, q_up σ a k b)) else none
      | none => none)
    | _ => none
  | .iaload => match st with
    | .inl i :: .inr (.inl a) :: st => if a = 1000000 ∧ pm_own y = 16 then (if 0 ≤ i ∧ i < sc.1 then some (.inl (pc + 1, ls, vi (sc.2 i.toNat).toInt :: st, u, σ)) else none) else
      if q_ty a = 0 ∧ 0 ≤ i ∧ i < q_ln a then some (.inl (pc + 1, ls, vi (σ a i) :: st, u, σ)) else none
    | _ => none
  | .baload => match st with
    | .inl i :: .inr (.inl a) :: st => if (q_ty a = 1 ∨ q_ty a = 2) ∧ 0 ≤ i ∧ i < q_ln a then some (.inl (pc + 1, ls, vi (σ a i) :: st, u, σ)) else none
    | _ => none
  | .laload => match st with
    | .inl i :: .inr (.inl a) :: st => if q_ty a = 3 ∧ 0 ≤ i ∧ i < q_ln a then some (.inl (pc + 1, ls, vl (σ a i) :: st, u, σ)) else none
    | _ => none
  | .aaload => match st with
    | .inl i :: .inr (.inl a) :: st => if q_ty a = 4 ∧ 0 ≤ i ∧ i < q_ln a then some (.inl (pc + 1, ls, vr (a + 1 + i.toNat) :: st, u, σ)) else none
    | _ => none
  | .iastore => match st with
    | .inl x :: .inl i :: .inr (.inl a) :: st => if q_ty a = 0 ∧ 0 ≤ i ∧ i < q_ln a then some (.inl (pc + 1, ls, st, u, q_up σ a i x)) else none
    | _ => none
  | .bastore => match st with
    | .inl x :: .inl i :: .inr (.inl a) :: st => if ((q_ty a = 1 ∧ -128 ≤ x ∧ x ≤ 127) ∨ (q_ty a = 2 ∧ (x = 0 ∨ x = 1))) ∧ 0 ≤ i ∧ i < q_ln a then some (.inl (pc + 1, ls, st, u, q_up σ a i x)) else none
    | _ => none
  | .lastore => match st with
    | .inr (.inr (some x)) :: .inl i :: .inr (.inl a) :: st => if q_ty a = 3 ∧ 0 ≤ i ∧ i < q_ln a then some (.inl (pc + 1, ls, st, u, q_up σ a i x)) else none
    | _ => none
  | .arraylength => match st with
    | .inr (.inl a) :: st => if a = 1000000 ∧ pm_own y = 16 then q_push sc.1 (pc + 1) ls st u σ else
      if q_ty a < 5 then some (.inl (pc + 1, ls, vi (q_ln a) :: st, u, σ)) else none
    | _ => none
  | .new idx => match pm_throw y pc idx with
    | some e => if q_sum st ≤ 100 ∧ pm_fits y 1 6 u = true then some (.inr (.inl (.inr e))) else none
    | none => none
  | .invokevirtual idx => match pm_mth (pm_own y) idx with
    | some (k, y') => if k = 0 ∨ k = 8 ∨ k = 9 then q_call y k y' pc ls st u σ else none
    | none => none
  | .invokestatic idx => match pm_mth (pm_own y) idx with
    | some (k, y') => if k = 2 ∨ k = 5 ∨ k = 6 ∨ k = 7 ∨ k = 10 then q_call y k y' pc ls st u σ else none
    | none => none
  | .ireturn => match st with
    | [.inl x] => if q_retOk (pm_ret y) x = true ∧ pm_fits y 0 0 u = true then some (.inr (.inl (.inl (some (vi x))))) else none
    | _ => none
  | .return_ => match st, pm_ret y with
    | [], none => if pm_fits y 0 0 u = true then some (.inr (.inl (.inl none))) else none
    | _, _ => none
  | _ => none
def q_catch (y pc e : Nat) (ls : List V2) : Option (Nat × List V2) :=
  match (pm_hh y).find? (fun x => decide (x.1 ≤ pc) && decide (pc < x.2.1) && (x.2.2.1 == e)) with
  | some x => (match pm_dec y x.2.2.2 with
    | some (.astore_n k) => if k.val < ls.length then some (x.2.2.2 + 1, ls.set k.val vn) else none
    | some (.astore k) => if k < ls.length then some (x.2.2.2 + 2, ls.set k vn) else none
    | _ => none)
  | none => none
/-- n: fuel; d: how many frames more; bb: may more be made (here it is only told) -/
def q_exec (sc : Nat × (Nat → Int32)) : Nat → Nat → Nat → Nat → List V2 → List V2 → PU → Bool → St → Option ((Option V2 ⊕ Nat) × Bool × St)
  | 0, _, _, _, _, _, _, _, _ => none
  | n + 1, d, y, pc, ls, st, u, bb, σ => match pm_dec y pc with
    | none => none
    | some i => match q_act sc y i pc ls st u σ with
      | none => none
      | some (.inl (pc', ls', st', u', σ')) => q_exec sc n d y pc' ls' st' u' bb σ'
      | some (.inr (.inl r)) => some (r, bb && r.isLeft, σ)
      | some (.inr (.inr (y', as, st'))) => match d with
        | 0 => none
        | d' + 1 => if q_sum st' ≤ 8 ∧ as.length ≤ pm_nL y' ∧ as.all (fun v => q_cat v == 1) = true ∧ pm_fits y (pm_bc y') (pm_bs y') u = true then
            (match q_exec sc n d' y' 0 (as ++ List.replicate (pm_nL y' - as.length) vn) [] (0, 0) bb σ with
            | some (.inl v, bb', σ') => q_exec sc n (d' + 1) y (pc + 3) ls (v.toList ++ st') (u.1 + pm_bc y', u.2 + pm_bs y') bb' σ'
            | some (.inr e, bb', σ') => if pm_ini y' = true then none else if pm_hh y = [] then some (.inr e, bb', σ') else
              (match q_catch y pc e ls with
              | some (pc', ls') => q_exec sc n (d' + 1) y pc' ls' [] (u.1 + pm_bc y', u.2 + pm_bs y') bb' σ'
              | none => none)
            | none => none) else none
