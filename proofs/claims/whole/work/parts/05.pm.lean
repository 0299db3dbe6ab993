/-! THE PURE MACHINE: values of the real one, but a reference is a cell's number (0, 1 .. in the order of making; 1000000 the script; 2000000 + j the j-th text). -/
abbrev PE : Type := (Nat × vp_A) ⊕ (Nat × List Value)
abbrev PH : Type := Nat → PE
/-- how many cells there are; may more be made -/
abbrev PG : Type := Nat × Bool
/-- cells and slots made so far, in this method -/
abbrev PU : Type := Nat × Nat
/-- how a method ended (a value, or an exception's number), the cells, the heap -/
abbrev PR : Type := (Option Value ⊕ Nat) × PG × PH
/-- an act: on to a place; or an end; or a call (method, arguments, the stack below) -/
abbrev PN : Type := (Nat × List Value × List Value × PU × PG × PH) ⊕ ((Option Value ⊕ Nat) ⊕ (Nat × List Value × List Value))
def pm_up (h : PH) (a : Nat) (e : PE) : PH := fun j => if j = a then e else h j
def pm_obj (g : PG) (h : PH) (a : Nat) : Option (Nat × List Value) := if a < g.1 then (match h a with | .inr o => some o | .inl _ => none) else none
def pm_arr (g : PG) (h : PH) (a : Nat) : Option (Nat × vp_A) := if a < g.1 then (match h a with | .inl o => some o | .inr _ => none) else none
def pm_in (i : Int32) (n : Nat) : Bool := decide (¬ (i < 0 ∨ n ≤ i.toNatClampNeg))
def pm_cmp (c : Jvm.ClassFile.Cond) (x y : Int32) : Bool := match c with
  | .eq => decide (x = y)
  | .ne => decide (¬ x = y)
  | .lt => decide (x < y)
  | .ge => decide (y ≤ x)
  | .gt => decide (y < x)
  | .le => decide (x ≤ y)
def pm_fld (own idx : Nat) : Option (Nat × Nat) := (pm_ft.find? (fun e => e.1.1 == own && e.1.2 == idx)).map (·.2)
def pm_mth (own idx : Nat) : Option (Nat × Nat) := (pm_mt.find? (fun e => e.1.1 == own && e.1.2 == idx)).map (·.2)
def pm_new (own idx : Nat) : Option Nat := (pm_nt.find? (fun e => e.1.1 == own && e.1.2 == idx)).map (·.2)
def pm_num (own idx : Nat) : Option Int32 := (pm_it.find? (fun e => e.1.1 == own && e.1.2 == idx)).map (·.2)
def pm_str (own idx : Nat) : Option Nat := pm_st.findIdx? (fun e => e.1 == own && e.2 == idx)
def pm_thr (idx ic : Nat) : Option Nat := (pm_xt.find? (fun e => e.1 == idx && e.2.1 == ic)).map (·.2.2)
/-- the marker of a local that holds nothing -/
abbrev pm_no : Value := .float 0
def pm_go (t : Int) (ls st : List Value) (u : PU) (g : PG) (h : PH) : Option PN := if 0 ≤ t then some (.inl (t.toNat, ls, st, u, g, h)) else none
/-- how long an instruction is, in the form that is walked -/
def pm_ln (i : Instr) (len : Nat) : Nat := match i with
  | .bipush _ | .ldc _ | .iload _ | .aload _ | .istore _ | .astore _ | .newarray _ => 2
  | .sipush _ | .ldc_w _ | .iinc _ _ | .goto _ | .ifCond _ _ | .if_icmp _ _ | .getfield _ | .putfield _ | .new _ | .invokevirtual _ | .invokespecial _ | .invokestatic _ => 3
  | .multianewarray _ _ => 4
  | .tableswitch _ _ _ _ | .lookupswitch _ _ => len
  | _ => 1
def pm_dec (y pc : Nat) : Option Instr := match decode (pm_code y) pc with
  | .ok q => if q.2 = pm_ln q.1 q.2 then some q.1 else none
  | .error _ => none
theorem pm_dec_ok {y pc : Nat} {i : Instr} (h : pm_dec y pc = some i) : ∃ len, len = pm_ln i len ∧ decode (pm_code y) pc = .ok (i, len) := by
  unfold pm_dec at h
  split at h
  · rename_i q hq
    split at h
    · rename_i hl
      cases h
      exact ⟨q.2, hl, hq⟩
    · cases h
  · cases h
/-- what is taken from the stack for a call: the arguments in their order, the rest -/
def pm_take (n : Nat) (st : List Value) : Option (List Value × List Value) := if n ≤ st.length then some ((st.take n).reverse, st.drop n) else none
def pm_sum (st : List Value) : Nat := (st.map fun v => v.category).sum
def pm_fits (y : Nat) (bc bs : Nat) (u : PU) : Bool := decide (u.1 + bc ≤ pm_bc y) && decide (u.2 + bs ≤ pm_bs y)
def pm_ty (a : ArrayType) : Option (Nat × vp_A) := match a with
  | .int => some (0, 0, .inl fun _ => 0)
  | .byte => some (1, 0, .inl fun _ => 0)
  | .boolean => some (2, 0, .inl fun _ => 0)
  | .long => some (3, 0, .inr (.inl fun _ => 0))
  | _ => none
/-- a throw of a new exception that stands from pc on: its number -/
def pm_throw (y pc idx : Nat) : Option Nat :=
  if pm_own y = 14 then
    match pm_dec y (pc + 3), pm_dec y (pc + 4), pm_dec y (pc + 6), pm_dec y (pc + 9), pm_dec y (pc + 7), pm_dec y (pc + 10) with
    | some .dup, some (.ldc is), some (.invokespecial ic), some .athrow, _, _ => if is ∈ pm_xm then pm_thr idx ic else none
    | some .dup, some (.ldc_w is), _, _, some (.invokespecial ic), some .athrow => if is ∈ pm_xm then pm_thr idx ic else none
    | _, _, _, _, _, _ => none
  else none
def pm_retOk (r : Option FieldType) (x : Int32) : Bool := match r with
  | some .int => true
  | some .boolean => decide (x = 0) || decide (x = 1)
  | _ => false
/-- a call -/
def pm_call (y : Nat) (k : Nat) (y' pc : Nat) (ls st : List Value) (u : PU) (g : PG) (h : PH) : Option PN :=
  if pm_sum st ≤ 100 ∧ pm_fits y 0 0 u = true then (match k with
  | 0 => match pm_take (pm_np y' + 1) st with
    | some (.ref a :: as, st) => (match pm_obj g h a with
      | some (c, _) => if c = pm_own y' then some (.inr (.inr (y', .ref a :: as, st))) else none
      | none => none)
    | _ => none
  | 1 => (pm_take (pm_np y' + 1) st).bind fun q => match q with | (.ref a :: as, st) => some (.inr (.inr (y', .ref a :: as, st))) | _ => none
  | 2 => (pm_take (pm_np y') st).bind fun q => some (.inr (.inr (y', q.1, q.2)))
  | 3 => (pm_take (pm_np y' + 1) st).bind fun q => match q with | (.ref a :: as, st) => some (.inr (.inr (y', .ref a :: as, st))) | _ => none
  | 4 => match st with
    | .ref _ :: st => some (.inl (pc + 3, ls, st, u, g, h))
    | _ => none
  | 5 => match st with
    | .int b :: .int a :: st => some (.inl (pc + 3, ls, .int (if a < b then b else a) :: st, u, g, h))
    | _ => none
  | 6 => match st with
    | .int b :: .int a :: st => some (.inl (pc + 3, ls, .int (if b < a then b else a) :: st, u, g, h))
    | _ => none
  | 7 => match st with
    | .int n :: .int dp :: .ref b :: .int sp :: .ref a :: st => (match pm_arr g h a, pm_arr g h b with
      | some (0, n0, .inl f), some (0, n1, .inl f') =>
        if ¬ sp < 0 ∧ ¬ dp < 0 ∧ ¬ n < 0 ∧ sp.toNatClampNeg + n.toNatClampNeg ≤ n0 ∧ dp.toNatClampNeg + n.toNatClampNeg ≤ n1 then
          some (.inl (pc + 3, ls, st, u, g, pm_up h b (.inl (0, n1, .inl (va_cpy f f' sp.toNatClampNeg dp.toNatClampNeg n.toNatClampNeg)))))
        else none
      | _, _ => none)
    | _ => none
  | 8 => match st with
    | .ref a :: st => if 2000000 ≤ a ∧ pm_sum st ≤ 8 then (match pm_tx[a - 2000000]? with
      | some t => some (.inl (pc + 3, ls, .int (nI t.length) :: st, u, g, h))
      | none => none) else none
    | _ => none
  | 9 => match st with
    | .int i :: .ref a :: st => if 2000000 ≤ a ∧ pm_sum st ≤ 8 then (match pm_tx[a - 2000000]? with
      | some t => if pm_in i t.length then some (.inl (pc + 3, ls, .int (nI (t.getD i.toNatClampNeg 0)) :: st, u, g, h)) else none
      | none => none) else none
    | _ => none
  | 10 => (pm_take (pm_np y') st).bind fun q => some (.inr (.inr (y', q.1, q.2)))
  | _ => none) else none
/-- a field that may be written in method y -/
def pm_wr (y c k : Nat) : Bool := match vwCl[c]? with
  | some q => !(q.2.1 k).2.2.2 || (pm_ini y && pm_own y == c)
  | none => false
/-- an act of method y at pc; sc: the script -/
def pm_act (sc : Nat × (Nat → Int32)) (y : Nat) (i : Instr) (pc : Nat) (ls st : List Value) (u : PU) (g : PG) (h : PH) : Option PN :=
  match i with
  | .iconst n => some (.inl (pc + 1, ls, .int (Int32.ofInt n) :: st, u, g, h))
  | .bipush n => some (.inl (pc + 2, ls, .int (Int8.ofInt n).toInt32 :: st, u, g, h))
  | .sipush n => some (.inl (pc + 3, ls, .int (Int16.ofInt n).toInt32 :: st, u, g, h))
  | .ldc idx => match pm_num (pm_own y) idx, pm_str (pm_own y) idx with
    | some v, _ => some (.inl (pc + 2, ls, .int v :: st, u, g, h))
    | none, some j => some (.inl (pc + 2, ls, .ref (2000000 + j) :: st, u, g, h))
    | none, none => none
  | .ldc_w idx => match pm_num (pm_own y) idx, pm_str (pm_own y) idx with
    | some v, _ => some (.inl (pc + 3, ls, .int v :: st, u, g, h))
    | none, some j => some (.inl (pc + 3, ls, .ref (2000000 + j) :: st, u, g, h))
    | none, none => none
  | .iload k => match ls[k]? with
    | some (.int x) => some (.inl (pc + 2, ls, .int x :: st, u, g, h))
    | _ => none
  | .iload_n k => match ls[k.val]? with
    | some (.int x) => some (.inl (pc + 1, ls, .int x :: st, u, g, h))
    | _ => none
  | .aload k => match ls[k]? with
    | some (.ref a) => some (.inl (pc + 2, ls, .ref a :: st, u, g, h))
    | _ => none
  | .aload_n k => match ls[k.val]? with
    | some (.ref a) => some (.inl (pc + 1, ls, .ref a :: st, u, g, h))
    | _ => none
  | .istore k => match st with
    | .int x :: st => if k < ls.length then some (.inl (pc + 2, ls.set k (.int x), st, u, g, h)) else none
    | _ => none
  | .istore_n k => match st with
    | .int x :: st => if k.val < ls.length then some (.inl (pc + 1, ls.set k.val (.int x), st, u, g, h)) else none
    | _ => none
  | .astore k => match st with
    | .ref x :: st => if k < ls.length then some (.inl (pc + 2, ls.set k (.ref x), st, u, g, h)) else none
    | _ => none
  | .astore_n k => match st with
    | .ref x :: st => if k.val < ls.length then some (.inl (pc + 1, ls.set k.val (.ref x), st, u, g, h)) else none
    | _ => none
  | .iinc k n => match ls[k]? with
    | some (.int x) => some (.inl (pc + 3, ls.set k (.int (x + Int32.ofInt n)), st, u, g, h))
    | _ => none
  | .iadd => match st with | .int b :: .int a :: st => some (.inl (pc + 1, ls, .int (a + b) :: st, u, g, h)) | _ => none
  | .isub => match st with | .int b :: .int a :: st => some (.inl (pc + 1, ls, .int (a - b) :: st, u, g, h)) | _ => none
  | .imul => match st with | .int b :: .int a :: st => some (.inl (pc + 1, ls, .int (a * b) :: st, u, g, h)) | _ => none
  | .idiv => match st with | .int b :: .int a :: st => if b = 0 then none else some (.inl (pc + 1, ls, .int (a / b) :: st, u, g, h)) | _ => none
  | .irem => match st with | .int b :: .int a :: st => if b = 0 then none else some (.inl (pc + 1, ls, .int (a - a / b * b) :: st, u, g, h)) | _ => none
  | .iand => match st with | .int b :: .int a :: st => some (.inl (pc + 1, ls, .int (a &&& b) :: st, u, g, h)) | _ => none
  | .ior => match st with | .int b :: .int a :: st => some (.inl (pc + 1, ls, .int (a ||| b) :: st, u, g, h)) | _ => none
  | .ishl => match st with | .int b :: .int a :: st => some (.inl (pc + 1, ls, .int (a <<< (b &&& 31)) :: st, u, g, h)) | _ => none
  | .ishr => match st with | .int b :: .int a :: st => some (.inl (pc + 1, ls, .int (a >>> (b &&& 31)) :: st, u, g, h)) | _ => none
  | .iushr => match st with | .int b :: .int a :: st => some (.inl (pc + 1, ls, .int (a.toUInt32 >>> (b.toUInt32 &&& Int32.toUInt32 31)).toInt32 :: st, u, g, h)) | _ => none
  | .ineg => match st with | .int a :: st => some (.inl (pc + 1, ls, .int (-a) :: st, u, g, h)) | _ => none
  | .i2b => match st with | .int a :: st => some (.inl (pc + 1, ls, .int a.toInt8.toInt32 :: st, u, g, h)) | _ => none
  | .i2l => match st with | .int a :: st => some (.inl (pc + 1, ls, .long a.toInt64 :: st, u, g, h)) | _ => none
  | .lcmp => match st with | .long b :: .long a :: st => some (.inl (pc + 1, ls, .int (lg_cmp a b) :: st, u, g, h)) | _ => none
  | .dup => match st with | v :: st => if v.category = 1 then some (.inl (pc + 1, ls, v :: v :: st, u, g, h)) else none | _ => none
  | .dup2 => match st with | v :: w :: st => if v.category = 1 ∧ w.category = 1 then some (.inl (pc + 1, ls, v :: w :: v :: w :: st, u, g, h)) else none | _ => none
  | .pop => match st with | v :: st => if v.category = 1 then some (.inl (pc + 1, ls, st, u, g, h)) else none | _ => none
  | .goto off => pm_go ((pc : Int) + off) ls st u g h
  | .ifCond c off => match st with
    | .int x :: st => if 0 ≤ (pc : Int) + off then (if pm_cmp c x 0 = true then pm_go ((pc : Int) + off) ls st u g h else some (.inl (pc + 3, ls, st, u, g, h))) else none
    | _ => none
  | .if_icmp c off => match st with
    | .int b :: .int a :: st => if 0 ≤ (pc : Int) + off then (if pm_cmp c a b = true then pm_go ((pc : Int) + off) ls st u g h else some (.inl (pc + 3, ls, st, u, g, h))) else none
    | _ => none
  | .tableswitch d lo hi offs => match st with
    | .int x :: st => if x.toInt < lo ∨ hi < x.toInt then pm_go ((pc : Int) + d) ls st u g h else
      (match offs[(x.toInt - lo).toNat]? with
      | some off => pm_go ((pc : Int) + off) ls st u g h
      | none => none)
    | _ => none
  | .lookupswitch d ps => match st with
    | .int x :: st => if (ps.toList.zip (ps.toList.drop 1)).all (fun (a, next) => a.1 < next.1) = true then pm_go ((pc : Int) + Op.lookupswitch.offset ps.toList d x.toInt) ls st u g h else none
    | _ => none
  | .getfield idx => match st with
    | .ref a :: st => (match pm_fld (pm_own y) idx, pm_obj g h a with
      | some (c, k), some (c', fs) => if c = c' then (match fs[k]? with
        | some v => some (.inl (pc + 3, ls, v :: st, u, g, h))
        | none => none) else none
      | _, _ => none)
    | _ => none
  | .putfield idx => match st with
    | .int x :: .ref a :: st => (match pm_fld (pm_own y) idx, pm_obj g h a with
      | some (c, k), some (c', fs) => if c = c' ∧ k < fs.length ∧ pm_fi c k = true ∧ pm_wr y c k = true then some (.inl (pc + 3, ls, st, u, g, pm_up h a (.inr (c, fs.set k (.int x))))) else none
      | _, _ => none)
    | .ref x :: .ref a :: st => (match pm_fld (pm_own y) idx, pm_obj g h a with
      | some (c, k), some (c', fs) => if c = c' ∧ k < fs.length ∧ pm_fi c k = false ∧ pm_wr y c k = true then some (.inl (pc + 3, ls, st, u, g, pm_up h a (.inr (c, fs.set k (.ref x))))) else none
      | _, _ => none)
    | _ => none
  | .iaload => match st with
    | .int i :: .ref a :: st => if a = 1000000 then (if pm_in i sc.1 then some (.inl (pc + 1, ls, .int (sc.2 i.toNatClampNeg) :: st, u, g, h)) else none) else
      (match pm_arr g h a with
      | some (0, n, .inl f) => if pm_in i n then some (.inl (pc + 1, ls, .int (f i.toNatClampNeg) :: st, u, g, h)) else none
      | _ => none)
    | _ => none
  | .baload => match st with
    | .int i :: .ref a :: st => (match pm_arr g h a with
      | some (1, n, .inl f) => if pm_in i n then some (.inl (pc + 1, ls, .int (f i.toNatClampNeg) :: st, u, g, h)) else none
      | some (2, n, .inl f) => if pm_in i n then some (.inl (pc + 1, ls, .int (f i.toNatClampNeg) :: st, u, g, h)) else none
      | _ => none)
    | _ => none
  | .laload => match st with
    | .int i :: .ref a :: st => (match pm_arr g h a with
      | some (3, n, .inr (.inl f)) => if pm_in i n then some (.inl (pc + 1, ls, .long (f i.toNatClampNeg) :: st, u, g, h)) else none
      | _ => none)
    | _ => none
  | .aaload => match st with
    | .int i :: .ref a :: st => (match pm_arr g h a with
      | some (4, n, .inr (.inr (.inr (.inr f)))) => if pm_in i n then some (.inl (pc + 1, ls, va_rf (f i.toNatClampNeg) :: st, u, g, h)) else none
      | _ => none)
    | _ => none
  | .iastore => match st with
    | .int x :: .int i :: .ref a :: st => (match pm_arr g h a with
      | some (0, n, .inl f) => if pm_in i n then some (.inl (pc + 1, ls, st, u, g, pm_up h a (.inl (0, n, .inl (upd f i.toNatClampNeg x))))) else none
      | _ => none)
    | _ => none
  | .bastore => match st with
    | .int x :: .int i :: .ref a :: st => (match pm_arr g h a with
      | some (1, n, .inl f) => if pm_in i n then some (.inl (pc + 1, ls, st, u, g, pm_up h a (.inl (1, n, .inl (upd f i.toNatClampNeg (vp_nar .byte x)))))) else none
      | some (2, n, .inl f) => if pm_in i n then some (.inl (pc + 1, ls, st, u, g, pm_up h a (.inl (2, n, .inl (upd f i.toNatClampNeg (vp_nar .boolean x)))))) else none
      | _ => none)
    | _ => none
  | .lastore => match st with
    | .long x :: .int i :: .ref a :: st => (match pm_arr g h a with
      | some (3, n, .inr (.inl f)) => if pm_in i n then some (.inl (pc + 1, ls, st, u, g, pm_up h a (.inl (3, n, .inr (.inl (vp_updL f i.toNatClampNeg x)))))) else none
      | _ => none)
    | _ => none
  | .arraylength => match st with
    | .ref a :: st => if a = 1000000 then some (.inl (pc + 1, ls, .int (nI sc.1) :: st, u, g, h)) else
      (match pm_arr g h a with
      | some (t, n, _) => if t < 5 then some (.inl (pc + 1, ls, .int (nI n) :: st, u, g, h)) else none
      | none => none)
    | _ => none
  | .newarray t => match st with
    | .int n :: st => (match pm_ty t with
      | some (k, _, z) => if ¬ n < 0 ∧ n.toNatClampNeg ≤ 100000 ∧ g.2 = true ∧ g.1 < 900000 ∧ pm_fits y 1 n.toNatClampNeg u = true then
          some (.inl (pc + 2, ls, .ref g.1 :: st, (u.1 + 1, u.2 + n.toNatClampNeg), (g.1 + 1, true), pm_up h g.1 (.inl (k, n.toNatClampNeg, z)))) else none
      | none => none)
    | _ => none
  | .multianewarray idx 2 => match st with
    | .int k :: .int n :: st => if (pm_own y, idx) ∈ pm_gt ∧ ¬ n < 0 ∧ ¬ k < 0 ∧ n.toNatClampNeg ≤ 10000 ∧ k.toNatClampNeg ≤ 10000 ∧ g.2 = true ∧ g.1 < 900000 ∧ pm_fits y (1 + n.toNatClampNeg) (n.toNatClampNeg + n.toNatClampNeg * k.toNatClampNeg) u = true then
        some (.inl (pc + 4, ls, .ref g.1 :: st, (u.1 + 1 + n.toNatClampNeg, u.2 + n.toNatClampNeg + n.toNatClampNeg * k.toNatClampNeg), (g.1 + 1 + n.toNatClampNeg, true),
          fun j => if j = g.1 then .inl (4, n.toNatClampNeg, .inr (.inr (.inr (.inr fun i => if i < n.toNatClampNeg then some (g.1 + 1 + i) else none))))
            else if g.1 < j ∧ j < g.1 + 1 + n.toNatClampNeg then .inl (0, k.toNatClampNeg, .inl fun _ => 0) else h j)) else none
    | _ => none
  | .new idx => match pm_throw y pc idx, pm_new (pm_own y) idx with
    | some e, _ => if pm_sum st ≤ 100 ∧ pm_fits y 1 6 u = true then some (.inr (.inl (.inr e))) else none
    | none, some c => if g.2 = true ∧ g.1 < 900000 ∧ pm_fits y 1 (pm_df c).length u = true then
        some (.inl (pc + 3, ls, .ref g.1 :: st, (u.1 + 1, u.2 + (pm_df c).length), (g.1 + 1, true), pm_up h g.1 (.inr (c, pm_df c)))) else none
    | none, none => none
  | .invokevirtual idx => match pm_mth (pm_own y) idx with
    | some (k, y') => if k = 0 ∨ k = 8 ∨ k = 9 then pm_call y k y' pc ls st u g h else none
    | none => none
  | .invokespecial idx => match pm_mth (pm_own y) idx with
    | some (k, y') => if k = 1 ∨ k = 3 ∨ k = 4 then pm_call y k y' pc ls st u g h else none
    | none => none
  | .invokestatic idx => match pm_mth (pm_own y) idx with
    | some (k, y') => if k = 2 ∨ k = 5 ∨ k = 6 ∨ k = 7 ∨ k = 10 then pm_call y k y' pc ls st u g h else none
    | none => none
  | .ireturn => match st with
    | [.int x] => if pm_retOk (pm_ret y) x = true ∧ pm_fits y 0 0 u = true then some (.inr (.inl (.inl (some (.int x))))) else none
    | _ => none
  | .return_ => match st, pm_ret y with
    | [], none => if pm_fits y 0 0 u = true then some (.inr (.inl (.inl none))) else none
    | _, _ => none
  | _ => none
/-- where an exception that comes out of a call at pc is caught: behind the store of it -/
def pm_catch (y pc e : Nat) (ls : List Value) : Option (Nat × List Value) :=
  match (pm_hh y).find? (fun x => decide (x.1 ≤ pc) && decide (pc < x.2.1) && (x.2.2.1 == e)) with
  | some x => (match pm_dec y x.2.2.2 with
    | some (.astore_n k) => if k.val < ls.length then some (x.2.2.2 + 1, ls.set k.val pm_no) else none
    | some (.astore k) => if k < ls.length then some (x.2.2.2 + 2, ls.set k pm_no) else none
    | _ => none)
  | none => none
/-- n: fuel; d: how many frames more -/
def pm_exec (sc : Nat × (Nat → Int32)) : Nat → Nat → Nat → Nat → List Value → List Value → PU → PG → PH → Option PR
  | 0, _, _, _, _, _, _, _, _ => none
  | n + 1, d, y, pc, ls, st, u, g, h => match pm_dec y pc with
    | none => none
    | some i => match pm_act sc y i pc ls st u g h with
      | none => none
      | some (.inl (pc', ls', st', u', g', h')) => pm_exec sc n d y pc' ls' st' u' g' h'
      | some (.inr (.inl r)) => some (r, (g.1, g.2 && r.isLeft), h)
      | some (.inr (.inr (y', as, st'))) => match d with
        | 0 => none
        | d' + 1 => if pm_sum st' ≤ 8 ∧ as.length ≤ pm_nL y' ∧ as.all (fun v => v.category == 1) = true ∧ pm_fits y (pm_bc y') (pm_bs y') u = true then
            (match pm_exec sc n d' y' 0 (as ++ List.replicate (pm_nL y' - as.length) pm_no) [] (0, 0) g h with
            | some (.inl v, g', h') => pm_exec sc n (d' + 1) y (pc + 3) ls (v.toList ++ st') (u.1 + pm_bc y', u.2 + pm_bs y') g' h'
            | some (.inr e, g', h') => if pm_ini y' = true then none else if pm_hh y = [] then some (.inr e, g', h') else
              (match pm_catch y pc e ls with
              | some (pc', ls') => pm_exec sc n (d' + 1) y pc' ls' [] (u.1 + pm_bc y', u.2 + pm_bs y') g' h'
              | none => none)
            | none => none) else none
