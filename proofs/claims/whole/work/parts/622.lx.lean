/-- what a new object holds -/
def l_df (c : Nat) : List V2 := (pm_df c).map fun v => match v with
  | .int x => vi x.toInt
  | .null => vl 0
  | _ => vn
def l_ty (a : ArrayType) : Option Nat := match a with
  | .int => some 0
  | .byte => some 1
  | .boolean => some 2
  | .long => some 3
  | _ => none
abbrev LMN : Type := (Nat × List V2 × List V2 × PU × List LC) ⊕ (Nat × List V2 × List V2)
def l_cat (v : V2) : Bool := match v with | .inr (.inr _) => false | _ => true
def l_act (y : Nat) (i : Instr) (pc : Nat) (ls st : List V2) (u : PU) (l : List LC) : Option LMN :=
  match i with
  | .iconst n => some (.inl (pc + 1, ls, vi n :: st, u, l))
  | .bipush n => if -128 ≤ n ∧ n ≤ 127 then some (.inl (pc + 2, ls, vi n :: st, u, l)) else none
  | .sipush n => if -32768 ≤ n ∧ n ≤ 32767 then some (.inl (pc + 3, ls, vi n :: st, u, l)) else none
  | .aload_n k => match ls[k.val]? with
    | some (.inr (.inl a)) => some (.inl (pc + 1, ls, vr a :: st, u, l))
    | _ => none
  | .aload k => match ls[k]? with
    | some (.inr (.inl a)) => some (.inl (pc + 2, ls, vr a :: st, u, l))
    | _ => none
  | .astore_n k => match st with
    | .inr (.inl a) :: st => if k.val < ls.length then some (.inl (pc + 1, ls.set k.val (vr a), st, u, l)) else none
    | _ => none
  | .istore k => match st with
    | .inl x :: st => if k < ls.length then some (.inl (pc + 2, ls.set k (vi x), st, u, l)) else none
    | _ => none
  | .dup => match st with
    | .inr (.inl a) :: st => some (.inl (pc + 1, ls, vr a :: vr a :: st, u, l))
    | _ => none
  | .newarray t => match st with
    | .inl n :: st => (match l_ty t with
      | some k => if (0 ≤ n ∧ n ≤ 100000) ∧ l.length < 900000 ∧ pm_fits y 1 n.toNat u = true then some (.inl (pc + 2, ls, vr l.length :: st, (u.1 + 1, u.2 + n.toNat), l ++ [.inl (k, n.toNat, [])])) else none
      | none => none)
    | _ => none
  | .multianewarray idx 2 => match st with
    | .inl k :: .inl n :: st => if (pm_own y, idx) ∈ pm_gt ∧ (0 ≤ n ∧ n ≤ 10000) ∧ (0 ≤ k ∧ k ≤ 10000) ∧ l.length < 900000 ∧ pm_fits y (1 + n.toNat) (n.toNat + n.toNat * k.toNat) u = true then
        some (.inl (pc + 4, ls, vr l.length :: st, (u.1 + 1 + n.toNat, u.2 + n.toNat + n.toNat * k.toNat), l ++ (.inl (4, n.toNat, []) :: List.replicate n.toNat (.inl (0, k.toNat, []))))) else none
    | _ => none
  | .new idx => match pm_throw y pc idx, pm_new (pm_own y) idx with
    | none, some c => if l.length < 900000 ∧ pm_fits y 1 (pm_df c).length u = true then some (.inl (pc + 3, ls, vr l.length :: st, (u.1 + 1, u.2 + (pm_df c).length), l ++ [.inr (c, l_df c)])) else none
    | _, _ => none
  | .getfield idx => match st with
    | .inr (.inl a) :: st => (match pm_fld (pm_own y) idx, l[a]? with
      | some (c, k), some (.inr (c', fs)) => if c = c' then (match fs[k]? with
        | some v => some (.inl (pc + 3, ls, v :: st, u, l))
        | none => none) else none
      | _, _ => none)
    | _ => none
  | .putfield idx => match st with
    | .inl x :: .inr (.inl a) :: st => (match pm_fld (pm_own y) idx, l[a]? with
      | some (c, k), some (.inr (c', fs)) => if c = c' ∧ k < fs.length ∧ pm_fi c k = true ∧ pm_wr y c k = true then some (.inl (pc + 3, ls, st, u, l.set a (.inr (c, fs.set k (vi x))))) else none
      | _, _ => none)
    | .inr (.inl x) :: .inr (.inl a) :: st => (match pm_fld (pm_own y) idx, l[a]? with
      | some (c, k), some (.inr (c', fs)) => if c = c' ∧ k < fs.length ∧ pm_fi c k = false ∧ pm_wr y c k = true then some (.inl (pc + 3, ls, st, u, l.set a (.inr (c, fs.set k (vr x))))) else none
      | _, _ => none)
    | _ => none
  | .invokespecial idx => match pm_mth (pm_own y) idx with
    | some (k, y') => if st.length ≤ 20 ∧ st.all l_cat = true ∧ pm_fits y 0 0 u = true then (if k = 4 then (match st with
        | .inr (.inl _) :: st => some (.inl (pc + 3, ls, st, u, l))
        | _ => none) else if k = 1 ∨ k = 3 then (match q_take (pm_np y' + 1) st with
        | some (.inr (.inl a) :: as, st) => some (.inr (y', vr a :: as, st))
        | _ => none) else none) else none
    | none => none
  | .invokestatic idx => match pm_mth (pm_own y) idx, st with
    | some (k, y'), [.inl x, .inr (.inl a)] => if k = 2 ∧ y' = 249 ∧ pm_fits y 0 0 u = true ∧ pm_fits y (pm_bc 249) (pm_bs 249) u = true ∧ a < 1000000 then (match l[a]? with
      | some (.inl (t, n, cl)) => if t = 0 ∧ n = 3 ∧ cl = [] then some (.inl (pc + 3, ls, [], (u.1 + pm_bc 249, u.2 + pm_bs 249), l.set a (.inl (0, 3, [x, x, x])))) else none
      | _ => none) else none
    | _, _ => none
  | _ => none
def l_exec : Nat → Nat → Nat → Nat → Nat → List V2 → List V2 → PU → List LC → Option (Nat × List V2 × List V2 × PU × List LC)
  | 0, _, _, _, _, _, _, _, _ => none
  | n + 1, stop, d, y, pc, ls, st, u, l => if pc = stop then some (pc, ls, st, u, l) else match pm_dec y pc with
    | none => none
    | some i => if i = .return_ then some (pc, ls, st, u, l) else match l_act y i pc ls st u l with
      | none => none
      | some (.inl (pc', ls', st', u', l')) => l_exec n stop d y pc' ls' st' u' l'
      | some (.inr (y', as, st')) => match d with
        | 0 => none
        | d' + 1 => if st'.length ≤ 8 ∧ st'.all l_cat = true ∧ as.length ≤ pm_nL y' ∧ as.all l_cat = true ∧ pm_fits y (pm_bc y') (pm_bs y') u = true then
            (match l_exec n 1000000 d' y' 0 (as ++ List.replicate (pm_nL y' - as.length) vn) [] (0, 0) l with
            | some (pc2, _, st2, u2, l2) => if st2 = [] ∧ pm_dec y' pc2 = some .return_ ∧ pm_ret y' = none ∧ pm_fits y' 0 0 u2 = true then l_exec n stop (d' + 1) y (pc + 3) ls st' (u.1 + pm_bc y', u.2 + pm_bs y') l2 else none
            | none => none) else none
/-- RowProver's constructor, up to its call of analyse -/
def l_93 : Option (Nat × List V2 × List V2 × PU × List LC) := l_exec 300 203 5 93 0 [vr 0] [] (0, 0) [.inr (14, l_df 14)]
theorem l_93_ok : (match l_93 with | some (203, [.inr (.inl 0)], [.inr (.inl 0)], u, l) => decide (l.length = 136) && decide (u = (135, 10318) ∨ u.1 ≤ 200) | _ => false) = true := by decide +kernel
