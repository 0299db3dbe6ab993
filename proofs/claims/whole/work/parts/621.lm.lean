/-! a machine of lists, for the constructors -/
abbrev LC : Type := (Nat × Nat × List Int) ⊕ (Nat × List V2)
/-- a long number stands for null here -/
def l_v (v : V2) : Value := match v with
  | .inl x => .int (q_I x)
  | .inr (.inl a) => .ref a
  | .inr (.inr none) => pm_no
  | .inr (.inr (some _)) => .null
def l_e (a : Nat) (c : LC) : PE := match c with
  | .inl (t, n, cl) => if t = 3 then .inl (3, n, .inr (.inl fun _ => 0)) else if t = 4 then .inl (4, n, .inr (.inr (.inr (.inr fun i => if i < n then some (a + 1 + i) else none)))) else .inl (t, n, .inl fun i : Nat => q_I (cl.getD i 0))
  | .inr (c, fs) => .inr (c, fs.map l_v)
def l_h (l : List LC) : PH := fun a => match l[a]? with
  | some c => l_e a c
  | none => .inr (0, [])
section LMA
variable {sc : Nat × (Nat → Int32)} {D y pc : Nat} {u : PU} {g : PG} {h : PH} {Q : PP} {l : List LC} {c : LC} {a : Nat} {x : Int32}
theorem l_h_app : l_h (l ++ [c]) = pm_up (l_h l) l.length (l_e l.length c) := by
  funext j
  unfold l_h pm_up
  by_cases e : j = l.length
  · rw [if_pos e, e, List.getElem?_append_right (Nat.le_refl _), Nat.sub_self]; rfl
  · rw [if_neg e]
    by_cases e2 : j < l.length
    · rw [List.getElem?_append_left e2]
    · have n1 : (l ++ [c])[j]? = none := List.getElem?_eq_none (by rw [List.length_append, List.length_singleton]; omega)
      have n2 : l[j]? = none := List.getElem?_eq_none (by omega)
      simp only [n1, n2]
theorem l_h_set (ha : a < l.length) : l_h (l.set a c) = pm_up (l_h l) a (l_e a c) := by
  funext j
  unfold l_h pm_up
  by_cases e : j = a
  · rw [if_pos e, e, List.getElem?_set_self ha]
  · rw [if_neg e, List.getElem?_set_ne (fun q => e q.symm)]
theorem l_h_get (hl : l[a]? = some c) : l_h l a = l_e a c := by unfold l_h; rw [hl]
theorem l_h_lt (hl : l[a]? = some c) : a < l.length := by
  rcases Nat.lt_or_ge a l.length with h | h
  · exact h
  · rw [List.getElem?_eq_none h] at hl; cases hl
theorem l_obj {cc : Nat} {fs : List V2} (hl : l[a]? = some (.inr (cc, fs))) : pm_obj (l.length, true) (l_h l) a = some (cc, fs.map l_v) := by
  unfold pm_obj
  rw [if_pos (l_h_lt hl), l_h_get hl]; rfl
/-- Arrays.fill over three -/
theorem px249 {f : Nat → Int32} (ha : pm_arr g h a = some (0, 3, .inl f)) (ha6 : ¬ a = 1000000) (hq : Q (.inl none) g (pm_up h a (.inl (0, 3, .inl (upd (upd (upd f 0 x) 1 x) 2 x))))) : px sc D 249 0 [.ref a, .int x, pm_no, pm_no] [] (0, 0) g h Q := by
  have hag : a < g.1 := by
    unfold pm_arr at ha
    by_cases e : a < g.1
    · exact e
    · rw [if_neg e] at ha; cases ha
  have nx : ∀ (h' : PH) (f' : Nat → Int32), pm_arr g (pm_up h' a (.inl (0, 3, .inl f'))) a = some (0, 3, .inl f') := fun h' f' => by
    unfold pm_arr pm_up
    rw [if_pos hag, if_pos rfl]
  have uu : ∀ (h' : PH) (e1 e2 : PE), pm_up (pm_up h' a e1) a e2 = pm_up h' a e2 := fun h' e1 e2 => by
    funext j; unfold pm_up; by_cases e : j = a
    · rw [if_pos e, if_pos e]
    · rw [if_neg e, if_neg e, if_neg e]
  refine px_go (i := .iconst 0) (by decide +kernel) (rfl) ?_
  refine px_go (i := .istore_n 2) (by decide +kernel) (rfl) ?_
  refine px_go (i := .aload_n 0) (by decide +kernel) (rfl) ?_
  refine px_go (i := .arraylength) (by decide +kernel) (by simp only [pm_act, if_neg ha6, ha]; rfl) ?_
  refine px_go (i := .istore_n 3) (by decide +kernel) (rfl) ?_
  refine px_go (i := .iload_n 2) (by decide +kernel) (rfl) ?_
  refine px_go (i := .iload_n 3) (by decide +kernel) (rfl) ?_
  refine px_go (i := .if_icmp .ge 13) (by decide +kernel) (rfl) ?_
  refine px_go (i := .aload_n 0) (by decide +kernel) (rfl) ?_
  refine px_go (i := .iload_n 2) (by decide +kernel) (rfl) ?_
  refine px_go (i := .iload_n 1) (by decide +kernel) (rfl) ?_
  refine px_go (i := .iastore) (by decide +kernel) (by simp only [pm_act, ha]; rfl) ?_
  refine px_go (i := .iinc 2 1) (by decide +kernel) (rfl) ?_
  refine px_go (i := .goto (-12)) (by decide +kernel) (rfl) ?_
  refine px_go (i := .iload_n 2) (by decide +kernel) (rfl) ?_
  refine px_go (i := .iload_n 3) (by decide +kernel) (rfl) ?_
  refine px_go (i := .if_icmp .ge 13) (by decide +kernel) (rfl) ?_
  refine px_go (i := .aload_n 0) (by decide +kernel) (rfl) ?_
  refine px_go (i := .iload_n 2) (by decide +kernel) (rfl) ?_
  refine px_go (i := .iload_n 1) (by decide +kernel) (rfl) ?_
  refine px_go (i := .iastore) (by decide +kernel) (by simp only [pm_act, nx]; rfl) ?_
  refine px_go (i := .iinc 2 1) (by decide +kernel) (rfl) ?_
  refine px_go (i := .goto (-12)) (by decide +kernel) (rfl) ?_
  refine px_go (i := .iload_n 2) (by decide +kernel) (rfl) ?_
  refine px_go (i := .iload_n 3) (by decide +kernel) (rfl) ?_
  refine px_go (i := .if_icmp .ge 13) (by decide +kernel) (rfl) ?_
  refine px_go (i := .aload_n 0) (by decide +kernel) (rfl) ?_
  refine px_go (i := .iload_n 2) (by decide +kernel) (rfl) ?_
  refine px_go (i := .iload_n 1) (by decide +kernel) (rfl) ?_
  refine px_go (i := .iastore) (by decide +kernel) (by simp only [pm_act, nx]; rfl) ?_
  refine px_go (i := .iinc 2 1) (by decide +kernel) (rfl) ?_
  refine px_go (i := .goto (-12)) (by decide +kernel) (rfl) ?_
  refine px_go (i := .iload_n 2) (by decide +kernel) (rfl) ?_
  refine px_go (i := .iload_n 3) (by decide +kernel) (rfl) ?_
  refine px_go (i := .if_icmp .ge 13) (by decide +kernel) (rfl) ?_
  refine px_end (i := .return_) (v := none) (by decide +kernel) rfl ?_
  rw [uu, uu]
  exact hq
end LMA
