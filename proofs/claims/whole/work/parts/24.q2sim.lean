/-! THE PURE MACHINE FOLLOWS THE SECOND ONE -/
theorem q_toI {x : Int} (h : q_R x) : (q_I x).toInt = x := Int32.toInt_ofInt_of_le (by have := h.1; omega) (by have := h.2; omega)
theorem q_R_toInt (x : Int32) : q_R x.toInt := ⟨by have := x.le_toInt; omega, by have := x.toInt_lt; omega⟩
theorem q_I_toInt (x : Int32) : q_I x.toInt = x := Int32.ofInt_toInt x
theorem q_lt {x y : Int} (hx : q_R x) (hy : q_R y) : q_I x < q_I y ↔ x < y := by rw [Int32.lt_iff_toInt_lt, q_toI hx, q_toI hy]
theorem q_le {x y : Int} (hx : q_R x) (hy : q_R y) : q_I x ≤ q_I y ↔ x ≤ y := by rw [Int32.le_iff_toInt_le, q_toI hx, q_toI hy]
theorem q_eq {x y : Int} (hx : q_R x) (hy : q_R y) : q_I x = q_I y ↔ x = y := by rw [← Int32.toInt_inj, q_toI hx, q_toI hy]
theorem q_clamp {x : Int} (hx : q_R x) : (q_I x).toNatClampNeg = x.toNat := Int32.toNatClampNeg_ofInt_of_le (by have := hx.1; omega) (by have := hx.2; omega)
theorem q_I0 : (0 : Int32) = q_I 0 := rfl
theorem q_R0 : q_R 0 := by decide
theorem q_cmp_ok {c : Jvm.ClassFile.Cond} {x y : Int} (hx : q_R x) (hy : q_R y) : pm_cmp c (q_I x) (q_I y) = q_cmp c x y := by
  cases c <;> simp only [pm_cmp, q_cmp, q_lt hx hy, q_le hx hy, q_eq hx hy, q_lt hy hx, q_le hy hx]
theorem q_in {i : Int} {n : Nat} (h0 : 0 ≤ i) (h1 : i < n) (hi : q_R i) : pm_in (q_I i) n = true := by
  unfold pm_in
  rw [decide_eq_true_eq, q_clamp hi, q_I0, q_lt hi q_R0]
  omega
def q_v (v : V2) : Value := match v with
  | .inl x => .int (q_I x)
  | .inr (.inl a) => .ref a
  | .inr (.inr none) => pm_no
  | .inr (.inr (some x)) => .long (Int64.ofInt x)
def q_ok (v : V2) : Prop := match v with
  | .inl x => q_R x
  | .inr (.inr (some x)) => q_R x
  | _ => True
def q_S (σ : St) : Prop := ∀ a i, q_R (σ a i)
def q_fv (a : Nat) (s : Nat × Nat) (x : Int) : Value := match s.1 with
  | 0 => .int (q_I x)
  | 1 => .ref (a + s.2)
  | 2 => .ref s.2
  | _ => if x < 0 then .null else .ref x.toNat
def q_fs (a : Nat) (fs : List (Nat × Nat)) (f : Int → Int) : List Value := (List.range fs.length).map fun k => q_fv a (fs.getD k (0, 0)) (f k)
def q_encc (a : Nat) (f : Int → Int) : PE := match q_sh a with
  | .inl (3, n) => .inl (3, n, .inr (.inl fun i : Nat => Int64.ofInt (f i)))
  | .inl (4, n) => .inl (4, n, .inr (.inr (.inr (.inr fun i => if i < n then some (a + 1 + i) else none))))
  | .inl (t, n) => .inl (t, n, .inl fun i : Nat => q_I (f i))
  | .inr (c, fs) => .inr (c, q_fs a fs f)
def q_enc (σ : St) : PH := fun a => q_encc a (σ a)
theorem q_enc_up (σ : St) (a : Nat) (i x : Int) : q_enc (q_up σ a i x) = pm_up (q_enc σ) a (q_encc a (fun j => if j = i then x else σ a j)) := by
  funext b
  unfold q_enc pm_up
  by_cases h : b = a
  · subst h
    rw [if_pos rfl]
    congr 1
    funext j
    simp [q_up]
  · rw [if_neg h]
    congr 1
    funext j
    simp [q_up, h]
theorem q_enc_upf (σ : St) (a : Nat) (f : Int → Int) : q_enc (q_upf σ a f) = pm_up (q_enc σ) a (q_encc a f) := by
  funext b
  unfold q_enc pm_up
  by_cases h : b = a
  · subst h
    rw [if_pos rfl]
    congr 1
    funext j
    simp [q_upf]
  · rw [if_neg h]
    congr 1
    funext j
    simp [q_upf, h]
theorem q_S_up {σ : St} (h : q_S σ) (a : Nat) (i : Int) {x : Int} (hx : q_R x) : q_S (q_up σ a i x) := by
  intro b j
  unfold q_up
  split
  · exact hx
  · exact h b j
theorem q_sh_lt {a : Nat} {t n : Nat} (h : q_sh a = .inl (t, n)) : a < q_N := by
  unfold q_sh at h
  by_cases ha : a < q_cells.length
  · rw [q_cells_len] at ha; exact ha
  · rw [List.getElem?_eq_none (by omega)] at h
    cases h
theorem q_fk_ok {a k c : Nat} {s : Nat × Nat} (h : q_fk a k = some (c, s)) : ∃ fs, q_sh a = .inr (c, fs) ∧ fs[k]? = some s ∧ a < q_N := by
  unfold q_fk at h
  split at h
  · rename_i c' fs hs
    rw [Option.map_eq_some_iff] at h
    obtain ⟨s', h1, h2⟩ := h
    cases h2
    refine ⟨fs, hs, h1, ?_⟩
    unfold q_sh at hs
    by_cases ha : a < q_cells.length
    · rw [q_cells_len] at ha; exact ha
    · rw [List.getElem?_eq_none (by omega)] at hs
      cases hs
      cases h1
  · cases h
theorem q_lnty {a : Nat} {t : Nat} (ht : q_ty a = t) (h9 : t ≠ 9) : ∃ n, q_sh a = .inl (t, n) ∧ q_ln a = (n : Int) := by
  unfold q_ty at ht
  split at ht
  · rename_i t' n hs
    subst ht
    refine ⟨n, hs, ?_⟩
    unfold q_ln
    rw [hs]
  · exact absurd ht.symm h9
theorem q_arr {bb : Bool} {σ : St} {a n t : Nat} (h : q_sh a = .inl (t, n)) (h3 : t ≠ 3) (h4 : t ≠ 4) : pm_arr (q_N, bb) (q_enc σ) a = some (t, n, .inl fun i : Nat => q_I (σ a i)) := by
  unfold pm_arr
  rw [if_pos (show a < (q_N, bb).1 from q_sh_lt h)]
  unfold q_enc q_encc
  rw [h]
  match t, h3, h4 with
  | 0, _, _ => rfl
  | 1, _, _ => rfl
  | 2, _, _ => rfl
  | k + 5, _, _ => rfl
theorem q_arrL {bb : Bool} {σ : St} {a n : Nat} (h : q_sh a = .inl (3, n)) : pm_arr (q_N, bb) (q_enc σ) a = some (3, n, .inr (.inl fun i : Nat => Int64.ofInt (σ a i))) := by
  unfold pm_arr
  rw [if_pos (show a < (q_N, bb).1 from q_sh_lt h)]
  unfold q_enc q_encc
  rw [h]
  rfl
theorem q_arrG {bb : Bool} {σ : St} {a n : Nat} (h : q_sh a = .inl (4, n)) : pm_arr (q_N, bb) (q_enc σ) a = some (4, n, .inr (.inr (.inr (.inr fun i => if i < n then some (a + 1 + i) else none)))) := by
  unfold pm_arr
  rw [if_pos (show a < (q_N, bb).1 from q_sh_lt h)]
  unfold q_enc q_encc
  rw [h]
  rfl
theorem q_obj {bb : Bool} {σ : St} {a c : Nat} {fs : List (Nat × Nat)} (h : q_sh a = .inr (c, fs)) (ha : a < q_N) : pm_obj (q_N, bb) (q_enc σ) a = some (c, q_fs a fs (σ a)) := by
  unfold pm_obj
  rw [if_pos (show a < (q_N, bb).1 from ha)]
  unfold q_enc q_encc
  rw [h]
theorem q_fs_len {a : Nat} {fs : List (Nat × Nat)} {f : Int → Int} : (q_fs a fs f).length = fs.length := by simp [q_fs]
theorem q_fs_get {a k : Nat} {fs : List (Nat × Nat)} {f : Int → Int} {s : Nat × Nat} (h : fs[k]? = some s) : (q_fs a fs f)[k]? = some (q_fv a s (f k)) := by
  have hk : k < fs.length := (List.getElem?_eq_some_iff.mp h).1
  simp only [q_fs, List.getElem?_map, List.getElem?_range hk, Option.map_some, List.getD_eq_getElem?_getD, h, Option.getD_some]
theorem q_upA {σ : St} {a t n : Nat} {i x : Int} (h : q_sh a = .inl (t, n)) (h3 : t ≠ 3) (h4 : t ≠ 4) (h0 : 0 ≤ i) : pm_up (q_enc σ) a (.inl (t, n, .inl (upd (fun i : Nat => q_I (σ a i)) i.toNat (q_I x)))) = q_enc (q_up σ a i x) := by
  rw [q_enc_up]
  congr 1
  unfold q_encc
  rw [h]
  have e : (upd (fun i : Nat => q_I (σ a i)) i.toNat (q_I x)) = fun j : Nat => q_I (if (j : Int) = i then x else σ a j) := by
    funext j
    unfold upd
    by_cases hj : j = i.toNat
    · rw [if_pos hj, if_pos (by omega)]
    · rw [if_neg hj, if_neg (by omega)]
  rw [e]
  match t, h3, h4 with
  | 0, _, _ => rfl
  | 1, _, _ => rfl
  | 2, _, _ => rfl
  | k + 5, _, _ => rfl
theorem q_upL {σ : St} {a n : Nat} {i x : Int} (h : q_sh a = .inl (3, n)) (h0 : 0 ≤ i) : pm_up (q_enc σ) a (.inl (3, n, .inr (.inl (vp_updL (fun i : Nat => Int64.ofInt (σ a i)) i.toNat (Int64.ofInt x))))) = q_enc (q_up σ a i x) := by
  rw [q_enc_up]
  congr 1
  unfold q_encc
  rw [h]
  have e : (vp_updL (fun i : Nat => Int64.ofInt (σ a i)) i.toNat (Int64.ofInt x)) = fun j : Nat => Int64.ofInt (if (j : Int) = i then x else σ a j) := by
    funext j
    unfold vp_updL
    by_cases hj : j = i.toNat
    · rw [if_pos hj, if_pos (by omega)]
    · rw [if_neg hj, if_neg (by omega)]
  rw [e]
  rfl
theorem q_upO {σ : St} {a c k : Nat} {fs : List (Nat × Nat)} {s : Nat × Nat} {x : Int} (h : q_sh a = .inr (c, fs)) (hs : fs[k]? = some s) : pm_up (q_enc σ) a (.inr (c, (q_fs a fs (σ a)).set k (q_fv a s x))) = q_enc (q_up σ a k x) := by
  rw [q_enc_up]
  congr 1
  unfold q_encc
  rw [h]
  simp only
  congr 2
  have hk : k < fs.length := (List.getElem?_eq_some_iff.mp hs).1
  apply List.ext_getElem?
  intro j
  by_cases hj : k = j
  · subst hj
    rw [List.getElem?_set_self (by rw [q_fs_len]; exact hk), q_fs_get hs, if_pos rfl]
  · rw [List.getElem?_set_ne hj]
    by_cases hl : j < fs.length
    · obtain ⟨s', hs'⟩ : ∃ s', fs[j]? = some s' := ⟨_, List.getElem?_eq_getElem hl⟩
      rw [q_fs_get hs', q_fs_get hs', if_neg (by omega)]
    · rw [List.getElem?_eq_none (by rw [q_fs_len]; omega), List.getElem?_eq_none (by rw [q_fs_len]; omega)]
def q_Nn (bb : Bool) (N : N2) : PN := match N with
  | .inl (pc, ls, st, u, σ) => .inl (pc, ls.map q_v, st.map q_v, u, (q_N, bb), q_enc σ)
  | .inr (.inl (.inl v)) => .inr (.inl (.inl (v.map q_v)))
  | .inr (.inl (.inr e)) => .inr (.inl (.inr e))
  | .inr (.inr (y, as, st)) => .inr (.inr (y, as.map q_v, st.map q_v))
def q_okN (N : N2) : Prop := match N with
  | .inl (_, ls, st, _, σ) => (∀ v ∈ ls, q_ok v) ∧ (∀ v ∈ st, q_ok v) ∧ q_S σ
  | .inr (.inl (.inl v)) => ∀ x, v = some x → q_ok x
  | .inr (.inl (.inr _)) => True
  | .inr (.inr (_, as, st)) => (∀ v ∈ as, q_ok v) ∧ ∀ v ∈ st, q_ok v
def q_A (i : Instr) : Prop := ∀ (sc : Nat × (Nat → Int32)) (y pc : Nat) (ls st : List V2) (u : PU) (bb : Bool) (σ : St) (N : N2), (∀ v ∈ ls, q_ok v) → (∀ v ∈ st, q_ok v) → q_S σ → q_act sc y i pc ls st u σ = some N →
  pm_act sc y i pc (ls.map q_v) (st.map q_v) u (q_N, bb) (q_enc σ) = some (q_Nn bb N) ∧ q_okN N
theorem q_cat_ok (v : V2) : (q_v v).category = q_cat v := by
  rcases v with x | a | _ | x <;> rfl
theorem q_sum_ok (st : List V2) : pm_sum (st.map q_v) = q_sum st := by
  unfold pm_sum q_sum
  rw [List.map_map]
  congr 1
  exact List.map_congr_left (fun v _ => q_cat_ok v)
theorem q_push_ok {x : Int} {pc : Nat} {ls st : List V2} {u : PU} {σ : St} {bb : Bool} {N : N2} (hl : ∀ v ∈ ls, q_ok v) (hs : ∀ v ∈ st, q_ok v) (hσ : q_S σ) (h : q_push x pc ls st u σ = some N) :
    some (Sum.inl (pc, ls.map q_v, .int (q_I x) :: st.map q_v, u, (q_N, bb), q_enc σ)) = some (q_Nn bb N) ∧ q_okN N ∧ q_R x := by
  unfold q_push at h
  split at h
  · rename_i hr
    cases h
    exact ⟨rfl, ⟨hl, List.forall_mem_cons.mpr ⟨hr, hs⟩, hσ⟩, hr⟩
  · cases h
theorem q_go_ok {t : Int} {ls st : List V2} {u : PU} {σ : St} {bb : Bool} {N : N2} (hl : ∀ v ∈ ls, q_ok v) (hs : ∀ v ∈ st, q_ok v) (hσ : q_S σ) (h : q_go t ls st u σ = some N) :
    pm_go t (ls.map q_v) (st.map q_v) u (q_N, bb) (q_enc σ) = some (q_Nn bb N) ∧ q_okN N := by
  unfold q_go at h
  unfold pm_go
  split at h
  · rename_i ht
    cases h
    rw [if_pos ht]
    exact ⟨rfl, hl, hs, hσ⟩
  · cases h
theorem q_set {ls : List V2} {k : Nat} {v : V2} (hl : ∀ v ∈ ls, q_ok v) (hv : q_ok v) : ∀ w ∈ ls.set k v, q_ok w := by
  intro w hw
  rcases List.mem_or_eq_of_mem_set hw with h | h
  · exact hl w h
  · rw [h]; exact hv
theorem q_mem {ls : List V2} {k : Nat} {v : V2} (hl : ∀ v ∈ ls, q_ok v) (h : ls[k]? = some v) : q_ok v := hl v (List.mem_of_getElem? h)
theorem q_lget {ls : List V2} {k : Nat} {v : V2} (h : ls[k]? = some v) : (ls.map q_v)[k]? = some (q_v v) := by rw [List.getElem?_map, h]; rfl
theorem q_lset {ls : List V2} {k : Nat} {v : V2} : (ls.set k v).map q_v = (ls.map q_v).set k (q_v v) := by rw [List.map_set]
