/-! THE PURE MACHINE FOLLOWS THE SECOND ONE -/
theorem q_toI {x : Int} (h : q_R x) : (q_I x).toInt = x := Int32.toInt_ofInt_of_le (by have := h.1; omega) (by have := h.2; omega)
theorem q_R_toInt (x : Int32) : q_R x.toInt := ⟨by have := x.le_toInt; omega, by have := x.toInt_lt; omega⟩
theorem q_I_toInt (x : Int32) : q_I x.toInt = x := Int32.ofInt_toInt x
theorem q_lt {x y : Int} (hx : q_R x) (hy : q_R y) : q_I x < q_I y ↔ x < y := by rw [Int32.lt_iff_toInt_lt, q_toI hx, q_toI hy]
theorem q_le {x y : Int} (hx : q_R x) (hy : q_R y) : q_I x ≤ q_I y ↔ x ≤ y := by rw [Int32.le_iff_toInt_le, q_toI hx, q_toI hy]
theorem q_eq {x y : Int} (hx : q_R x) (hy : q_R y) : q_I x = q_I y ↔ x = y := by rw [← Int32.toInt_inj, q_toI hx, q_toI hy]
theorem q_clamp {x : Int} (hx : q_R x) : (q_I x).toNatClampNeg = x.toNat := Int32.toNatClampNeg_ofInt_of_le (by have := hx.1; omega) (by have := hx.2; omega)
theorem q_I0 : (0 : Int32) = q_I 0 := rfl
theorem q_R0 : q_R 0 := by decide
theorem q_cmp_ok {c : Jvm.ClassFile.Cond} {x y : Int} (hx : q_R x) (hy : q_R y) : pm_cmp c (q_I x) (q_I y) = q_cmp c x y := by
  cases c <;> simp only [pm_cmp, q_cmp, q_lt hx hy, q_le hx hy, q_eq hx hy, q_lt hy hx, q_le hy hx]
theorem q_in {i : Int} {n : Nat} (h0 : 0 ≤ i) (h1 : i < n) (hi : q_R i) : pm_in (q_I i) n = true := by
  unfold pm_in
  rw [decide_eq_true_eq, q_clamp hi, q_I0, q_lt hi q_R0]
  omega
def q_v (v : V2) : Value := match v with
  | .inl x => .int (q_I x)
  | .inr (.inl a) => .ref a
  | .inr (.inr none) => pm_no
  | .inr (.inr (some x)) => .long (Int64.ofInt x)
/-- N: how many cells there are -/
def q_ok (N : Nat) (v : V2) : Prop := match v with
  | .inl x => q_R x
  | .inr (.inl a) => a < N ∨ 1000000 ≤ a
  | .inr (.inr (some x)) => q_R x
  | .inr (.inr none) => True
def q_S (N : Nat) (σ : St) : Prop := (∀ a i, q_R (σ a i)) ∧ ∀ a k c, a < N → q_fk a k = some (c, 3, 0) → σ a k < N
/-- the first N cells lead to none beyond them -/
def q_cl (N : Nat) : Prop := N ≤ q_N ∧ (∀ a k c j, a < N → q_fk a k = some (c, 1, j) → a + j < N) ∧ (∀ a k c b, a < N → q_fk a k = some (c, 2, b) → b < N) ∧ ∀ a n, a < N → q_sh a = .inl (4, n) → a + n < N
theorem q_lo {N a : Nat} (h : a < N ∨ 1000000 ≤ a) (h2 : a < q_N) : a < N := by
  rcases h with h | h
  · exact h
  · have : q_N = 189 := rfl
    omega
def q_fv (a : Nat) (s : Nat × Nat) (x : Int) : Value := match s.1 with
  | 0 => .int (q_I x)
  | 1 => .ref (a + s.2)
  | 2 => .ref s.2
  | _ => if x < 0 then .null else .ref x.toNat
def q_fs (a : Nat) (fs : List (Nat × Nat)) (f : Int → Int) : List Value := (List.range fs.length).map fun k => q_fv a (fs.getD k (0, 0)) (f k)
def q_encc (a : Nat) (f : Int → Int) : PE := match q_sh a with
  | .inl (3, n) => .inl (3, n, .inr (.inl fun i : Nat => Int64.ofInt (f i)))
  | .inl (4, n) => .inl (4, n, .inr (.inr (.inr (.inr fun i => if i < n then some (a + 1 + i) else none))))
  | .inl (t, n) => .inl (t, n, .inl fun i : Nat => q_I (f i))
  | .inr (c, fs) => .inr (c, q_fs a fs f)
def q_eh (N : Nat) (h0 : PH) (σ : St) : PH := fun a => if a < N then q_encc a (σ a) else h0 a
theorem q_enc_up {N : Nat} {h0 : PH} {σ : St} {a : Nat} (ha : a < N) (i x : Int) : q_eh N h0 (q_up σ a i x) = pm_up (q_eh N h0 σ) a (q_encc a (fun j => if j = i then x else σ a j)) := by
  funext b
  unfold q_eh pm_up
  by_cases h : b = a
  · subst h
    rw [if_pos rfl, if_pos ha]
    congr 1
    funext j
    simp [q_up]
  · rw [if_neg h]
    dsimp only
    by_cases hb : b < N
    · rw [if_pos hb, if_pos hb]
      congr 1
      funext j
      simp [q_up, h]
    · rw [if_neg hb, if_neg hb]
theorem q_enc_upf {N : Nat} {h0 : PH} {σ : St} {a : Nat} (ha : a < N) (f : Int → Int) : q_eh N h0 (q_upf σ a f) = pm_up (q_eh N h0 σ) a (q_encc a f) := by
  funext b
  unfold q_eh pm_up
  by_cases h : b = a
  · subst h
    rw [if_pos rfl, if_pos ha]
    congr 1
    funext j
    simp [q_upf]
  · rw [if_neg h]
    dsimp only
    by_cases hb : b < N
    · rw [if_pos hb, if_pos hb]
      congr 1
      funext j
      simp [q_upf, h]
    · rw [if_neg hb, if_neg hb]
theorem q_S_up {N : Nat} {σ : St} (h : q_S N σ) {a : Nat} {i x : Int} (hx : q_R x) (hm : ∀ k c, (k : Nat) = i → q_fk a k = some (c, 3, 0) → x < N) : q_S N (q_up σ a i x) := by
  refine ⟨fun b j => ?_, fun b k c hb hk => ?_⟩
  · unfold q_up
    split
    · exact hx
    · exact h.1 b j
  · unfold q_up
    split
    · rename_i e
      obtain ⟨rfl, e⟩ := e
      exact hm k c e hk
    · exact h.2 b k c hb hk
theorem q_fk_arr {a t n k : Nat} (h : q_sh a = .inl (t, n)) : q_fk a k = none := by
  unfold q_fk
  rw [h]
theorem q_S_upA {N : Nat} {σ : St} (h : q_S N σ) {a t n : Nat} (ha : q_sh a = .inl (t, n)) {i x : Int} (hx : q_R x) : q_S N (q_up σ a i x) := q_S_up h hx (fun k c _ hk => by rw [q_fk_arr ha] at hk; cases hk)
theorem q_sh_lt {a : Nat} {t n : Nat} (h : q_sh a = .inl (t, n)) : a < q_N := by
  unfold q_sh at h
  by_cases ha : a < q_cells.length
  · rw [q_cells_len] at ha; exact ha
  · rw [List.getElem?_eq_none (by omega)] at h
    cases h
theorem q_fk_ok {a k c : Nat} {s : Nat × Nat} (h : q_fk a k = some (c, s)) : ∃ fs, q_sh a = .inr (c, fs) ∧ fs[k]? = some s ∧ a < q_N := by
  unfold q_fk at h
  split at h
  · rename_i c' fs hs
    rw [Option.map_eq_some_iff] at h
    obtain ⟨s', h1, h2⟩ := h
    cases h2
    refine ⟨fs, hs, h1, ?_⟩
    unfold q_sh at hs
    by_cases ha : a < q_cells.length
    · rw [q_cells_len] at ha; exact ha
    · rw [List.getElem?_eq_none (by omega)] at hs
      cases hs
      cases h1
  · cases h
theorem q_lnty {a : Nat} {t : Nat} (ht : q_ty a = t) (h9 : t ≠ 9) : ∃ n, q_sh a = .inl (t, n) ∧ q_ln a = (n : Int) := by
  unfold q_ty at ht
  split at ht
  · rename_i t' n hs
    subst ht
    refine ⟨n, hs, ?_⟩
    unfold q_ln
    rw [hs]
  · exact absurd ht.symm h9
theorem q_arr {N : Nat} {h0 : PH} {bb : Bool} {σ : St} {a n t : Nat} (h : q_sh a = .inl (t, n)) (ha : a < N) (h3 : t ≠ 3) (h4 : t ≠ 4) : pm_arr (N, bb) (q_eh N h0 σ) a = some (t, n, .inl fun i : Nat => q_I (σ a i)) := by
  unfold pm_arr
  rw [if_pos (show a < (N, bb).1 from ha)]
  unfold q_eh q_encc
  rw [if_pos ha, h]
  match t, h3, h4 with
  | 0, _, _ => rfl
  | 1, _, _ => rfl
  | 2, _, _ => rfl
  | k + 5, _, _ => rfl
theorem q_arrL {N : Nat} {h0 : PH} {bb : Bool} {σ : St} {a n : Nat} (h : q_sh a = .inl (3, n)) (ha : a < N) : pm_arr (N, bb) (q_eh N h0 σ) a = some (3, n, .inr (.inl fun i : Nat => Int64.ofInt (σ a i))) := by
  unfold pm_arr
  rw [if_pos (show a < (N, bb).1 from ha)]
  unfold q_eh q_encc
  rw [if_pos ha, h]
  rfl
theorem q_arrG {N : Nat} {h0 : PH} {bb : Bool} {σ : St} {a n : Nat} (h : q_sh a = .inl (4, n)) (ha : a < N) : pm_arr (N, bb) (q_eh N h0 σ) a = some (4, n, .inr (.inr (.inr (.inr fun i => if i < n then some (a + 1 + i) else none)))) := by
  unfold pm_arr
  rw [if_pos (show a < (N, bb).1 from ha)]
  unfold q_eh q_encc
  rw [if_pos ha, h]
  rfl
theorem q_obj {N : Nat} {h0 : PH} {bb : Bool} {σ : St} {a c : Nat} {fs : List (Nat × Nat)} (h : q_sh a = .inr (c, fs)) (ha : a < N) : pm_obj (N, bb) (q_eh N h0 σ) a = some (c, q_fs a fs (σ a)) := by
  unfold pm_obj
  rw [if_pos (show a < (N, bb).1 from ha)]
  unfold q_eh q_encc
  rw [if_pos ha, h]
theorem q_fs_len {a : Nat} {fs : List (Nat × Nat)} {f : Int → Int} : (q_fs a fs f).length = fs.length := by simp [q_fs]
theorem q_fs_get {a k : Nat} {fs : List (Nat × Nat)} {f : Int → Int} {s : Nat × Nat} (h : fs[k]? = some s) : (q_fs a fs f)[k]? = some (q_fv a s (f k)) := by
  have hk : k < fs.length := (List.getElem?_eq_some_iff.mp h).1
  simp only [q_fs, List.getElem?_map, List.getElem?_range hk, Option.map_some, List.getD_eq_getElem?_getD, h, Option.getD_some]
theorem q_upA {N : Nat} {h0 : PH} {σ : St} {a t n : Nat} {i x : Int} (h : q_sh a = .inl (t, n)) (h3 : t ≠ 3) (h4 : t ≠ 4) (hi0 : 0 ≤ i) (ha : a < N) : pm_up (q_eh N h0 σ) a (.inl (t, n, .inl (upd (fun i : Nat => q_I (σ a i)) i.toNat (q_I x)))) = q_eh N h0 (q_up σ a i x) := by
  rw [q_enc_up ha]
  congr 1
  unfold q_encc
  rw [h]
  have e : (upd (fun i : Nat => q_I (σ a i)) i.toNat (q_I x)) = fun j : Nat => q_I (if (j : Int) = i then x else σ a j) := by
    funext j
    unfold upd
    by_cases hj : j = i.toNat
    · rw [if_pos hj, if_pos (by omega)]
    · rw [if_neg hj, if_neg (by omega)]
  rw [e]
  match t, h3, h4 with
  | 0, _, _ => rfl
  | 1, _, _ => rfl
  | 2, _, _ => rfl
  | k + 5, _, _ => rfl
theorem q_upL {N : Nat} {h0 : PH} {σ : St} {a n : Nat} {i x : Int} (h : q_sh a = .inl (3, n)) (hi0 : 0 ≤ i) (ha : a < N) : pm_up (q_eh N h0 σ) a (.inl (3, n, .inr (.inl (vp_updL (fun i : Nat => Int64.ofInt (σ a i)) i.toNat (Int64.ofInt x))))) = q_eh N h0 (q_up σ a i x) := by
  rw [q_enc_up ha]
  congr 1
  unfold q_encc
  rw [h]
  have e : (vp_updL (fun i : Nat => Int64.ofInt (σ a i)) i.toNat (Int64.ofInt x)) = fun j : Nat => Int64.ofInt (if (j : Int) = i then x else σ a j) := by
    funext j
    unfold vp_updL
    by_cases hj : j = i.toNat
    · rw [if_pos hj, if_pos (by omega)]
    · rw [if_neg hj, if_neg (by omega)]
  rw [e]
  rfl
theorem q_upO {N : Nat} {h0 : PH} {σ : St} {a c k : Nat} {fs : List (Nat × Nat)} {s : Nat × Nat} {x : Int} (h : q_sh a = .inr (c, fs)) (hs : fs[k]? = some s) (ha : a < N) : pm_up (q_eh N h0 σ) a (.inr (c, (q_fs a fs (σ a)).set k (q_fv a s x))) = q_eh N h0 (q_up σ a k x) := by
  rw [q_enc_up ha]
  congr 1
  unfold q_encc
  rw [h]
  simp only
  congr 2
  have hk : k < fs.length := (List.getElem?_eq_some_iff.mp hs).1
  apply List.ext_getElem?
  intro j
  by_cases hj : k = j
  · subst hj
    rw [List.getElem?_set_self (by rw [q_fs_len]; exact hk), q_fs_get hs, if_pos rfl]
  · rw [List.getElem?_set_ne hj]
    by_cases hl : j < fs.length
    · obtain ⟨s', hs'⟩ : ∃ s', fs[j]? = some s' := ⟨_, List.getElem?_eq_getElem hl⟩
      rw [q_fs_get hs', q_fs_get hs', if_neg (by omega)]
    · rw [List.getElem?_eq_none (by rw [q_fs_len]; omega), List.getElem?_eq_none (by rw [q_fs_len]; omega)]
def q_Nn (N : Nat) (h0 : PH) (bb : Bool) (M : N2) : PN := match M with
  | .inl (pc, ls, st, u, σ) => .inl (pc, ls.map q_v, st.map q_v, u, (N, bb), q_eh N h0 σ)
  | .inr (.inl (.inl v)) => .inr (.inl (.inl (v.map q_v)))
  | .inr (.inl (.inr e)) => .inr (.inl (.inr e))
  | .inr (.inr (y, as, st)) => .inr (.inr (y, as.map q_v, st.map q_v))
def q_okN (N : Nat) (M : N2) : Prop := match M with
  | .inl (_, ls, st, _, σ) => (∀ v ∈ ls, q_ok N v) ∧ (∀ v ∈ st, q_ok N v) ∧ q_S N σ
  | .inr (.inl (.inl v)) => ∀ x, v = some x → q_ok N x
  | .inr (.inl (.inr _)) => True
  | .inr (.inr (_, as, st)) => (∀ v ∈ as, q_ok N v) ∧ ∀ v ∈ st, q_ok N v
def q_A (i : Instr) : Prop := ∀ (N : Nat) (h0 : PH) (sc : Nat × (Nat → Int32)) (y pc : Nat) (ls st : List V2) (u : PU) (bb : Bool) (σ : St) (M : N2), q_cl N → (∀ v ∈ ls, q_ok N v) → (∀ v ∈ st, q_ok N v) → q_S N σ → q_act sc y i pc ls st u σ = some M →
  pm_act sc y i pc (ls.map q_v) (st.map q_v) u (N, bb) (q_eh N h0 σ) = some (q_Nn N h0 bb M) ∧ q_okN N M
theorem q_cat_ok (v : V2) : (q_v v).category = q_cat v := by
  rcases v with x | a | _ | x <;> rfl
theorem q_sum_ok (st : List V2) : pm_sum (st.map q_v) = q_sum st := by
  unfold pm_sum q_sum
  rw [List.map_map]
  congr 1
  exact List.map_congr_left (fun v _ => q_cat_ok v)
theorem q_push_ok {x : Int} {pc : Nat} {ls st : List V2} {u : PU} {σ : St} {N : Nat} {h0 : PH} {bb : Bool} {M : N2} (hl : ∀ v ∈ ls, q_ok N v) (hs : ∀ v ∈ st, q_ok N v) (hσ : q_S N σ) (h : q_push x pc ls st u σ = some M) :
    some (Sum.inl (pc, ls.map q_v, .int (q_I x) :: st.map q_v, u, (N, bb), q_eh N h0 σ)) = some (q_Nn N h0 bb M) ∧ q_okN N M ∧ q_R x := by
  unfold q_push at h
  split at h
  · rename_i hr
    cases h
    exact ⟨rfl, ⟨hl, List.forall_mem_cons.mpr ⟨hr, hs⟩, hσ⟩, hr⟩
  · cases h
theorem q_go_ok {t : Int} {ls st : List V2} {u : PU} {σ : St} {N : Nat} {h0 : PH} {bb : Bool} {M : N2} (hl : ∀ v ∈ ls, q_ok N v) (hs : ∀ v ∈ st, q_ok N v) (hσ : q_S N σ) (h : q_go t ls st u σ = some M) :
    pm_go t (ls.map q_v) (st.map q_v) u (N, bb) (q_eh N h0 σ) = some (q_Nn N h0 bb M) ∧ q_okN N M := by
  unfold q_go at h
  unfold pm_go
  split at h
  · rename_i ht
    cases h
    rw [if_pos ht]
    exact ⟨rfl, hl, hs, hσ⟩
  · cases h
theorem q_set {N : Nat} {ls : List V2} {k : Nat} {v : V2} (hl : ∀ v ∈ ls, q_ok N v) (hv : q_ok N v) : ∀ w ∈ ls.set k v, q_ok N w := by
  intro w hw
  rcases List.mem_or_eq_of_mem_set hw with h | h
  · exact hl w h
  · rw [h]; exact hv
theorem q_mem {N : Nat} {ls : List V2} {k : Nat} {v : V2} (hl : ∀ v ∈ ls, q_ok N v) (h : ls[k]? = some v) : q_ok N v := hl v (List.mem_of_getElem? h)
theorem q_lget {ls : List V2} {k : Nat} {v : V2} (h : ls[k]? = some v) : (ls.map q_v)[k]? = some (q_v v) := by rw [List.getElem?_map, h]; rfl
theorem q_lset {ls : List V2} {k : Nat} {v : V2} : (ls.set k v).map q_v = (ls.map q_v).set k (q_v v) := by rw [List.map_set]
