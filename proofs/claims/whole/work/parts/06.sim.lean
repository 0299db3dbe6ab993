/-! THE REAL MACHINE FOLLOWS THE PURE ONE: the picture of a pure state, and the acts that go on in the same method -/
/-- real addresses: the cells from base on, the script, the texts -/
def sm_ad (base b : Nat) (tx : Nat → Nat) (a : Nat) : Nat := if a < 1000000 then base + a else if a = 1000000 then b else tx (a - 2000000)
def sm_v (ad : Nat → Nat) (v : Value) : Value := match v with
  | .ref a => .ref (ad a)
  | v => v
def sm_a (ad : Nat → Nat) (a : vp_A) : vp_A := match a with
  | (n, .inr (.inr (.inr (.inr f)))) => (n, .inr (.inr (.inr (.inr fun j => (f j).map ad))))
  | (n, .inl f) => (n, .inl f)
  | (n, .inr (.inl f)) => (n, .inr (.inl f))
  | (n, .inr (.inr (.inl f))) => (n, .inr (.inr (.inl f)))
  | (n, .inr (.inr (.inr (.inl f)))) => (n, .inr (.inr (.inr (.inl f))))
def sm_e (ad : Nat → Nat) (cT : Nat → ClassId) (e : PE) : va_E := match e with
  | .inl (t, a) => .inl (cT t, sm_a ad a)
  | .inr (c, fs) => .inr (c, fs.map (sm_v ad))
def sm_w (ad : Nat → Nat) (cT : Nat → ClassId) (N : Nat) (h : PH) : va_W := (List.range N).map fun k => (ad k, sm_e ad cT (h k))
theorem sm_w_get {ad : Nat → Nat} {cT : Nat → ClassId} {N k : Nat} {h : PH} (hk : k < N) : (sm_w ad cT N h)[k]? = some (ad k, sm_e ad cT (h k)) := by
  simp [sm_w, hk]
theorem sm_w_set {ad : Nat → Nat} {cT : Nat → ClassId} {N k : Nat} {h : PH} {e : PE} (hk : k < N) : (sm_w ad cT N h).set k (ad k, sm_e ad cT e) = sm_w ad cT N (pm_up h k e) := by
  apply List.ext_getElem?
  intro j
  by_cases hj : k = j
  · subst hj
    simp [sm_w, hk, pm_up]
  · rw [List.getElem?_set_ne hj]
    by_cases hl : j < N
    · rw [sm_w_get hl, sm_w_get hl, pm_up, if_neg (fun q => hj q.symm)]
    · simp [sm_w, hl]
theorem sm_w_push {ad : Nat → Nat} {cT : Nat → ClassId} {N : Nat} {h : PH} {e : PE} : sm_w ad cT N h ++ [(ad N, sm_e ad cT e)] = sm_w ad cT (N + 1) (pm_up h N e) := by
  apply List.ext_getElem?
  intro j
  have hl : (sm_w ad cT N h).length = N := by simp [sm_w]
  by_cases h1 : j < N
  · rw [List.getElem?_append_left (by omega), sm_w_get h1, sm_w_get (by omega), pm_up, if_neg (by omega)]
  · by_cases h2 : j = N
    · subst h2
      rw [List.getElem?_append_right (by omega), sm_w_get (by omega)]
      simp [hl, pm_up]
    · rw [List.getElem?_eq_none (by simp [hl]; omega), List.getElem?_eq_none (by simp [sm_w]; omega)]
theorem sm_w_D {base b : Nat} {tx : Nat → Nat} {cT : Nat → ClassId} {N : Nat} {h : PH} (hN : N ≤ 1000000) : va_D (fun q => base ≤ q) (sm_w (sm_ad base b tx) cT N h) := by
  have hl : (sm_w (sm_ad base b tx) cT N h).length = N := by simp [sm_w]
  have key : ∀ (k : Nat) (q : Nat × va_E), (sm_w (sm_ad base b tx) cT N h)[k]? = some q → q.1 = base + k := by
    intro k q hq
    have hk : k < N := by rw [← hl]; exact (List.getElem?_eq_some_iff.mp hq).1
    rw [sm_w_get hk] at hq
    cases hq
    simp [sm_ad, show k < 1000000 by omega]
  refine ⟨fun i j x z hi hj hxz => ?_, fun k q hq => ?_⟩
  · have h1 := key i x hi
    have h2 := key j z hj
    omega
  · have h1 := key k q hq
    show base ≤ q.1
    omega
/-- the locals that are known -/
def sm_l1 (ad : Nat → Nat) (q : Value × Nat) : Option (Nat × Value) := match q.1 with
  | .int x => some (q.2, .int x)
  | .ref a => some (q.2, .ref (ad a))
  | .null => some (q.2, .null)
  | _ => none
def sm_l (ad : Nat → Nat) (ls : List Value) : List (Nat × Value) := ls.zipIdx.filterMap (sm_l1 ad)
theorem sm_l_mem {ad : Nat → Nat} {ls : List Value} {q : Nat × Value} : q ∈ sm_l ad ls ↔ ∃ v, ls[q.1]? = some v ∧ sm_l1 ad (v, q.1) = some q := by
  unfold sm_l
  rw [List.mem_filterMap]
  constructor
  · rintro ⟨⟨v, i⟩, h1, h2⟩
    have hi : q.1 = i := by
      unfold sm_l1 at h2
      split at h2 <;> first | (cases h2; rfl) | cases h2
    subst hi
    rw [List.mem_zipIdx_iff_getElem?] at h1
    exact ⟨v, h1, h2⟩
  · rintro ⟨v, h1, h2⟩
    exact ⟨(v, q.1), by rw [List.mem_zipIdx_iff_getElem?]; exact h1, h2⟩
theorem sm_l_cat {ad : Nat → Nat} {v : Value} {i : Nat} {q : Nat × Value} (h : sm_l1 ad (v, i) = some q) : q.2.category = 1 := by
  unfold sm_l1 at h
  split at h <;> first | (cases h; rfl) | cases h
theorem sm_l_i {ad : Nat → Nat} {ls : List Value} {lsR : Array Slot} {nL i : Nat} {x : Int32} (h : lv_has lsR nL (sm_l ad ls)) (hi : ls[i]? = some (.int x)) : lsR[i]? = some (.val (.int x)) :=
  h.2.2 (i, .int x) (sm_l_mem.mpr ⟨_, hi, rfl⟩)
theorem sm_l_r {ad : Nat → Nat} {ls : List Value} {lsR : Array Slot} {nL i : Nat} {a : Nat} (h : lv_has lsR nL (sm_l ad ls)) (hi : ls[i]? = some (.ref a)) : lsR[i]? = some (.val (.ref (ad a))) :=
  h.2.2 (i, .ref (ad a)) (sm_l_mem.mpr ⟨_, hi, rfl⟩)
/-- behind a store -/
theorem sm_l_set {ad : Nat → Nat} {ls : List Value} {lsR : Array Slot} {nL i : Nat} {v w : Value} (h : lv_has lsR nL ((i, w) :: (sm_l ad ls).filter (fun q => !(q.1 == i) && !(q.1 + 1 == i && q.2.category == 2)))) (hw : ∀ q, sm_l1 ad (v, i) = some q → q = (i, w)) : lv_has lsR nL (sm_l ad (ls.set i v)) := by
  refine ⟨h.1, h.2.1, fun q hq => ?_⟩
  obtain ⟨v0, h1, h2⟩ := sm_l_mem.mp hq
  by_cases hi : i = q.1
  · subst hi
    by_cases hl : q.1 < ls.length
    · rw [List.getElem?_set_self hl] at h1
      cases h1
      have := hw q h2
      rw [this]
      exact h.2.2 _ (by rw [← this]; exact List.mem_cons_self)
    · rw [List.getElem?_eq_none (by simp; omega)] at h1
      cases h1
  · rw [List.getElem?_set_ne hi] at h1
    refine h.2.2 q (List.mem_cons_of_mem _ ?_)
    rw [List.mem_filter]
    refine ⟨sm_l_mem.mpr ⟨v0, h1, h2⟩, ?_⟩
    have := sm_l_cat h2
    simp [this]
    exact fun q => hi q.symm
theorem sm_v_cat (ad : Nat → Nat) (v : Value) : (sm_v ad v).category = v.category := by cases v <;> rfl
theorem sm_v_sum (ad : Nat → Nat) (st : List Value) : ((st.map (sm_v ad)).map fun v => v.category).sum = pm_sum st := by
  unfold pm_sum
  rw [List.map_map]
  congr 1
  exact List.map_congr_left (fun v _ => sm_v_cat ad v)
