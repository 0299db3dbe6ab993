section SE
variable {p : Program} {l : Launch} {e : Env} {R : Room} {s : State} {m : MethodId} {args : Array Value} {below : List Frame} {meth : Method} {c : Code} {H : Heap} {locs : List Loc} {cells slots : Nat} {Q : State → Prop}
variable {pc : Nat} {lsR : Array Slot} {rest st0 : List Value} {A free : Nat → Prop} {mc ms : Nat}
/-- a call that comes back, or throws -/
theorem sm_run {Qa : State → Outcome → State → Prop} {XC : String → State → State → Prop} (hr : vx_Run p l e R s m args below meth c H locs cells slots mc ms (F0 m pc lsR st0) rest Qa XC free) (hS : va_S A s.heap H locs) (hf : ∀ q, free q → A q) (hQ : ∀ st o t, Qa st o t → va_F A st t) (hX : ∀ E st t, XC E st t → va_F A st t)
    (kk : ∀ (v : Option Value) (st₀ t : State) (locs1 : List Loc), st₀.heap = H → s.vm.Alike t.vm → Qa st₀ (.returned v) t → va_S A s.heap t.heap locs1 → W p l e R s m args below meth c t.heap locs1 (cells + mc) (slots + ms) Q (F0 m (pc + 3) lsR (v.toList ++ rest)))
    (kx : ∀ (q : Addr) (E : String) (ce : Cell) (st₀ t : State) (locs1 : List Loc), st₀.heap = H → s.vm.Alike t.vm → XC E st₀ t → va_S A s.heap t.heap locs1 → t.heap[q]? = some ce → ce.vm = .none → s.vm.findClass E = some ce.cls → vx_W p l e R s m args below meth c t.heap locs1 (cells + mc) (slots + ms) Q (F0 m pc lsR rest) q) :
    W p l e R s m args below meth c H locs cells slots Q (F0 m pc lsR st0) := by
  have key : ∀ (st₀ t T' : State) (L : List Loc), st₀.heap = H → T'.heap = t.heap → va_F A st₀ t → (∀ q ∈ L, free q.base) → va_S A s.heap t.heap (locs ++ L) := by
    intro st₀ t T' L h0 e1 hF hL
    refine ⟨Nat.le_trans hS.1 (by rw [← h0]; exact hF.1), fun q h1 h2 => ?_, fun q hq => ?_⟩
    · rw [hF.2 q (by rw [h0]; exact Nat.lt_of_lt_of_le h1 hS.1) h2, h0]
      exact hS.2.1 q h1 h2
    · rcases List.mem_append.mp hq with h | h
      · exact hS.2.2 q h
      · exact hf _ (hL q h)
  intro T hT X
  rcases hr T hT X with ⟨v, st₀, t, T', L, h0, X', hL, e1, e2, hq, st⟩ | ⟨q, st₀, t, T', L, E, ce, h0, X', hL, e1, e2, hq, hce, hcv, hcl, st⟩
  · obtain ⟨t2, a1, b1⟩ := kk v st₀ t (locs ++ L) h0 (by rw [← e2]; exact X'.warmed.alike) hq (key st₀ t T' L h0 e1 (hQ _ _ _ hq) hL) T' e1 X'
    exact ⟨t2, st t2 a1, b1⟩
  · obtain ⟨t2, a1, b1⟩ := kx q E ce st₀ t (locs ++ L) h0 (by rw [← e2]; exact X'.warmed.alike) hq (key st₀ t T' L h0 e1 (hX _ _ _ hq) hL) hce hcv hcl T' e1 X'
    exact ⟨t2, st.trans a1, b1⟩
theorem sm_runI {Qa : State → Outcome → State → Prop} (hr : va_Run p l e R s m args below meth c H locs cells slots mc ms (F0 m pc lsR st0) rest Qa free) (hS : va_S A s.heap H locs) (hf : ∀ q, free q → A q) (hQ : ∀ st o t, Qa st o t → va_F A st t)
    (kk : ∀ (v : Option Value) (st₀ t : State) (locs1 : List Loc), st₀.heap = H → s.vm.Alike t.vm → Qa st₀ (.returned v) t → va_S A s.heap t.heap locs1 → W p l e R s m args below meth c t.heap locs1 (cells + mc) (slots + ms) Q (F0 m (pc + 3) lsR (v.toList ++ rest))) :
    W p l e R s m args below meth c H locs cells slots Q (F0 m pc lsR st0) := by
  intro T hT X
  obtain ⟨v, st₀, t, T', L, h0, X', hL, e1, e2, hq, st⟩ := hr T hT X
  have hF := hQ _ _ _ hq
  obtain ⟨t2, a1, b1⟩ := kk v st₀ t (locs ++ L) h0 (by rw [← e2]; exact X'.warmed.alike) hq ⟨Nat.le_trans hS.1 (by rw [← h0]; exact hF.1), fun q h1 h2 => by
      rw [hF.2 q (by rw [h0]; exact Nat.lt_of_lt_of_le h1 hS.1) h2, h0]
      exact hS.2.1 q h1 h2, fun q hq => by
      rcases List.mem_append.mp hq with h | h
      · exact hS.2.2 q h
      · exact hf _ (hL q h)⟩ T' e1 X'
  exact ⟨t2, st t2 a1, b1⟩
end SE
/-- a contract that never throws -/
theorem sm_noX {l : Launch} {y : MethodName} {ws : List Jvm.Cond} {rm : Room} {Pc : Array Value → State → Prop} {Qc : Array Value → State → Outcome → State → Prop} {XC : String → State → State → Prop} {mc ms : Nat} {free : Addr → Prop} (h : vx_Met l y ws rm Pc Qc XC mc ms free) (hx : ∀ E st t, ¬ XC E st t) : Met l y ws rm Pc Qc mc ms free := by
  intro p e ha hc hk s m args below hf happ hP hK
  obtain ⟨n, o, h1, h2, h3, h4⟩ := h p e ha hc hk s m args below hf happ hP hK
  refine ⟨n, o, h1, h2, h3, ?_⟩
  rcases h4 with h4 | ⟨q, -, E, ce, L, hX, -⟩
  · exact h4
  · exact absurd hX (hx _ _ _)
section SF
/-- what a method leaves behind -/
def sm_T (base b : Nat) (tx : Nat → Nat) (D : va_G) (cT : Nat → ClassId) (r : PR) (t : State) : Prop :=
  va_P D vwCl (sm_w (sm_ad base b tx) cT r.2.1.1 r.2.2) t.heap ∧ (r.2.1.2 = true → t.heap.size = base + r.2.1.1) ∧ r.2.1.1 ≤ 1000000
def sm_Qc (base b : Nat) (tx : Nat → Nat) (D : va_G) (cT : Nat → ClassId) (r : PR) : Array Value → State → Outcome → State → Prop := fun _ st o t =>
  ∃ v, r.1 = .inl v ∧ o = .returned (v.map (sm_v (sm_ad base b tx))) ∧ sm_T base b tx D cT r t ∧ va_F (fun q => base ≤ q) st t
def sm_XC (base b : Nat) (tx : Nat → Nat) (D : va_G) (cT : Nat → ClassId) (r : PR) : String → State → State → Prop := fun E st t =>
  ∃ k, r.1 = .inr k ∧ pm_xn[k]? = some E ∧ sm_T base b tx D cT r t ∧ va_F (fun q => base ≤ q) st t
/-- what a method is begun with -/
def sm_Pc (base b : Nat) (sc : Nat × (Nat → Int32)) (tx : Nat → Nat) (D : va_G) (cT : Nat → ClassId) (SX : State → Heap → Prop) (as : List Value) (g : PG) (h : PH) : Array Value → State → Prop := fun v U =>
  v = (as.map (sm_v (sm_ad base b tx))).toArray ∧ va_P D vwCl (sm_w (sm_ad base b tx) cT g.1 h) U.heap ∧ (g.2 = true → U.heap.size = base + g.1) ∧ g.1 ≤ 1000000 ∧ va_K D vwCl (sm_ty cT) U ∧ va_X b sc.1 sc.2 U U.heap ∧ b < base ∧ base ≤ U.heap.size ∧ SX U U.heap
def sm_cw (y : Nat) : Jvm.Cond := if y ∈ pm_hand then pm_cwh y else pm_cw y
def sm_R (y d : Nat) : Room := { frames := d + 8, cells := pm_bc y, slots := pm_bs y, locals := (d + 8) * 100 }
/-- a method's contract, for an end of the pure machine -/
def sm_M (base b : Nat) (sc : Nat × (Nat → Int32)) (tx : Nat → Nat) (D : va_G) (cT : Nat → ClassId) (SX : State → Heap → Prop) (l : Launch) (y d : Nat) (as : List Value) (g : PG) (h : PH) (r : PR) : Prop :=
  vx_Met l (pm_name y) (sm_cw y :: pm_ws) (sm_R y d) (sm_Pc base b sc tx D cT SX as g h) (sm_Qc base b tx D cT r) (sm_XC base b tx D cT r) (pm_bc y) (pm_bs y) (fun q => base ≤ q)
/-- an end of a method -/
def sm_End (base b : Nat) (sc : Nat × (Nat → Int32)) (tx : Nat → Nat) (D : va_G) (cT : Nat → ClassId) (y : Nat) (p : Program) (l : Launch) (e : Env) (R : Room) (s : State) (m : MethodId) (args : Array Value) (below : List Frame) (meth : Method) (c : Code) (Q : State → Prop) (r : PR) : Prop :=
  ∀ (pc : Nat) (ls st : List Value) (u : PU) (g : PG) (h : PH) (lsR : Array Slot) (H : Heap) (locs : List Loc) (i : Instr) (len : Nat) (r0 : Option Value ⊕ Nat), sm_I base b tx D cT y s lsR ls g h H locs → len = pm_ln i len → decode (pm_code y) pc = .ok (i, len) →
    pm_act sc y i pc ls st u g h = some (.inr (.inl r0)) → r = (r0, (g.1, g.2 && r0.isLeft), h) → W p l e R s m args below meth c H locs u.1 u.2 Q (F0 m pc lsR (st.map (sm_v (sm_ad base b tx))))
/-- an exception that leaves a method without handlers, or is caught -/
def sm_Out (base b : Nat) (tx : Nat → Nat) (D : va_G) (cT : Nat → ClassId) (y : Nat) (p : Program) (l : Launch) (e : Env) (R : Room) (s : State) (m : MethodId) (args : Array Value) (below : List Frame) (meth : Method) (c : Code) (Q : State → Prop) (r : PR) : Prop :=
  pm_hh y = [] → ∀ (pc : Nat) (st : List Value) (u : PU) (g : PG) (h : PH) (lsR : Array Slot) (H : Heap) (locs : List Loc) (k : Nat) (E : String) (ce : Cell) (q : Addr), r = (.inr k, g, h) → va_P D vwCl (sm_w (sm_ad base b tx) cT g.1 h) H → va_S (fun q => base ≤ q) s.heap H locs → (g.2 = true → H.size = base + g.1) → g.1 ≤ 1000000 →
    pm_xn[k]? = some E → H[q]? = some ce → ce.vm = .none → s.vm.findClass E = some ce.cls → u.1 ≤ pm_bc y → u.2 ≤ pm_bs y → vx_W p l e R s m args below meth c H locs u.1 u.2 Q (F0 m pc lsR (st.map (sm_v (sm_ad base b tx)))) q
def sm_Cat (base b : Nat) (tx : Nat → Nat) (D : va_G) (cT : Nat → ClassId) (y : Nat) (p : Program) (l : Launch) (e : Env) (R : Room) (s : State) (m : MethodId) (args : Array Value) (below : List Frame) (meth : Method) (c : Code) (Q : State → Prop) : Prop :=
  ∀ (pc pc' k : Nat) (ls ls' st : List Value) (u : PU) (lsR : Array Slot) (H : Heap) (locs : List Loc) (E : String) (ce : Cell) (q : Addr), pm_catch y pc k ls = some (pc', ls') → lv_has lsR (pm_nL y) (sm_l (sm_ad base b tx) ls) → ls.length = pm_nL y →
    pm_xn[k]? = some E → H[q]? = some ce → ce.vm = .none → s.vm.findClass E = some ce.cls →
    (∀ lsR' : Array Slot, lv_has lsR' (pm_nL y) (sm_l (sm_ad base b tx) ls') → ls'.length = pm_nL y → W p l e R s m args below meth c H locs u.1 u.2 Q (F0 m pc' lsR' [])) →
    vx_W p l e R s m args below meth c H locs u.1 u.2 Q (F0 m pc lsR (st.map (sm_v (sm_ad base b tx)))) q
/-- the walk of a method's rest -/
def sm_G (base b : Nat) (sc : Nat × (Nat → Int32)) (tx : Nat → Nat) (D : va_G) (cT : Nat → ClassId) (SX : State → Heap → Prop) (l : Launch) (n : Nat) : Prop :=
  ∀ (y d pc : Nat) (ls st : List Value) (u : PU) (g : PG) (h : PH) (r : PR) (p : Program) (e : Env) (R : Room) (s : State) (m : MethodId) (args : Array Value) (below : List Frame) (meth : Method) (c : Code) (H : Heap) (locs : List Loc) (lsR : Array Slot) (Q : State → Prop),
    sm_C base b sc D cT SX y d p R s m args meth c → sm_I base b tx D cT y s lsR ls g h H locs → sm_End base b sc tx D cT y p l e R s m args below meth c Q r → sm_Out base b tx D cT y p l e R s m args below meth c Q r → sm_Cat base b tx D cT y p l e R s m args below meth c Q →
    pm_exec sc n d y pc ls st u g h = some r → W p l e R s m args below meth c H locs u.1 u.2 Q (F0 m pc lsR (st.map (sm_v (sm_ad base b tx))))
end SF
