section SI
variable {base b : Nat} {sc : Nat × (Nat → Int32)} {tx : Nat → Nat} {D : va_G} {cT : Nat → ClassId} {SX : State → Heap → Prop}
/-- what is asked of the rest that is known of the start -/
def sm_SX (base : Nat) (SX : State → Heap → Prop) : Prop := (∀ (s U : State) (H : Heap), s.WarmedH U.vm → SX s H → SX U H) ∧ (∀ (U V : State) (H : Heap), U.vm = V.vm → SX U H → SX V H) ∧ (∀ (U : State) (H H1 : Heap), (∀ q : Nat, q < base → H1[q]? = H[q]?) → SX U H → SX U H1)
/-- a throw of a new exception -/
def sm_HThr (base b : Nat) (sc : Nat × (Nat → Int32)) (tx : Nat → Nat) (D : va_G) (cT : Nat → ClassId) (SX : State → Heap → Prop) (l : Launch) : Prop :=
  ∀ (y d pc idx k : Nat) (p : Program) (e : Env) (R : Room) (s : State) (m : MethodId) (args : Array Value) (below : List Frame) (meth : Method) (c : Code) (H : Heap) (locs : List Loc) (ls st : List Value) (u : PU) (g : PG) (h : PH) (lsR : Array Slot),
    sm_C base b sc D cT SX y d p R s m args meth c → sm_I base b tx D cT y s lsR ls g h H locs → (∀ x ∈ c.exceptionTable.toList, False) → meth.locks = false → decode (pm_code y) pc = .ok (.new idx, 3) → pm_throw y pc idx = some k → pm_sum st ≤ 100 → u.1 + 1 ≤ pm_bc y → u.2 + 6 ≤ pm_bs y →
    W p l e R s m args below meth c H locs u.1 u.2 (vx_MQ below (sm_Qc base b tx D cT (.inr k, (g.1, false), h)) (sm_XC base b tx D cT (.inr k, (g.1, false), h)) args s (pm_bc y) (pm_bs y) (fun q => base ≤ q)) (F0 m pc lsR (st.map (sm_v (sm_ad base b tx))))
/-- the law's own methods catch -/
def sm_HCat (base b : Nat) (sc : Nat × (Nat → Int32)) (tx : Nat → Nat) (D : va_G) (cT : Nat → ClassId) (SX : State → Heap → Prop) (l : Launch) : Prop :=
  ∀ (y d : Nat) (p : Program) (e : Env) (R : Room) (s : State) (m : MethodId) (args : Array Value) (below : List Frame) (meth : Method) (c : Code) (Q : State → Prop), y ∈ pm_hand → sm_C base b sc D cT SX y d p R s m args meth c → c.exceptionTable.toList = tableOf (pm_hr y) → sm_Cat base b tx D cT y p l e R s m args below meth c Q
theorem sm_cat0 {y : Nat} (hy : pm_hh y = []) {p : Program} {l : Launch} {e : Env} {R : Room} {s : State} {m : MethodId} {args : Array Value} {below : List Frame} {meth : Method} {c : Code} {Q : State → Prop} : sm_Cat base b tx D cT y p l e R s m args below meth c Q := by
  intro pc pc' k ls ls' st u lsR H locs E ce q hc
  unfold pm_catch at hc
  rw [hy] at hc
  simp at hc
theorem sm_narrow {r : Option FieldType} {x : Int32} (h : pm_retOk r x = true) : ∃ ty, r = some ty ∧ narrow ty (.int x) = .int x := by
  unfold pm_retOk at h
  split at h
  · exact ⟨.int, rfl, rfl⟩
  · simp only [Bool.or_eq_true, decide_eq_true_eq] at h
    rcases h with rfl | rfl
    · exact ⟨.boolean, rfl, rfl⟩
    · exact ⟨.boolean, rfl, rfl⟩
  · cases h
/-- returns and throws of a method without handlers -/
theorem sm_end {l : Launch} (hT : sm_HThr base b sc tx D cT SX l) {y d : Nat} {p : Program} {e : Env} {R : Room} {s : State} {m : MethodId} {args : Array Value} {below : List Frame} {meth : Method} {c : Code} {r : PR} (C : sm_C base b sc D cT SX y d p R s m args meth c) (hx : y ∈ pm_hand ∨ ∀ x ∈ c.exceptionTable.toList, False) (hn : y ∈ pm_hand → ∀ pc idx, pm_throw y pc idx = none) (hr : meth.sig.returnType = pm_ret y) (hk : meth.locks = false) :
    sm_End base b sc tx D cT y p l e R s m args below meth c (vx_MQ below (sm_Qc base b tx D cT r) (sm_XC base b tx D cT r) args s (pm_bc y) (pm_bs y) (fun q => base ≤ q)) r := by
  intro pc ls st u g h lsR H locs i len r0 I hl hd ha er
  rcases pm_act_end ha with rfl | rfl | ⟨idx, rfl⟩
  · simp only [pm_ln] at hl
    subst hl
    simp only [pm_act] at ha
    split at ha
    · rename_i x
      split at ha
      · rename_i hc
        simp only [Option.some.injEq, Sum.inr.injEq, Sum.inl.injEq] at ha
        subst ha
        obtain ⟨ty, e1, e2⟩ := sm_narrow hc.1
        have hf := sm_fits hc.2
        refine vx_ret (W.widen (k := pm_bc y) (n := pm_bs y) (by omega) (by omega) ?_)
        refine W.zret C.1 C.2.1 (hr.trans e1) e2 (fun t ht _ => ⟨some (.int x), by rw [er], rfl, ⟨by rw [er, ht]; exact I.2.2.1, fun q9 => by rw [er] at q9 ⊢; rw [ht]; exact I.2.2.2.2.1 (by simpa using q9), by rw [er]; exact I.2.2.2.2.2⟩, I.2.2.2.1.F ht⟩) I.2.2.2.1.2.2 hd hk
      · cases ha
    · cases ha
  · simp only [pm_ln] at hl
    subst hl
    simp only [pm_act] at ha
    split at ha
    · rename_i hret
      split at ha
      · rename_i hc
        simp only [Option.some.injEq, Sum.inr.injEq, Sum.inl.injEq] at ha
        subst ha
        have hf := sm_fits hc
        refine vx_ret (W.widen (k := pm_bc y) (n := pm_bs y) (by omega) (by omega) ?_)
        refine W.vret C.1 C.2.1 (hr.trans hret) (fun t ht _ => ⟨none, by rw [er], rfl, ⟨by rw [er, ht]; exact I.2.2.1, fun q9 => by rw [er] at q9 ⊢; rw [ht]; exact I.2.2.2.2.1 (by simpa using q9), by rw [er]; exact I.2.2.2.2.2⟩, I.2.2.2.1.F ht⟩) I.2.2.2.1.2.2 hd hk
      · cases ha
    · cases ha
  · simp only [pm_ln] at hl
    subst hl
    simp only [pm_act] at ha
    split at ha
    · rename_i k hthr
      split at ha
      · rename_i hc
        simp only [Option.some.injEq, Sum.inr.injEq, Sum.inl.injEq] at ha
        subst ha
        have hf := sm_fits hc.2
        rcases hx with hx | hx
        · rw [hn hx pc idx] at hthr
          cases hthr
        · have e9 : r = (.inr k, (g.1, false), h) := by rw [er]; simp
          rw [e9]
          exact hT y d pc idx k p e R s m args below meth c H locs ls st u g h lsR C I hx hk hd hthr hc.1 hf.1 hf.2
      · cases ha
    · split at ha <;> cases ha
    · cases ha
theorem sm_out {l : Launch} {y d : Nat} {p : Program} {e : Env} {R : Room} {s : State} {m : MethodId} {args : Array Value} {below : List Frame} {meth : Method} {c : Code} {r : PR} (hx : pm_hh y = [] → ∀ x ∈ c.exceptionTable.toList, False) (hk : meth.locks = false) :
    sm_Out base b tx D cT y p l e R s m args below meth c (vx_MQ below (sm_Qc base b tx D cT r) (sm_XC base b tx D cT r) args s (pm_bc y) (pm_bs y) (fun q => base ≤ q)) r := by
  intro hh pc st u g h lsR H locs k E ce q er hP hS hsz hN hE hce hcv hcl h1 h2
  exact vx_out (fun x hx9 => (hx hh x hx9).elim) hk hce hcv hcl (fun t ht _ => ⟨k, by rw [er], hE, ⟨by rw [er, ht]; exact hP, fun q9 => by rw [er] at q9 ⊢; rw [ht]; exact hsz q9, by rw [er]; exact hN⟩, hS.F ht⟩) hS.2.2 h1 h2
/-- a method's contract out of its walk -/
theorem sm_met {l : Launch} {n : Nat} (hT : sm_HThr base b sc tx D cT SX l) (hC : sm_HCat base b sc tx D cT SX l) (hnt : ∀ y ∈ pm_hand, ∀ pc idx, pm_throw y pc idx = none) (hG : sm_G base b sc tx D cT SX l n) {y d : Nat} {as : List Value} {g : PG} {h : PH} {r : PR} (hy : y < 252) (hl : as.length ≤ pm_nL y) (hc : as.all (fun v => v.category == 1) = true)
    (he : pm_exec sc n d y 0 (as ++ List.replicate (pm_nL y - as.length) pm_no) [] (0, 0) g h = some r) : sm_M base b sc tx D cT SX l y d as g h r := by
  obtain ⟨o1, o2, o3, o4, o5, o6⟩ := pm_names_ok y (by omega)
  have body : ∀ p e s m args below meth c s₁, BodyLoose p l (pm_name y) (headSpec (sm_cw y :: pm_ws) (sm_R y d)) (pm_code y) (pm_nL y) (pm_ret y) e s m args below meth c s₁ → c.maxLocals = pm_nL y → ((pm_hh y = [] → ∀ x ∈ c.exceptionTable.toList, False) ∧ (y ∈ pm_hand → c.exceptionTable.toList = tableOf (pm_hr y))) → sm_Pc base b sc tx D cT SX as g h args s →
      W p l e (headSpec (sm_cw y :: pm_ws) (sm_R y d)).room s m args below meth c s.heap [] 0 0 (vx_MQ below (sm_Qc base b tx D cT r) (sm_XC base b tx D cT r) args s (pm_bc y) (pm_bs y) (fun q => base ≤ q)) (entryFrame m args (pm_nL y)) := by
    intro p e s m args below meth c s₁ B hml htab hv
    obtain ⟨rfl, hP, hsz, hN, hK, hX, hbb, hbs, hSX⟩ := hv
    have hts : ∀ w ∈ sm_cw y :: pm_ws, w.before _ s = true := atoms_spec (ws := sm_cw y :: pm_ws) B.pre
    have C : sm_C base b sc D cT SX y d p (sm_R y d) s m (as.map (sm_v (sm_ad base b tx))).toArray meth c := by
      refine ⟨B.exec, B.bytes, hml, by rw [← o2]; exact findClass_of_methodNamed B.named, fun w hw => hts w (List.mem_cons_of_mem _ hw), hK, hX, hbb, hbs, fun q9 => ?_, rfl, rfl, Nat.le_refl _, Nat.le_refl _, hSX, by show y < 253; omega⟩
      rw [(name_of_methodNamed B.named B.method).1]
      exact o6 q9
    rw [lg_entry_eq]
    refine hG y d 0 _ [] (0, 0) g h r p e (sm_R y d) s m _ below meth c s.heap [] _ _ C ⟨sm_entry hc hl, by simp; omega, hP, va_S.rf, hsz, hN⟩ (sm_end hT C ?_ (fun hh => hnt y hh) B.returns B.notSynchronized) (sm_out (d := d) htab.1 B.notSynchronized) ?_ he
    · rcases pm_hh_ok y (by omega) with h9 | h9
      · exact Or.inl h9
      · exact Or.inr (htab.1 h9)
    · rcases pm_hh_ok y (by omega) with h9 | h9
      · exact hC y d p e (sm_R y d) s m _ below meth c _ h9 C (htab.2 h9)
      · exact sm_cat0 h9
  unfold sm_M
  by_cases hh : y ∈ pm_hand
  · have e1 : sm_cw y = Jvm.Cond.codeWith (pm_name y) (pm_code y) (pm_nL y) (pm_ret y) (pm_hr y) := by unfold sm_cw; rw [if_pos hh]; rfl
    refine vx_ofWH (cc := pm_code y) (maxL := pm_nL y) (ret := pm_ret y) (hh := pm_hr y) (ws' := pm_ws) o1 (by rw [e1]) ?_
    intro p e s m args below meth c s₁ B hml hv
    have hts : ∀ w ∈ sm_cw y :: pm_ws, w.before args s = true := atoms_spec (ws := sm_cw y :: pm_ws) B.pre
    refine body p e s m args below meth c s₁ B hml ⟨fun h9 => absurd h9 (pm_ini_hand y hh).2, fun _ => ?_⟩ hv
    exact vx_table (x := pm_name y) B (by rw [← e1]; exact hts _ List.mem_cons_self)
  · have e1 : sm_cw y = Jvm.Cond.code (pm_name y) (pm_code y) (pm_nL y) (pm_ret y) := by unfold sm_cw; rw [if_neg hh]; rfl
    refine vx_ofW (cc := pm_code y) (maxL := pm_nL y) (ret := pm_ret y) (ws' := pm_ws) o1 (by rw [e1]) ?_
    intro p e s m args below meth c s₁ B hml htab hv
    exact body p e s m args below meth c s₁ B hml ⟨fun _ => htab, fun h9 => absurd h9 hh⟩ hv
end SI
