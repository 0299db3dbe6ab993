/-! the words that all methods use -/
abbrev sm_ty (cT : Nat → ClassId) : List (ClassId × FieldType) := [(cT 0, .int), (cT 1, .byte), (cT 2, .boolean), (cT 3, .long), (cT 4, .array .int)]
/-- what holds all along in a method: the machine, its code, the words, the kinds of cells, the script; SX: what else is known of the start -/
def sm_C (base b : Nat) (sc : Nat × (Nat → Int32)) (D : va_G) (cT : Nat → ClassId) (SX : State → Heap → Prop) (y d : Nat) (p : Program) (R : Room) (s : State) (m : MethodId) (args : Array Value) (meth : Method) (c : Code) : Prop :=
  p.tables.exec = Jvm.exec ∧ c.code = pm_code y ∧ c.maxLocals = pm_nL y ∧ s.vm.findClass (pm_cn (pm_own y)) = some m.cls ∧ (∀ w ∈ pm_ws, w.before args s = true) ∧ va_K D vwCl (sm_ty cT) s ∧ va_X b sc.1 sc.2 s s.heap ∧ b < base ∧ base ≤ s.heap.size ∧
  (pm_ini y = true → meth.name = "<init>") ∧ R.cells = pm_bc y ∧ R.slots = pm_bs y ∧ d + 8 ≤ R.frames ∧ (d + 8) * 100 ≤ R.locals ∧ SX s s.heap ∧ y < pm_N
/-- the picture: locals, cells, what was written -/
def sm_I (base b : Nat) (tx : Nat → Nat) (D : va_G) (cT : Nat → ClassId) (y : Nat) (s : State) (lsR : Array Slot) (ls : List Value) (g : PG) (h : PH) (H : Heap) (locs : List Loc) : Prop :=
  lv_has lsR (pm_nL y) (sm_l (sm_ad base b tx) ls) ∧ ls.length = pm_nL y ∧ va_P D vwCl (sm_w (sm_ad base b tx) cT g.1 h) H ∧ va_S (fun q => base ≤ q) s.heap H locs ∧ (g.2 = true → H.size = base + g.1) ∧ g.1 ≤ 1000000
section SA
variable {base b : Nat} {sc : Nat × (Nat → Int32)} {tx : Nat → Nat} {D : va_G} {cT : Nat → ClassId} {SX : State → Heap → Prop} {y d pc pc' : Nat}
variable {p : Program} {l : Launch} {e : Env} {R : Room} {s : State} {m : MethodId} {args : Array Value} {below : List Frame} {meth : Method} {c : Code} {H : Heap} {locs : List Loc} {Q : State → Prop}
variable {ls ls' st st' : List Value} {u u' : PU} {g g' : PG} {h h' : PH} {lsR : Array Slot} {i : Instr}
/-- what is to be shown of an act that goes on in the method -/
def sm_A (base b : Nat) (sc : Nat × (Nat → Int32)) (tx : Nat → Nat) (D : va_G) (cT : Nat → ClassId) (SX : State → Heap → Prop) (i : Instr) : Prop :=
  ∀ (y d pc pc' : Nat) (p : Program) (l : Launch) (e : Env) (R : Room) (s : State) (m : MethodId) (args : Array Value) (below : List Frame) (meth : Method) (c : Code) (H : Heap) (locs : List Loc) (Q : State → Prop) (ls ls' st st' : List Value) (u u' : PU) (g g' : PG) (h h' : PH) (lsR : Array Slot) (len : Nat),
    sm_C base b sc D cT SX y d p R s m args meth c → sm_I base b tx D cT y s lsR ls g h H locs → len = pm_ln i len → decode (pm_code y) pc = .ok (i, len) → pm_act sc y i pc ls st u g h = some (.inl (pc', ls', st', u', g', h')) →
    (∀ (lsR' : Array Slot) (H' : Heap) (locs' : List Loc), sm_I base b tx D cT y s lsR' ls' g' h' H' locs' → W p l e R s m args below meth c H' locs' u'.1 u'.2 Q (F0 m pc' lsR' (st'.map (sm_v (sm_ad base b tx))))) →
    W p l e R s m args below meth c H locs u.1 u.2 Q (F0 m pc lsR (st.map (sm_v (sm_ad base b tx))))
theorem sm_go {t : Int} (h1 : pm_go t ls st u g h = some (.inl (pc', ls', st', u', g', h'))) : t = (pc' : Int) ∧ ls' = ls ∧ st' = st ∧ u' = u ∧ g' = g ∧ h' = h := by
  unfold pm_go at h1
  split at h1
  · rename_i ht
    cases h1
    exact ⟨by omega, rfl, rfl, rfl, rfl, rfl⟩
  · cases h1
theorem sm_iconst (n : Int) : sm_A base b sc tx D cT SX (.iconst n) := by
  intro y d pc pc' p l e R s m args below meth c H locs Q ls ls' st st' u u' g g' h h' lsR len C I hl hd ha kk
  simp only [pm_ln] at hl
  subst hl
  simp only [pm_act, Option.some.injEq, Sum.inl.injEq, Prod.mk.injEq] at ha
  obtain ⟨rfl, rfl, rfl, rfl, rfl, rfl⟩ := ha
  exact lv_iconst C.1 C.2.1 hd rfl (kk lsR H locs I)
theorem sm_bipush (n : Int) : sm_A base b sc tx D cT SX (.bipush n) := by
  intro y d pc pc' p l e R s m args below meth c H locs Q ls ls' st st' u u' g g' h h' lsR len C I hl hd ha kk
  simp only [pm_ln] at hl
  subst hl
  simp only [pm_act, Option.some.injEq, Sum.inl.injEq, Prod.mk.injEq] at ha
  obtain ⟨rfl, rfl, rfl, rfl, rfl, rfl⟩ := ha
  exact lv_bipush C.1 C.2.1 hd rfl (kk lsR H locs I)
theorem sm_sipush (n : Int) : sm_A base b sc tx D cT SX (.sipush n) := by
  intro y d pc pc' p l e R s m args below meth c H locs Q ls ls' st st' u u' g g' h h' lsR len C I hl hd ha kk
  simp only [pm_ln] at hl
  subst hl
  simp only [pm_act, Option.some.injEq, Sum.inl.injEq, Prod.mk.injEq] at ha
  obtain ⟨rfl, rfl, rfl, rfl, rfl, rfl⟩ := ha
  exact lv_sipush C.1 C.2.1 hd rfl (kk lsR H locs I)
theorem sm_iload (k : Nat) : sm_A base b sc tx D cT SX (.iload k) := by
  intro y d pc pc' p l e R s m args below meth c H locs Q ls ls' st st' u u' g g' h h' lsR len C I hl hd ha kk
  simp only [pm_ln] at hl
  subst hl
  simp only [pm_act] at ha
  split at ha
  · rename_i x hx
    simp only [Option.some.injEq, Sum.inl.injEq, Prod.mk.injEq] at ha
    obtain ⟨rfl, rfl, rfl, rfl, rfl, rfl⟩ := ha
    exact lv_iload C.1 C.2.1 hd (sm_l_i I.1 hx) (kk lsR H locs I)
  · cases ha
theorem sm_iload_n (k : Fin 4) : sm_A base b sc tx D cT SX (.iload_n k) := by
  intro y d pc pc' p l e R s m args below meth c H locs Q ls ls' st st' u u' g g' h h' lsR len C I hl hd ha kk
  simp only [pm_ln] at hl
  subst hl
  simp only [pm_act] at ha
  split at ha
  · rename_i x hx
    simp only [Option.some.injEq, Sum.inl.injEq, Prod.mk.injEq] at ha
    obtain ⟨rfl, rfl, rfl, rfl, rfl, rfl⟩ := ha
    exact lv_iload_n C.1 C.2.1 hd rfl (sm_l_i I.1 hx) (kk lsR H locs I)
  · cases ha
theorem sm_aload (k : Nat) : sm_A base b sc tx D cT SX (.aload k) := by
  intro y d pc pc' p l e R s m args below meth c H locs Q ls ls' st st' u u' g g' h h' lsR len C I hl hd ha kk
  simp only [pm_ln] at hl
  subst hl
  simp only [pm_act] at ha
  split at ha
  · rename_i x hx
    simp only [Option.some.injEq, Sum.inl.injEq, Prod.mk.injEq] at ha
    obtain ⟨rfl, rfl, rfl, rfl, rfl, rfl⟩ := ha
    exact lv_aload C.1 C.2.1 hd (sm_l_r I.1 hx) (kk lsR H locs I)
  · cases ha
theorem sm_aload_n (k : Fin 4) : sm_A base b sc tx D cT SX (.aload_n k) := by
  intro y d pc pc' p l e R s m args below meth c H locs Q ls ls' st st' u u' g g' h h' lsR len C I hl hd ha kk
  simp only [pm_ln] at hl
  subst hl
  simp only [pm_act] at ha
  split at ha
  · rename_i x hx
    simp only [Option.some.injEq, Sum.inl.injEq, Prod.mk.injEq] at ha
    obtain ⟨rfl, rfl, rfl, rfl, rfl, rfl⟩ := ha
    exact lv_aload_n C.1 C.2.1 hd rfl (sm_l_r I.1 hx) (kk lsR H locs I)
  · cases ha
theorem sm_istore (k : Nat) : sm_A base b sc tx D cT SX (.istore k) := by
  intro y d pc pc' p l e R s m args below meth c H locs Q ls ls' st st' u u' g g' h h' lsR len C I hl hd ha kk
  simp only [pm_ln] at hl
  subst hl
  simp only [pm_act] at ha
  split at ha
  · rename_i x st0
    split at ha
    · rename_i hk
      simp only [Option.some.injEq, Sum.inl.injEq, Prod.mk.injEq] at ha
      obtain ⟨rfl, rfl, rfl, rfl, rfl, rfl⟩ := ha
      refine lv_istore C.1 C.2.1 hd I.1 (by rw [← I.2.1]; exact hk) rfl (fun lsR' hl' => kk lsR' H locs ⟨sm_l_set hl' (fun q hq => by cases hq; rfl), by rw [List.length_set]; exact I.2.1, I.2.2⟩)
    · cases ha
  · cases ha
theorem sm_istore_n (k : Fin 4) : sm_A base b sc tx D cT SX (.istore_n k) := by
  intro y d pc pc' p l e R s m args below meth c H locs Q ls ls' st st' u u' g g' h h' lsR len C I hl hd ha kk
  simp only [pm_ln] at hl
  subst hl
  simp only [pm_act] at ha
  split at ha
  · rename_i x st0
    split at ha
    · rename_i hk
      simp only [Option.some.injEq, Sum.inl.injEq, Prod.mk.injEq] at ha
      obtain ⟨rfl, rfl, rfl, rfl, rfl, rfl⟩ := ha
      refine lv_istore_n C.1 C.2.1 hd rfl I.1 (by rw [← I.2.1]; exact hk) rfl (fun lsR' hl' => kk lsR' H locs ⟨sm_l_set hl' (fun q hq => by cases hq; rfl), by rw [List.length_set]; exact I.2.1, I.2.2⟩)
    · cases ha
  · cases ha
theorem sm_astore (k : Nat) : sm_A base b sc tx D cT SX (.astore k) := by
  intro y d pc pc' p l e R s m args below meth c H locs Q ls ls' st st' u u' g g' h h' lsR len C I hl hd ha kk
  simp only [pm_ln] at hl
  subst hl
  simp only [pm_act] at ha
  split at ha
  · rename_i x st0
    split at ha
    · rename_i hk
      simp only [Option.some.injEq, Sum.inl.injEq, Prod.mk.injEq] at ha
      obtain ⟨rfl, rfl, rfl, rfl, rfl, rfl⟩ := ha
      refine lv_astore C.1 C.2.1 hd I.1 (by rw [← I.2.1]; exact hk) rfl (fun lsR' hl' => kk lsR' H locs ⟨sm_l_set hl' (fun q hq => by cases hq; rfl), by rw [List.length_set]; exact I.2.1, I.2.2⟩)
    · cases ha
  · cases ha
theorem sm_astore_n (k : Fin 4) : sm_A base b sc tx D cT SX (.astore_n k) := by
  intro y d pc pc' p l e R s m args below meth c H locs Q ls ls' st st' u u' g g' h h' lsR len C I hl hd ha kk
  simp only [pm_ln] at hl
  subst hl
  simp only [pm_act] at ha
  split at ha
  · rename_i x st0
    split at ha
    · rename_i hk
      simp only [Option.some.injEq, Sum.inl.injEq, Prod.mk.injEq] at ha
      obtain ⟨rfl, rfl, rfl, rfl, rfl, rfl⟩ := ha
      refine lv_astore_n C.1 C.2.1 hd rfl I.1 (by rw [← I.2.1]; exact hk) rfl (fun lsR' hl' => kk lsR' H locs ⟨sm_l_set hl' (fun q hq => by cases hq; rfl), by rw [List.length_set]; exact I.2.1, I.2.2⟩)
    · cases ha
  · cases ha
theorem sm_iinc (k : Nat) (n : Int) : sm_A base b sc tx D cT SX (.iinc k n) := by
  intro y d pc pc' p l e R s m args below meth c H locs Q ls ls' st st' u u' g g' h h' lsR len C I hl hd ha kk
  simp only [pm_ln] at hl
  subst hl
  simp only [pm_act] at ha
  split at ha
  · rename_i x hx
    simp only [Option.some.injEq, Sum.inl.injEq, Prod.mk.injEq] at ha
    obtain ⟨rfl, rfl, rfl, rfl, rfl, rfl⟩ := ha
    have hk : k < ls.length := (List.getElem?_eq_some_iff.mp hx).1
    have hm : ((k, Value.int x) : Nat × Value) ∈ sm_l (sm_ad base b tx) ls := sm_l_mem.mpr ⟨_, hx, rfl⟩
    obtain ⟨j, hj⟩ := List.getElem?_of_mem hm
    refine lv_iinc C.1 C.2.1 hd I.1 hj rfl (by rw [← I.2.1]; exact hk) rfl (fun lsR' hl' => kk lsR' H locs ⟨sm_l_set hl' (fun q hq => by cases hq; rfl), by rw [List.length_set]; exact I.2.1, I.2.2⟩)
  · cases ha
end SA
