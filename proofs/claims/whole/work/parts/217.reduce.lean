/-! THE CLAIM OUT OF ONE WALK OF THE LAW'S BODY. Your part is whole_start (and what it stands on); all else here is the same for every law, but numbers. -/
def R_law : String := "RowProverLaw"
def lw_P (b : Addr) (xs : List Int32) (args : Array Value) (s : State) : Prop := args = #[.ref b] ∧ s.IntsAt b xs ∧ xs.length ≤ 3072 ∧ (Jvm.Cond.and given_1 narrow_1).before args s = true
def lw_Q (_ : Array Value) (s : State) (o : Outcome) (t : State) : Prop := o = .returned (some (.int 1)) ∧ Framed s o t [] 601024 7293034
def lw_Z (below : List Frame) (a : Array Value) (s : State) : State → Prop := fun t => ∃ o, t.status = .running ∧ Ended t below o ∧ lw_Q a s o t
/-- the law's own end, with 1 on the stack, nothing written that was there before, its room as the claim has it -/
theorem lw_ret {p : Program} {l : Launch} {e : Env} {s : State} {m : MethodId} {below : List Frame} {meth : Method} {c : Code} {b : Nat} (hx : p.tables.exec = Jvm.exec) (hb : c.code = code) (hr : meth.sig.returnType = ret) (hlocks : meth.locks = false) {pc : Nat} {H : Heap} {ls : Array Slot} (hdg : decode code pc = .ok (.ireturn, 1)) : W p l e room_1 s m #[Value.ref b] below meth c H [] 601024 7293034 (lw_Z below #[Value.ref b] s) (F0 m pc ls [.int 1]) := by
  intro T hT X
  obtain ⟨fs, hret, hrun, hended, hW, hframe⟩ := X.leave (v := some (.int 1)) (hlocks := hlocks) (fun h => by rw [hr] at h; cases h)
  have hmeth' : T.vm.method? m = some meth := X.method'
  refine ⟨T.setFrames fs, ?_, .returned (some (.int 1)), hrun, hended, rfl, ⟨_, rfl⟩, hW, hframe⟩
  jvm_step X.here [X.here.top, hx, hb, hdg, hmeth', hr, ret, narrow_b1]
  (try refine ⟨rfl, ?_⟩); (try refine ⟨rfl, ?_⟩)
  first | (intro acts; rw [hret _ acts rfl rfl rfl]) | rw [hret _ _ rfl rfl rfl]
  exact Steps.refl _
/-- what holds at the law's entry: the machine, the code, the tables' words (any of lw_tbl by 'hts w (by decide +kernel)'), the script of L ints xs at the cell b, what the Statement gives of the start (any of its parts by flat_of_before) -/
def lw_At (p : Program) (s : State) (m : MethodId) (meth : Method) (c : Code) (b L : Nat) (xs : Nat → Int32) : Prop :=
  p.tables.exec = Jvm.exec ∧ c.code = code ∧ meth.sig.returnType = ret ∧ c.maxLocals = 7 ∧ s.vm.findClass R_law = some m.cls ∧ (∀ w ∈ lw_tbl, w.before #[Value.ref b] s = true) ∧ va_X b L xs s s.heap ∧ b < s.heap.size ∧ meth.locks = false ∧ (Jvm.Cond.and given_1 narrow_1).before #[Value.ref b] s = true
/-- THE CLAIM OF THE PURE MACHINE: on every script of at most N ints the law comes to its end with 1 -/
def pm_h0 : PH := fun _ => .inr (0, [])
def pm_Claim (N : Nat) : Prop := ∀ (L : Nat) (xs : Nat → Int32), L ≤ N → ∃ (n : Nat) (g : PG) (h : PH), pm_exec (L, xs) n 832 252 0 ([Value.ref 1000000] ++ List.replicate 6 pm_no) [] (0, 0) (0, true) pm_h0 = some (.inl (some (.int 1)), g, h)
theorem st_law : pm_code 252 = code ∧ pm_nL 252 = 7 ∧ pm_cn (pm_own 252) = R_law ∧ pm_ini 252 = false ∧ pm_bc 252 = 601024 ∧ pm_bs 252 = 7293034 ∧ pm_hh 252 = [] := ⟨rfl, rfl, rfl, rfl, rfl, rfl, rfl⟩
theorem st_whole (hp : pm_Claim 3072) {p : Program} {e : Env} {s : State} {m : MethodId} {below : List Frame} {meth : Method} {c : Code} (l : Launch) (hflags : l.flags = flags0) {b L : Nat} {xs : Nat → Int32} (hL : L ≤ 3072) (C0 : lw_At p s m meth c b L xs) : W p l e room_1 s m #[Value.ref b] below meth c s.heap [] 0 0 (lw_Z below #[Value.ref b] s) (entryFrame m ([Value.ref b] : List Value).toArray 7) := by
  obtain ⟨hx, hb, hr, hml, hown, hts, hX, hbl, hlocks, hgv⟩ := C0
  have hst : l.stackTraces = false := by
    unfold Launch.stackTraces
    rw [hflags]
    decide +kernel
  have hn : ∀ w ∈ flatC narrow_1, w.before #[Value.ref b] s = true := fun w hw => flat_of_before _ hgv w (List.mem_append_right _ hw)
  obtain ⟨D, cT, hK⟩ := sx_K hts
  obtain ⟨tx, hSX⟩ := sx_X0 hts hn
  obtain ⟨n, g, h, he⟩ := hp L xs hL
  obtain ⟨l1, l2, l3, l4, l5, l6, l7⟩ := st_law
  have C : sm_C s.heap.size b (L, xs) D cT (sx_X s.heap.size tx) 252 832 p room_1 s m #[Value.ref b] meth c :=
    ⟨hx, hb.trans l1.symm, hml, by rw [l3]; exact hown, fun w hw => hts w (List.mem_filter.mp hw).1, hK, hX, hbl, Nat.le_refl _, fun q => (by rw [l4] at q; cases q), rfl, rfl, by decide, by decide, hSX, by decide⟩
  have hbad : sm_ad s.heap.size b tx 1000000 = b := by unfold sm_ad; rw [if_neg (by omega), if_pos rfl]
  have hent := sm_entry (ad := sm_ad s.heap.size b tx) (as := [.ref 1000000]) (nL := 7) rfl (by decide)
  have hv : ([Value.ref 1000000] : List Value).map (sm_v (sm_ad s.heap.size b tx)) = [Value.ref b] := by
    show [Value.ref (sm_ad s.heap.size b tx 1000000)] = _
    rw [hbad]
  rw [hv] at hent
  rw [lg_entry_eq]
  refine sx_all hst n 252 832 0 _ [] (0, 0) (0, true) pm_h0 _ p e room_1 s m _ below meth c s.heap [] _ _ C ⟨hent, rfl, fun k q hq => by simp [sm_w] at hq, va_S.rf, fun _ => rfl, by decide⟩ ?_ ?_ (sm_cat0 l7) he
  · intro pc ls st u g1 h1 lsR H locs i len r0 I hl hd ha er
    have e0 : r0 = .inl (some (.int 1)) := (congrArg (fun q : PR => q.1) er).symm
    subst e0
    rcases pm_act_end ha with rfl | rfl | ⟨idx, rfl⟩
    · simp only [pm_ln] at hl
      subst hl
      simp only [pm_act] at ha
      split at ha
      · split at ha
        · rename_i hc
          simp only [Option.some.injEq, Sum.inr.injEq, Sum.inl.injEq] at ha
          injection ha with ha
          subst ha
          have hf := sm_fits hc.2
          refine W.widen (k := 601024) (n := 7293034) (by have := hf.1; rw [l5] at this; omega) (by have := hf.2; rw [l6] at this; omega) ?_
          exact va_forget I.2.2.2.1.2.2 (lw_ret hx hb hr hlocks (by rw [← l1]; exact hd))
        · cases ha
      · cases ha
    · simp only [pm_act] at ha
      split at ha
      · split at ha
        · simp at ha
        · cases ha
      · cases ha
    · simp only [pm_act] at ha
      split at ha
      · split at ha
        · simp at ha
        · cases ha
      · split at ha <;> cases ha
      · cases ha
  · intro _ pc st u g1 h1 lsR H locs k E ce q er
    cases congrArg (fun q : PR => q.1) er
