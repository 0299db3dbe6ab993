/-- texts: what is known of them all along -/
def sx_tn : List String := ["array", "out", "if", "else", "while", "in", "array", "out", "if", "while", "else", "in"]
def sx_S (base : Nat) (tx : Nat → Nat) (U : State) (H : Heap) : Prop :=
  (∀ (j : Nat) (q : Nat × Nat) (t : String), pm_st[j]? = some q → sx_tn[j]? = some t → vk_R (pm_cn q.1) q.2 t (tx j) U) ∧
  (∀ (j : Nat) (t : List Nat), pm_tx[j]? = some t → ∃ av, va_O "java/lang/String" (tx j) (fun q => base ≤ q) U H ∧ va_OF "java/lang/String" "coder" "B" (.int 0) (tx j) (fun q => base ≤ q) U H ∧ va_OF "java/lang/String" "value" "[B" (.ref av) (tx j) (fun q => base ≤ q) U H ∧ va_T .byte av t.length (fun i => .int (nI (t.getD i 0))) (fun q => base ≤ q) U H) ∧
  va_Z "java/lang/String" "COMPACT_STRINGS" "Z" (.int 1) (fun q => base ≤ q) U H ∧ va_Zq "jdk/internal/util/Preconditions" "SIOOBE_FORMATTER" "Ljava/util/function/BiFunction;" (fun q => base ≤ q) U H
theorem sx_S_warm {base : Nat} {tx : Nat → Nat} {s U : State} {H : Heap} (hW : s.WarmedH U.vm) (h : sx_S base tx s H) : sx_S base tx U H :=
  ⟨fun j q t h1 h2 => (h.1 j q t h1 h2).warm hW, fun j t h1 => by obtain ⟨av, a1, a2, a3, a4⟩ := h.2.1 j t h1; exact ⟨av, a1.moved hW.alike, a2.moved hW.alike, a3.moved hW.alike, a4.moved hW.alike⟩, h.2.2.1.moved hW.alike, h.2.2.2.moved hW.alike⟩
theorem sx_S_same {base : Nat} {tx : Nat → Nat} {s U : State} {H : Heap} (hv : s.vm = U.vm) (h : sx_S base tx s H) : sx_S base tx U H := by
  have ha : s.vm.Alike U.vm := by rw [hv]; exact Vm.Alike.refl _
  exact ⟨fun j q t h1 h2 => (h.1 j q t h1 h2).same hv.symm, fun j t h1 => by obtain ⟨av, a1, a2, a3, a4⟩ := h.2.1 j t h1; exact ⟨av, a1.moved ha, a2.moved ha, a3.moved ha, a4.moved ha⟩, h.2.2.1.moved ha, h.2.2.2.moved ha⟩
theorem sx_S_kept {base : Nat} {tx : Nat → Nat} {U : State} {H H1 : Heap} (hq : ∀ q : Nat, q < base → H1[q]? = H[q]?) (h : sx_S base tx U H) : sx_S base tx U H1 := by
  have k : ∀ a : Nat, a < H.size → ¬ base ≤ a → H1[a]? = H[a]? := fun a _ hA => hq a (Nat.lt_of_not_le hA)
  exact ⟨h.1, fun j t h1 => by obtain ⟨av, a1, a2, a3, a4⟩ := h.2.1 j t h1; exact ⟨av, a1.kept k, a2.kept k, a3.kept k, a4.kept k⟩, h.2.2.1.kept k, h.2.2.2.kept k⟩
def sx_PS (base : Nat) (tx : Nat → Nat) (as : List Value) : Array Value → State → Prop := fun v U => v = as.toArray ∧ sx_S base tx U U.heap
theorem sx_PS_blind {base : Nat} {tx : Nat → Nat} {as : List Value} : FrameBlind (sx_PS base tx as) := fun _ _ _ _ h => ⟨h.1, sx_S_same rfl h.2⟩
def sx_Rm (n : Nat) : Room := { frames := n, cells := 0, slots := 0, locals := n * 100 }
def sx_Qv : Array Value → State → Outcome → State → Prop := fun _ st o t => o = .returned none ∧ t.heap = st.heap
section STX
variable {p : Program} {l : Launch} {e : Env} {R : Room} {s : State} {m : MethodId} {args : Array Value} {below : List Frame} {meth : Method} {c : Code} {H : Heap} {locs : List Loc} {cells slots : Nat} {Q : State → Prop}
theorem sx_callv {a : Array Value} {g : JFrame} {rest : List Value} (hr : CallRun p l e R s m args below meth c H locs cells slots 0 0 g rest (sx_Qv a) (fun _ => False)) (kk : W p l e R s m args below meth c H locs cells slots Q { g with pc := g.pc + 3, stack := rest }) : W p l e R s m args below meth c H locs cells slots Q g := by
  refine t_callN hr (fun _ _ _ h => Outcome.returned.inj h.1) (fun _ t L hL h0 hq => ?_)
  have same : t.heap = H := hq.2.trans h0
  rw [same]
  exact W.forget (fun q h => (hL q h).elim) kk
end STX
section STY
variable {base : Nat} {tx : Nat → Nat} {l : Launch}
theorem sx_sww {s : State} {args : Array Value} (hts : ∀ w ∈ pm_ws, w.before args s = true) (k : Nat) {w : Jvm.Cond} (hk : sx_sw[k]? = some w) : w.before args s = true := hts _ (sx_sw_in _ (List.mem_of_getElem? hk))
theorem sx_scg (k : Nat) {w : Jvm.Cond} (hk : sx_sc[k]? = some w) : GoodIn pm_ws (w :: pm_ws) := sm_good (List.forall_mem_cons.mpr ⟨sx_sc_in _ (List.mem_of_getElem? hk), fun _ h => h⟩)
/-- Preconditions.checkIndex, in range -/
theorem sx_cPre {i n : Int32} {z : Value} (h1 : ¬ i < 0) (h2 : i < n) : Met l yJ3_checkIndex_8e157 (.code yJ3_checkIndex_8e157 cJ3_checkIndex_8e157 3 (some .int) :: pm_ws) (sx_Rm 1) (fun v _ => v = #[.int i, .int n, z]) (QcRead i) 0 0 (fun _ => False) := by
  refine Met.ofW (cc := cJ3_checkIndex_8e157) (maxL := 3) (ret := some .int) (by decide +kernel) rfl ?_
  intro p e s m args below meth c s₁ B hml hv
  subst hv
  have hx := B.exec
  have hb := B.bytes
  have hr := B.returns
  have hlocks := B.notSynchronized
  rw [show (#[.int i, .int n, z] : Array Value) = ([.int i, .int n, z] : List Value).toArray from rfl]
  rw [lg_entry_eq]
  have hcz := lv_cat z
  have hl : ∃ ls : Array Slot, ((lg_sl [.int i, .int n, z] ++ List.replicate (3 - (lg_sl [.int i, .int n, z]).length) Slot.unset).toArray) = ls ∧ ls[0]? = some (.val (.int i)) ∧ ls[1]? = some (.val (.int n)) := by
    refine ⟨_, rfl, ?_, ?_⟩
    · simp [lg_sl, Value.category]
    · simp [lg_sl, Value.category]
  obtain ⟨ls, e1, e2, e3⟩ := hl
  rw [e1]
  refine lv_iload_n hx hb (by decide +kernel : decode cJ3_checkIndex_8e157 0 = .ok (.iload_n 0, 1)) rfl e2 ?_
  refine lv_if_lt (tgt := 9) hx hb (by decide +kernel : decode cJ3_checkIndex_8e157 1 = .ok (.ifCond .lt 8, 3)) (by decide) (fun q => absurd q h1) (fun _ => ?_)
  refine lv_iload_n hx hb (by decide +kernel : decode cJ3_checkIndex_8e157 4 = .ok (.iload_n 0, 1)) rfl e2 ?_
  refine lv_iload_n hx hb (by decide +kernel : decode cJ3_checkIndex_8e157 5 = .ok (.iload_n 1, 1)) rfl e3 ?_
  refine lv_icmp_lt (tgt := 16) hx hb (by decide +kernel : decode cJ3_checkIndex_8e157 6 = .ok (.if_icmp .lt 10, 3)) (by decide) (fun _ => ?_) (fun q => absurd h2 q)
  refine lv_iload_n hx hb (by decide +kernel : decode cJ3_checkIndex_8e157 16 = .ok (.iload_n 0, 1)) rfl e2 ?_
  exact W.iret hx hb hr (fun t ht _ => ⟨rfl, ht⟩) (fun _ h => by cases h) (by decide +kernel : decode cJ3_checkIndex_8e157 17 = .ok (.ireturn, 1)) hlocks
/-- String.checkIndex, in range -/
theorem sx_cChk {i n : Int32} (h1 : ¬ i < 0) (h2 : i < n) : Met l yJ0_checkIndex_df160 (.code yJ0_checkIndex_df160 cJ0_checkIndex_df160 2 none :: pm_ws) (sx_Rm 2) (sx_PS base tx [.int i, .int n]) sx_Qv 0 0 (fun _ => False) := by
  refine Met.ofW (cc := cJ0_checkIndex_df160) (maxL := 2) (ret := none) (by decide +kernel) rfl ?_
  intro p e s m args below meth c s₁ B hml hv
  obtain ⟨rfl, hS⟩ := hv
  have hx := B.exec
  have hb := B.bytes
  have hr := B.returns
  have hlocks := B.notSynchronized
  have hts : ∀ w ∈ pm_ws, w.before _ s = true := fun w hw => atoms_spec (ws := _ :: pm_ws) B.pre w (List.mem_cons_of_mem _ hw)
  have hown : s.vm.findClass RJ0 = some m.cls := findClass_of_methodNamed B.named
  have hl := lv_entry ([.int i, .int n]) (n := 2) (Nat.le_of_ble_eq_true rfl)
  rw [lg_entry_eq]
  generalize (lg_sl ([.int i, .int n]) ++ List.replicate (2 - (lg_sl ([.int i, .int n])).length) Slot.unset).toArray = ls at hl ⊢
  have hl : lv_has ls 2 [(0, .int i), (1, .int n)] := hl
  refine lv_iload_n hx hb (by decide +kernel : decode cJ0_checkIndex_df160 0 = .ok (.iload_n 0, 1)) rfl (lv_at hl 0 rfl) ?_
  refine lv_iload_n hx hb (by decide +kernel : decode cJ0_checkIndex_df160 1 = .ok (.iload_n 1, 1)) rfl (lv_at hl 1 rfl) ?_
  have fin : ∀ z : Value, z.category = 1 → W p l e (sx_Rm 2) s m ([.int i, .int n] : List Value).toArray below meth c s.heap [] 0 0 (MQ below sx_Qv ([.int i, .int n] : List Value).toArray s 0 0 (fun _ => False)) (F0 m 5 ls [z, .int n, .int i]) := by
    intro z hz
    refine W.callR (r := i) (rest := []) (a := #[.int i, .int n, z]) (W.runS (As := [.int i, .int n, z]) (rest := []) (n := 3) (cc := cJ0_checkIndex_df160) (own := RJ0) (index := 1059) ⟨hx, hb, hml, hown, hts⟩ (sx_cPre h1 h2) ⟨callB_of 3 hts (sx_scg 6 rfl) rfl rfl rfl (sx_sww hts 22 rfl) (sx_sww hts 8 rfl) (by decide +kernel) ⟨Nat.le_of_ble_eq_true rfl, Nat.le_of_ble_eq_true rfl⟩, sx_sww hts 19 rfl⟩ ⟨fun _ _ _ _ h => h, fun U _ _ => rfl⟩ rfl rfl hl.1 rfl (by show 2 * 0 + 0 ≤ 8; omega) (by decide +kernel : decode cJ0_checkIndex_df160 5 = .ok (.invokestatic 1059, 3)) ⟨Nat.le_refl _, Nat.le_refl _⟩) ?_
    refine lv_pop hx hb (by decide +kernel : decode cJ0_checkIndex_df160 8 = .ok (.pop, 1)) rfl ?_
    exact W.vret hx hb hr (fun t ht _ => ⟨rfl, ht⟩) (fun _ h => by cases h) (by decide +kernel : decode cJ0_checkIndex_df160 9 = .ok (.return_, 1)) hlocks
  rcases hS.2.2.2 with hZ | ⟨t9, hZ⟩
  · exact va_gets (own := RJ0) (ref := "jdk/internal/util/Preconditions") (index := 1053) hx hb hZ va_S.rf hown (sx_sww hts 3 rfl) (fun _ h => h) (by decide +kernel : decode cJ0_checkIndex_df160 2 = .ok (.getstatic 1053, 3)) (fin _ rfl)
  · exact va_gets (own := RJ0) (ref := "jdk/internal/util/Preconditions") (index := 1053) hx hb hZ va_S.rf hown (sx_sww hts 3 rfl) (fun _ h => h) (by decide +kernel : decode cJ0_checkIndex_df160 2 = .ok (.getstatic 1053, 3)) (fin _ rfl)
end STY
