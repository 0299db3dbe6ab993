/-! throws: new X(text) in RowProver -/
abbrev sx_nm : List String := ["java/lang/RuntimeException", "java/lang/Exception"]
/-- the pool entries of the throws, with the class's name -/
def sx_xt : List (Nat × Nat × String) := pm_xt.map fun e => (e.1, e.2.1, (pm_xn[e.2.2]?).getD "")
theorem sx_xt_eq : sx_xt = [(118, 122, "java/lang/IllegalArgumentException"), (310, 314, "java/lang/IndexOutOfBoundsException"), (146, 150, "java/util/NoSuchElementException"), (175, 179, "java/lang/IllegalStateException")] := by decide +kernel
/-- the words of a throw, but for those that speak of the heap -/
def sx_wd (e : Nat × Nat × String) : List Jvm.Cond := if e.2.1 = 150 then (sx_atoms RX11 150 "java/util/NoSuchElementException" "java/lang/RuntimeException" 13 prog_39_method_4_code ["java/lang/Exception"]).filter vx_no else vx_atS RX11 e.2.1 e.2.2 sx_nm
/-- the words that are kept by premises of their own -/
def sx_B : List Jvm.Cond := sx_xt.flatMap fun e => (sx_wd e).filter (fun w => !goodWord w)
theorem sx_at1 : ∀ w ∈ (sx_wd (118, 122, "java/lang/IllegalArgumentException")).filter goodWord, w ∈ lw_tbl := by decide +kernel
theorem sx_at2 : ∀ w ∈ (sx_wd (146, 150, "java/util/NoSuchElementException")).filter goodWord, w ∈ lw_tbl := by decide +kernel
theorem sx_at3 : ∀ w ∈ (sx_wd (310, 314, "java/lang/IndexOutOfBoundsException")).filter goodWord, w ∈ lw_tbl := by decide +kernel
theorem sx_at4 : ∀ w ∈ (sx_wd (175, 179, "java/lang/IllegalStateException")).filter goodWord, w ∈ lw_tbl := by decide +kernel
theorem sx_at : ∀ e ∈ sx_xt, ∀ w ∈ (sx_wd e).filter goodWord, w ∈ lw_tbl := by
  rw [sx_xt_eq]
  exact List.forall_mem_cons.mpr ⟨sx_at1, List.forall_mem_cons.mpr ⟨sx_at3, List.forall_mem_cons.mpr ⟨sx_at2, List.forall_mem_cons.mpr ⟨sx_at4, fun _ h => absurd h List.not_mem_nil⟩⟩⟩⟩
set_option maxRecDepth 100000 in
theorem sx_ot : ∀ e ∈ sx_xt, (∀ w ∈ Jvm.Cond.classLink RX11 e.1 e.2.2 :: Jvm.Cond.initialized e.2.2 :: sx_wd e, vx_ot w = true) ∧ Bundle.fit e.2.2 = true := by decide +kernel
set_option maxRecDepth 100000 in
theorem sx_lk : ∀ e ∈ sx_xt, (∀ w ∈ [Jvm.Cond.classLink RX11 e.1 e.2.2, Jvm.Cond.initialized e.2.2], w ∈ lw_tbl ∧ goodWord w = true) := by decide +kernel
theorem sx_fn : ∀ n ∈ sx_nm, Bundle.fit n = true := by decide +kernel
set_option maxRecDepth 100000 in
theorem sx_B_in : ∀ w ∈ sx_B, w ∈ lw_tbl := by decide +kernel
theorem sx_150 : ∀ e ∈ sx_xt, e.2.1 = 150 → e = (146, 150, "java/util/NoSuchElementException") := by decide +kernel
def sx_kd (w : Jvm.Cond) : Bool := match w with | .castable .. => true | .declares .. => true | _ => false
theorem sx_B_kd : ∀ w ∈ sx_B, sx_kd w = true := by decide +kernel
theorem sx_kd_ot {w : Jvm.Cond} (h : sx_kd w = true) : w.onTables = true := by
  cases w <;> first | rfl | (simp [sx_kd] at h)
theorem sx_kd_warm {w : Jvm.Cond} (h : sx_kd w = true) {s U : State} (hW : s.WarmedH U.vm) (hz : va_Nw w s) : va_Nw w U := by
  cases w <;> first | exact va_Nw.warmC hW hz | exact va_Nw.warmD hW hz | (simp [sx_kd] at h)
/-- what is known of the start beside the script: texts and statics of the JDK's, some links -/
def sx_E (base : Nat) (U : State) (H : Heap) : Prop :=
  (∀ is ∈ pm_xm, ∃ (t : String) (a : Nat), vk_R RX11 is t a U) ∧ vx_Zq Bundle.tN "UNASSIGNED_STACK" Bundle.steD (fun q => base ≤ q) U H ∧ vx_Zq Bundle.tN "SUPPRESSED_SENTINEL" Bundle.listD (fun q => base ≤ q) U H ∧ (∀ w ∈ sx_B, va_Nw w U)
theorem sx_E_warm {base : Nat} {s U : State} {H : Heap} (hW : s.WarmedH U.vm) (h : sx_E base s H) : sx_E base U H :=
  ⟨fun is hi => by obtain ⟨t, a, q⟩ := h.1 is hi; exact ⟨t, a, q.warm hW⟩, h.2.1.moved hW.alike, h.2.2.1.moved hW.alike, fun w hw => sx_kd_warm (sx_B_kd w hw) hW (h.2.2.2 w hw)⟩
theorem sx_E_same {base : Nat} {s U : State} {H : Heap} (hv : s.vm = U.vm) (h : sx_E base s H) : sx_E base U H :=
  ⟨fun is hi => by obtain ⟨t, a, q⟩ := h.1 is hi; exact ⟨t, a, q.same hv.symm⟩, h.2.1.moved (by rw [hv]; exact Vm.Alike.refl _), h.2.2.1.moved (by rw [hv]; exact Vm.Alike.refl _), fun w hw => (h.2.2.2 w hw).same (sx_kd_ot (sx_B_kd w hw)) hv⟩
theorem sx_E_kept {base : Nat} {U : State} {H H1 : Heap} (hq : ∀ q : Nat, q < base → H1[q]? = H[q]?) (h : sx_E base U H) : sx_E base U H1 :=
  ⟨h.1, h.2.1.kept (fun a _ hA => hq a (Nat.lt_of_not_le hA)), h.2.2.1.kept (fun a _ hA => hq a (Nat.lt_of_not_le hA)), h.2.2.2⟩
