/-! THE START: what the Statement gives of it -/
def sx_X (base : Nat) (tx : Nat → Nat) (U : State) (H : Heap) : Prop :=
  sx_E base U H ∧ sx_S base tx U H ∧ (Jvm.Cond.arrayOver (.array .int)).before #[] U = true ∧ (∀ own idx y : Nat, pm_mth own idx = some (3, y) → va_Nw (.methodLinkNest (pm_cn own) idx (pm_name y) "RowProver") U) ∧ (∀ (i j : Nat) (E F : String), i ≠ j → pm_xn[i]? = some E → pm_xn[j]? = some F → va_Nc E F U)
theorem sx_ao {s : State} {args : Array Value} (h : (Jvm.Cond.arrayOver (.array .int)).before args s = true) : ∃ (comp c : ClassId) (k : Class), s.vm.findClass (FieldType.array .int).toString = some comp ∧ (s.vm.classes.findIdx? fun (x : Class) => match x.kind with | .array component _ => component == comp | _ => false) = some c ∧ s.vm.classes[c]? = some k ∧ (match k.kind with
      | .array _ ty => decide (ty = FieldType.array .int) && decide (s.vm.findClass ("[" ++ (FieldType.array .int).toString) = some c)
      | _ => false) = true := by
  unfold Jvm.Cond.before Jvm.Cond.holds at h
  simp only [Jvm.Cond.value, beq_iff_eq, Option.bind_eq_some_iff, Option.map_eq_some_iff] at h
  obtain ⟨comp, h1, c, h2, k, h3, h4⟩ := h
  exact ⟨comp, c, k, h1, h2, h3, h4⟩
theorem sx_ao_moved {u U : State} (hvm : u.vm.Alike U.vm) (h : (Jvm.Cond.arrayOver (.array .int)).before #[] u = true) : (Jvm.Cond.arrayOver (.array .int)).before #[] U = true := by
  obtain ⟨comp, c, k, h1, h2, h3, h4⟩ := sx_ao h
  obtain ⟨k', hk', he⟩ := hvm.2.2 _ _ h3
  have hi : (U.vm.classes.findIdx? fun (x : Class) => match x.kind with | .array component _ => component == comp | _ => false) = some c := by
    have e1 := va_idx_bare U.vm comp
    have e2 := va_idx_bare u.vm comp
    first | rw [hvm.bare_eq] at e1 | rw [← hvm.bare_eq] at e1
    exact e1.symm.trans (e2.trans h2)
  have hkind : k'.kind = k.kind := by rw [he]
  unfold Jvm.Cond.before Jvm.Cond.holds
  simp only [Jvm.Cond.value, beq_iff_eq, Option.bind_eq_some_iff, Option.map_eq_some_iff]
  refine ⟨comp, by rw [hvm.findClass]; exact h1, c, hi, k', hk', ?_⟩
  rw [hkind, hvm.findClass]
  exact h4
theorem sx_X_ok {base : Nat} {tx : Nat → Nat} : sm_SX base (sx_X base tx) :=
  ⟨fun s U H hW h => ⟨sx_E_warm hW h.1, sx_S_warm hW h.2.1, sx_ao_moved hW.alike h.2.2.1, fun own idx y hm => va_Nw.warmM hW (h.2.2.2.1 own idx y hm), fun i j E F h1 h2 h3 => (h.2.2.2.2 i j E F h1 h2 h3).moved hW.alike⟩,
   fun U V H hv h => ⟨sx_E_same hv h.1, sx_S_same hv h.2.1, sx_ao_moved (by rw [hv]; exact Vm.Alike.refl _) h.2.2.1, fun own idx y hm => va_Nw.same rfl hv (h.2.2.2.1 own idx y hm), fun i j E F h1 h2 h3 => (h.2.2.2.2 i j E F h1 h2 h3).moved (by rw [hv]; exact Vm.Alike.refl _)⟩,
   fun U H H1 hq h => ⟨sx_E_kept hq h.1, sx_S_kept hq h.2.1, h.2.2⟩⟩
/-- the real machine follows the pure one -/
theorem sx_all {base b : Nat} {sc : Nat × (Nat → Int32)} {tx : Nat → Nat} {D : va_G} {cT : Nat → ClassId} {l : Launch} (hst : l.stackTraces = false) : ∀ n, sm_G base b sc tx D cT (sx_X base tx) l n :=
  sm_main sx_X_ok ⟨sm_ldc (fun _ _ h => h.2.1), sm_ldc_w (fun _ _ h => h.2.1)⟩ (sm_invokevirtual (fun _ _ h => h.2.1)) (sm_multi (fun _ _ h => h.2.2.1)) (sm_throws hst (fun _ _ h => h.1)) (sm_catches (fun _ _ h => h.1) (fun _ _ h => h.2.2.2.2)) sm_nothr (fun _ _ own idx y h hm => h.2.2.2.1 own idx y hm)
theorem sx_lay : ∀ (c : Nat) (q : vw_C), vwCl[c]? = some q → ∀ w ∈ u_ws q.1 q.2.1 q.2.2, w ∈ lw_tbl := by
  intro c q hq
  match c, hq with
  | 0, hq => cases hq; exact fun w hw => sx_lay0 w (List.mem_append_left _ hw)
  | 1, hq => cases hq; exact fun w hw => sx_lay0 w (List.mem_append_right _ (List.mem_append_left _ hw))
  | 2, hq => cases hq; exact fun w hw => sx_lay0 w (List.mem_append_right _ (List.mem_append_right _ hw))
  | 3, hq => cases hq; exact fun w hw => (List.mem_filter.mp (pm_lay3 w hw)).1
  | 4, hq => cases hq; exact fun w hw => (List.mem_filter.mp (pm_lay4 w hw)).1
  | 5, hq => cases hq; exact fun w hw => (List.mem_filter.mp (pm_lay5 w hw)).1
  | 6, hq => cases hq; exact fun w hw => (List.mem_filter.mp (pm_lay6 w hw)).1
  | 7, hq => cases hq; exact fun w hw => (List.mem_filter.mp (pm_lay7 w hw)).1
  | 8, hq => cases hq; exact fun w hw => (List.mem_filter.mp (pm_lay8 w hw)).1
  | 9, hq => cases hq; exact fun w hw => (List.mem_filter.mp (pm_lay9 w hw)).1
  | 10, hq => cases hq; exact fun w hw => (List.mem_filter.mp (pm_lay10 w hw)).1
  | 11, hq => cases hq; exact fun w hw => (List.mem_filter.mp (pm_lay11 w hw)).1
  | 12, hq => cases hq; exact fun w hw => (List.mem_filter.mp (pm_lay12 w hw)).1
  | 13, hq => cases hq; exact fun w hw => (List.mem_filter.mp (pm_lay13 w hw)).1
  | 14, hq => cases hq; exact fun w hw => (List.mem_filter.mp (pm_lay14 w hw)).1
  | 15, hq => cases hq; exact fun w hw => (List.mem_filter.mp (pm_lay15 w hw)).1
  | k + 16, hq => simp [vwCl] at hq
theorem sx_arr {s : State} {args : Array Value} {ty : FieldType} (h : (Jvm.Cond.arrayClass ty).before args s = true) : ∃ cA : ClassId, ArrOfT s cA ty ∧ s.vm.findClass ("[" ++ ty.toString) = some cA := by
  unfold Jvm.Cond.before Jvm.Cond.holds at h
  simp only [Jvm.Cond.value, beq_iff_eq, Option.bind_eq_some_iff, Option.map_eq_some_iff] at h
  obtain ⟨k, ⟨cA, h1, h2⟩, h3⟩ := h
  refine ⟨cA, ?_, h1⟩
  split at h3
  · rename_i comp ty' hk
    simp only [decide_eq_true_eq] at h3
    subst h3
    exact fun n z => ⟨fun k h => (by cases h), k, h2, comp, hk⟩
  · cases h3
theorem sx_arr2 {s : State} {args : Array Value} (h : (Jvm.Cond.arrayOver (.array .int)).before args s = true) : ∃ cA : ClassId, ArrOfT s cA (.array .int) ∧ s.vm.findClass ("[" ++ (FieldType.array .int).toString) = some cA := by
  obtain ⟨comp, c, k, h1, h2, h3, h4⟩ := sx_ao h
  split at h4
  · rename_i comp' ty' hk
    simp only [Bool.and_eq_true, decide_eq_true_eq] at h4
    obtain ⟨rfl, h5⟩ := h4
    exact ⟨c, fun n z => ⟨fun k h => (by cases h), k, h3, comp', hk⟩, h5⟩
  · cases h4
section ST
variable {s : State} {b : Nat}
theorem sx_K (hts : ∀ w ∈ lw_tbl, w.before #[Value.ref b] s = true) : ∃ (D : va_G) (cT : Nat → ClassId), va_K D vwCl (sm_ty cT) s := by
  have h1 : ∀ c : Nat, ∃ (cC : ClassId) (iS : Nat → Nat), ∀ q : vw_C, vwCl[c]? = some q → u_Kn s q.1 q.2.1 q.2.2 cC iS := by
    intro c
    cases hq : vwCl[c]? with
    | none => exact ⟨0, fun _ => 0, fun q h => by cases h⟩
    | some q =>
      obtain ⟨cC, iS, h⟩ := u_known (C := q.1) (T := q.2.1) (N := q.2.2) (n := q.2.2) hts (sx_lay c q hq) (hts _ (sx_inst _ (List.mem_map.mpr ⟨q, List.mem_of_getElem? hq, rfl⟩)))
      exact ⟨cC, iS, fun q' h' => by cases h'; exact h⟩
  obtain ⟨c0, a0, b0⟩ := sx_arr (hts _ (sx_ac _ (List.mem_map.mpr ⟨.int, by decide, rfl⟩)))
  obtain ⟨c1, a1, b1⟩ := sx_arr (hts _ (sx_ac _ (List.mem_map.mpr ⟨.byte, by decide, rfl⟩)))
  obtain ⟨c2, a2, b2⟩ := sx_arr (hts _ (sx_ac _ (List.mem_map.mpr ⟨.boolean, by decide, rfl⟩)))
  obtain ⟨c3, a3, b3⟩ := sx_arr (hts _ (sx_ac _ (List.mem_map.mpr ⟨.long, by decide, rfl⟩)))
  obtain ⟨c4, a4, b4⟩ := sx_arr2 (hts _ (sx_aoi _ List.mem_cons_self))
  refine ⟨(fun c => Classical.choose (h1 c), fun c => Classical.choose (Classical.choose_spec (h1 c))), fun k => match k with | 0 => c0 | 1 => c1 | 2 => c2 | 3 => c3 | _ => c4, fun c q hq => Classical.choose_spec (Classical.choose_spec (h1 c)) q hq, fun k q hq => ?_⟩
  match k, hq with
  | 0, hq => cases hq; exact ⟨a0, b0⟩
  | 1, hq => cases hq; exact ⟨a1, b1⟩
  | 2, hq => cases hq; exact ⟨a2, b2⟩
  | 3, hq => cases hq; exact ⟨a3, b3⟩
  | 4, hq => cases hq; exact ⟨a4, b4⟩
  | k + 5, hq => simp at hq
theorem sx_X0 (hts : ∀ w ∈ lw_tbl, w.before #[Value.ref b] s = true) (hn : ∀ w ∈ flatC narrow_1, w.before #[Value.ref b] s = true) : ∃ tx : Nat → Nat, sx_X s.heap.size tx s s.heap := by
  have hA : ∀ a : Nat, a < s.heap.size → ¬ (fun q => s.heap.size ≤ q) a := fun a h => Nat.not_le.mpr h
  have hI : ∀ (k : Nat) {w : Jvm.Cond}, sx_sti[k]? = some w → w.before #[Value.ref b] s = true := fun k w h => hts _ (sx_sti_in _ (List.mem_of_getElem? h))
  have hJ : ∀ (k : Nat) {w : Jvm.Cond}, sx_stn[k]? = some w → w.before #[Value.ref b] s = true := fun k w h => hn _ (sx_stn_in _ (List.mem_of_getElem? h))
  have key : ∀ j : Nat, ∃ a : Nat, j < 12 → (sx_tt j).eval #[Value.ref b] s none [] s = some (.ref a) := by
    intro j
    by_cases hj : j < 12
    · obtain ⟨a, c, cA, kA, q1, -⟩ := Cond.exactly_spec (args := #[Value.ref b]) (first := s) (o := none) (s := s) (idx := []) (hn _ (sx_st_n1 _ (List.mem_map.mpr ⟨j, List.mem_range.mpr hj, rfl⟩)))
      exact ⟨a, fun _ => q1⟩
    · exact ⟨0, fun h => absurd h hj⟩
  obtain ⟨tx, key⟩ : ∃ tx : Nat → Nat, ∀ j, j < 12 → (sx_tt j).eval #[Value.ref b] s none [] s = some (.ref (tx j)) := ⟨fun j => Classical.choose (key j), fun j => Classical.choose_spec (key j)⟩
  refine ⟨tx, ⟨?_, ?_, ?_, ?_⟩, ⟨?_, ?_, ?_, ?_⟩, hts _ (sx_aoi _ List.mem_cons_self), ?_, ?_⟩
  · intro is hi
    rw [← sx_xs_eq] at hi
    obtain ⟨e, he, rfl⟩ := List.mem_map.mp hi
    obtain ⟨a, c, cA, kA, q1, -⟩ := Cond.exactly_spec (args := #[Value.ref b]) (first := s) (o := none) (s := s) (idx := []) (hn _ (sx_xs_ex _ (List.mem_map.mpr ⟨e, he, rfl⟩)))
    exact ⟨e.2, a, vk_R.of (hts _ (sx_xs_in _ (List.mem_map.mpr ⟨e, he, rfl⟩))) q1⟩
  · exact vx_Zqof (hI 0 rfl) (hI 4 rfl) (hJ 0 rfl) hA
  · exact vx_Zqof (hI 1 rfl) (hI 4 rfl) (hJ 1 rfl) hA
  · exact fun w hw => va_tabs (sx_kd_ot (sx_B_kd w hw)) rfl (hts _ (sx_B_in w hw))
  · intro j q t hq ht
    have hj : j < 12 := (List.getElem?_eq_some_iff.mp hq).1
    have e1 : sx_st j = q := by unfold sx_st; rw [List.getD_eq_getElem?_getD, hq]; rfl
    have e2 : sx_tn.getD j "" = t := by rw [List.getD_eq_getElem?_getD, ht]; rfl
    have h1 := hts _ (sx_st_in _ (List.mem_map.mpr ⟨j, List.mem_range.mpr hj, rfl⟩))
    have h2 := key j hj
    unfold sx_tt at h2
    rw [e1, e2] at h1
    rw [e1] at h2
    exact vk_R.of h1 h2
  · intro j t ht
    have hj : j < 12 := (List.getElem?_eq_some_iff.mp ht).1
    have e2 : pm_tx.getD j [] = t := by rw [List.getD_eq_getElem?_getD, ht]; rfl
    have h2 := key j hj
    have hm : j ∈ List.range 12 := List.mem_range.mpr hj
    have w1 := sx_st_n1 _ (List.mem_map.mpr ⟨j, hm, rfl⟩)
    have w2 := sx_st_n2 _ (List.mem_map.mpr ⟨j, hm, rfl⟩)
    have w3 := sx_st_n3 _ (List.mem_map.mpr ⟨j, hm, rfl⟩)
    have w4 := sx_st_n4 _ (List.mem_map.mpr ⟨j, hm, rfl⟩)
    have wl := (sx_tx_ok t (List.mem_of_getElem? ht)).1
    rw [e2] at w4
    obtain ⟨av, ev, hT⟩ := va_Tof (N := t.length) (f := fun i => .int (nI (t.getD i 0))) (A := fun q => s.heap.size ≤ q) (by omega) (hn _ w3) (va_eqt (hn _ w4)) (fun k hk => by have := sx_st_el j hj k (by rw [e2]; exact hk); rw [e2] at this; exact va_eqt (hn _ this)) hA
    exact ⟨av, va_Oof (hn _ w1) h2 hA, vk_OFof h2 (va_eqt (hn _ w2)) hA, vk_OFof h2 ev hA, hT⟩
  · exact va_Zof (hI 2 rfl) (hI 5 rfl) (va_eqt (hJ 2 rfl)) hA
  · exact va_Zqof (hI 3 rfl) (hI 6 rfl) (hJ 3 rfl) hA
  · intro own idx y hm
    unfold pm_mth at hm
    rw [Option.map_eq_some_iff] at hm
    obtain ⟨e, he, h2⟩ := hm
    have hp := List.find?_some he
    simp only [Bool.and_eq_true, beq_iff_eq] at hp
    have := sx_nest e (List.mem_filter.mpr ⟨List.mem_of_find?_eq_some he, by rw [h2]; rfl⟩)
    rw [hp.1, hp.2, h2] at this
    exact hts _ this
  · intro i j E F hij hi hj
    have h1 : i < 4 := (List.getElem?_eq_some_iff.mp hi).1
    have h2 : j < 4 := (List.getElem?_eq_some_iff.mp hj).1
    have := sx_ncs _ (List.mem_map.mpr ⟨(i, j), sx_prs_ok i h1 j h2 hij, rfl⟩)
    simp only [List.getD_eq_getElem?_getD, hi, hj, Option.getD_some] at this
    exact va_Nc.of (hn _ this)
end ST
