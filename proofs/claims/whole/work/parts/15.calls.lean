set_option maxRecDepth 100000 in
theorem pm_names_ok : ∀ y, y < 253 → plainName (pm_name y).cls = true ∧ (pm_name y).cls = pm_cn (pm_own y) ∧ (pm_name y).cls ≠ "java/lang/invoke/MethodHandle" ∧ (pm_name y).cls ≠ "java/lang/invoke/VarHandle" ∧ (parseMethodDescriptor (pm_name y).desc).map (fun d => d.parameters.length) = some (pm_np y) ∧ (pm_ini y = true → (pm_name y).name = "<init>") := by decide +kernel
theorem pm_hh_ok : ∀ y, y < 253 → y ∈ pm_hand ∨ pm_hh y = [] := by decide +kernel
theorem pm_plain_ok : ∀ y, y < 252 → y ∈ pm_hand ∨ y ∈ pm_plain := by decide +kernel
theorem pm_mt_lt : pm_mt.all (fun e => decide (e.2.2 < 252)) = true := by decide +kernel
theorem pm_ini_hand : ∀ y, y ∈ pm_hand → pm_ini y = false ∧ ¬ pm_hh y = [] := by decide +kernel
theorem pm_nL_ok : ∀ y, y < 253 → pm_nL y ≤ 13 := by decide +kernel
theorem pm_hand_inst : pm_mt.all (fun e => match e.2.1 with | 0 | 1 | 2 | 3 => decide (¬ e.2.2 ∈ pm_hand) | _ => true) = true := by decide +kernel
theorem pm_bud0 : pm_mt.all (fun e => decide (pm_bc e.2.2 ≤ 1000) && decide (pm_bs e.2.2 ≤ 100000)) = true := by decide +kernel
section SH
variable {base b : Nat} {sc : Nat × (Nat → Int32)} {tx : Nat → Nat} {D : va_G} {cT : Nat → ClassId} {SX : State → Heap → Prop}
theorem pm_take_ok {n : Nat} {st as st' : List Value} (h : pm_take n st = some (as, st')) : st = as.reverse ++ st' ∧ as.length = n := by
  unfold pm_take at h
  split at h
  · rename_i hn
    simp only [Option.some.injEq, Prod.mk.injEq] at h
    obtain ⟨rfl, rfl⟩ := h
    refine ⟨by rw [List.reverse_reverse, List.take_append_drop], by simp; omega⟩
  · cases h
/-- which acts call -/
theorem pm_call_call {y k y' pc y2 : Nat} {ls st as st' : List Value} {u : PU} {g : PG} {h : PH} (ha : pm_call y k y' pc ls st u g h = some (.inr (.inr (y2, as, st')))) :
    y2 = y' ∧ ((k = 0 ∧ ∃ a as', as = .ref a :: as' ∧ st = as'.reverse ++ .ref a :: st' ∧ as'.length = pm_np y' ∧ ∃ fs, pm_obj g h a = some (pm_own y', fs)) ∨ ((k = 1 ∨ k = 3) ∧ ∃ a as', as = .ref a :: as' ∧ st = as'.reverse ++ .ref a :: st' ∧ as'.length = pm_np y') ∨ ((k = 2 ∨ k = 10) ∧ st = as.reverse ++ st' ∧ as.length = pm_np y')) := by
  unfold pm_call at ha
  split at ha
  · split at ha
    · split at ha
      · rename_i a as' st1 ht
        obtain ⟨h1, h2⟩ := pm_take_ok ht
        split at ha
        · rename_i c fs ho
          split at ha
          · rename_i hc
            simp only [Option.some.injEq, Sum.inr.injEq, Prod.mk.injEq] at ha
            obtain ⟨rfl, rfl, rfl⟩ := ha
            refine ⟨rfl, Or.inl ⟨rfl, a, as', rfl, by rw [h1]; simp, by simpa using h2, fs, by rw [ho, hc]⟩⟩
          · cases ha
        · cases ha
      · cases ha
    · simp only [Option.bind_eq_some_iff] at ha
      obtain ⟨q, hq, ha⟩ := ha
      split at ha
      · rename_i a as' st1
        obtain ⟨h1, h2⟩ := pm_take_ok hq
        simp only [Option.some.injEq, Sum.inr.injEq, Prod.mk.injEq] at ha
        obtain ⟨rfl, rfl, rfl⟩ := ha
        exact ⟨rfl, Or.inr (Or.inl ⟨Or.inl rfl, a, as', rfl, by rw [h1]; simp, by simpa using h2⟩)⟩
      · cases ha
    · simp only [Option.bind_eq_some_iff] at ha
      obtain ⟨q, hq, ha⟩ := ha
      obtain ⟨h1, h2⟩ := pm_take_ok (as := q.1) (st' := q.2) hq
      simp only [Option.some.injEq, Sum.inr.injEq, Prod.mk.injEq] at ha
      obtain ⟨rfl, rfl, rfl⟩ := ha
      exact ⟨rfl, Or.inr (Or.inr ⟨Or.inl rfl, h1, h2⟩)⟩
    · simp only [Option.bind_eq_some_iff] at ha
      obtain ⟨q, hq, ha⟩ := ha
      split at ha
      · rename_i a as' st1
        obtain ⟨h1, h2⟩ := pm_take_ok hq
        simp only [Option.some.injEq, Sum.inr.injEq, Prod.mk.injEq] at ha
        obtain ⟨rfl, rfl, rfl⟩ := ha
        exact ⟨rfl, Or.inr (Or.inl ⟨Or.inr rfl, a, as', rfl, by rw [h1]; simp, by simpa using h2⟩)⟩
      · cases ha
    · split at ha <;> cases ha
    · split at ha <;> cases ha
    · split at ha <;> cases ha
    · (repeat' split at ha) <;> cases ha
    · (repeat' split at ha) <;> cases ha
    · (repeat' split at ha) <;> cases ha
    · simp only [Option.bind_eq_some_iff] at ha
      obtain ⟨q, hq, ha⟩ := ha
      obtain ⟨h1, h2⟩ := pm_take_ok (as := q.1) (st' := q.2) hq
      simp only [Option.some.injEq, Sum.inr.injEq, Prod.mk.injEq] at ha
      obtain ⟨rfl, rfl, rfl⟩ := ha
      exact ⟨rfl, Or.inr (Or.inr ⟨Or.inr rfl, h1, h2⟩)⟩
    · cases ha
  · cases ha
set_option maxHeartbeats 4000000 in
theorem pm_act_call {y pc y2 : Nat} {i : Instr} {ls st as st' : List Value} {u : PU} {g : PG} {h : PH} (ha : pm_act sc y i pc ls st u g h = some (.inr (.inr (y2, as, st')))) :
    ∃ idx k, pm_mth (pm_own y) idx = some (k, y2) ∧
      ((i = .invokevirtual idx ∧ k = 0 ∧ ∃ a as', as = .ref a :: as' ∧ st = as'.reverse ++ .ref a :: st' ∧ as'.length = pm_np y2 ∧ ∃ fs, pm_obj g h a = some (pm_own y2, fs)) ∨
       (i = .invokespecial idx ∧ (k = 1 ∨ k = 3) ∧ ∃ a as', as = .ref a :: as' ∧ st = as'.reverse ++ .ref a :: st' ∧ as'.length = pm_np y2) ∨
       (i = .invokestatic idx ∧ (k = 2 ∨ k = 10) ∧ st = as.reverse ++ st' ∧ as.length = pm_np y2)) := by
  unfold pm_act at ha
  split at ha <;> first
    | (exfalso; (repeat' split at ha) <;> first | cases ha | exact absurd ha pm_go_end)
    | (split at ha
       · rename_i k y' hm
         split at ha
         · rename_i hk
           obtain ⟨rfl, hc⟩ := pm_call_call ha
           refine ⟨_, k, hm, ?_⟩
           rcases hc with ⟨hk1, hc⟩ | ⟨hk1, hc⟩ | ⟨hk1, hc⟩ <;> first
             | (exfalso; omega)
             | exact Or.inl ⟨rfl, hk1, hc⟩
             | exact Or.inr (Or.inl ⟨rfl, hk1, hc⟩)
             | exact Or.inr (Or.inr ⟨rfl, hk1, hc⟩)
         · cases ha
       · cases ha)
theorem sm_args (ad : Nat → Nat) : ∀ (as : List Value) (k : Nat), as.all (fun v => v.category == 1) = true → ∀ (i : Nat) (v : Value), as[i]? = some v → (k + i, sm_v ad v) ∈ lv_args k (as.map (sm_v ad))
  | [], _, _, i, v, h => by simp at h
  | w :: as, k, hc, i, v, h => by
    simp only [List.all_cons, Bool.and_eq_true, beq_iff_eq] at hc
    simp only [List.map_cons, lv_args]
    have hw : ¬ (sm_v ad w).category = 2 := by rw [sm_v_cat]; omega
    rw [if_neg hw]
    cases i with
    | zero =>
      simp only [List.getElem?_cons_zero, Option.some.injEq] at h
      subst h
      exact List.mem_cons_self
    | succ i =>
      simp only [List.getElem?_cons_succ] at h
      have := sm_args ad as (k + 1) hc.2 i v h
      rw [show k + 1 + i = k + (i + 1) by omega] at this
      exact List.mem_cons_of_mem _ this
theorem sm_argl (ad : Nat → Nat) : ∀ (as : List Value), as.all (fun v => v.category == 1) = true → (lg_sl (as.map (sm_v ad))).length = as.length
  | [], _ => rfl
  | w :: as, hc => by
    simp only [List.all_cons, Bool.and_eq_true, beq_iff_eq] at hc
    have hw : ¬ (sm_v ad w).category = 2 := by rw [sm_v_cat]; omega
    have := sm_argl ad as hc.2
    unfold lg_sl at this ⊢
    rw [List.map_cons, List.flatMap_cons, if_neg hw]
    simp only [List.length_append, List.length_cons, List.length_nil, this]
    omega
theorem sm_entry {ad : Nat → Nat} {as : List Value} {nL : Nat} (hc : as.all (fun v => v.category == 1) = true) (hl : as.length ≤ nL) : lv_has ((lg_sl (as.map (sm_v ad)) ++ List.replicate (nL - (lg_sl (as.map (sm_v ad))).length) Slot.unset).toArray) nL (sm_l ad (as ++ List.replicate (nL - as.length) pm_no)) := by
  have h := lv_entry (as.map (sm_v ad)) (n := nL) (by rw [sm_argl ad as hc]; exact hl)
  refine ⟨h.1, h.2.1, fun q hq => h.2.2 q ?_⟩
  obtain ⟨v, h1, h2⟩ := sm_l_mem.mp hq
  by_cases hi : q.1 < as.length
  · rw [List.getElem?_append_left hi] at h1
    have := sm_args ad as 0 hc q.1 v h1
    rw [Nat.zero_add] at this
    have e : q = (q.1, sm_v ad v) := by
      cases v <;> simp only [sm_l1, Option.some.injEq, reduceCtorEq] at h2 <;> exact h2.symm
    rw [e]
    exact this
  · rw [List.getElem?_append_right (by omega)] at h1
    have : v = pm_no := by
      rw [List.getElem?_replicate] at h1
      split at h1
      · exact (Option.some.inj h1).symm
      · cases h1
    subst this
    cases h2
end SH
