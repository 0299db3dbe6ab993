section QB
theorem q_ne {a t n : Nat} (h : q_sh a = .inl (t, n)) : ¬ a = 1000000 := by
  have h1 := q_sh_lt h
  have h2 : q_N = 189 := rfl
  omega
theorem q_lens : ∀ (a n t : Nat), q_sh a = .inl (t, n) → n ≤ 3000 := by
  intro a n t h
  unfold q_sh at h
  have hall : q_cells.all (fun q => match q with | .inl (_, n) => decide (n ≤ 3000) | .inr _ => true) = true := by decide +kernel
  cases hc : q_cells[a]? with
  | none => rw [hc] at h; cases h
  | some q =>
    rw [hc] at h
    have := List.all_eq_true.mp hall q (List.mem_of_getElem? hc)
    rw [show q = .inl (t, n) from h] at this
    simpa using this
theorem q_kinds : ∀ (a c : Nat) (fs : List (Nat × Nat)) (k : Nat) (s : Nat × Nat), q_sh a = .inr (c, fs) → fs[k]? = some s → s.1 ≠ 0 → s.1 ≠ 1 → s.1 ≠ 2 → s.1 = 3 ∧ s.2 = 0 := by
  intro a c fs k s h hs h0 h1 h2
  unfold q_sh at h
  have hall : q_cells.all (fun q => match q with | .inl _ => true | .inr (_, fs) => fs.all (fun s => decide (s.1 = 0) || decide (s.1 = 1) || decide (s.1 = 2) || (decide (s.1 = 3) && decide (s.2 = 0)))) = true := by decide +kernel
  cases hc : q_cells[a]? with
  | none => rw [hc] at h; cases h; cases hs
  | some q =>
    rw [hc] at h
    have := List.all_eq_true.mp hall q (List.mem_of_getElem? hc)
    rw [show q = .inr (c, fs) from h] at this
    have := List.all_eq_true.mp this s (List.mem_of_getElem? hs)
    simp [h0, h1, h2] at this
    exact this
theorem q_get_ok {N : Nat} {σ : St} {a k c : Nat} {s : Nat × Nat} {v : V2} (hN : q_cl N) (hσ : q_S N σ) (ha : a < N) (hk : q_fk a k = some (c, s)) (h : q_get σ a k s = some v) : q_fv a s (σ a k) = q_v v ∧ q_ok N v := by
  obtain ⟨s1, s2⟩ := s
  unfold q_get at h
  unfold q_fv
  simp only at h ⊢
  split at h
  · cases h
    exact ⟨rfl, hσ.1 a k⟩
  · cases h
    exact ⟨rfl, Or.inl (hN.2.1 a k c _ ha hk)⟩
  · cases h
    exact ⟨rfl, Or.inl (hN.2.2.1 a k c _ ha hk)⟩
  · rename_i e0 e1 e2
    split at h
    · rename_i hp
      cases h
      obtain ⟨fs, f1, f2, f3⟩ := q_fk_ok hk
      have e3 : s1 = 3 ∧ s2 = 0 := q_kinds a c fs k (s1, s2) f1 f2 e0 e1 e2
      obtain ⟨rfl, rfl⟩ := e3
      have h9 := hσ.2 a k c ha hk
      refine ⟨?_, Or.inl (by omega)⟩
      show (if σ a k < 0 then Value.null else Value.ref (σ a k).toNat) = _
      rw [if_neg (by omega)]
      rfl
    · cases h
theorem q_getfield (idx : Nat) : q_A (.getfield idx) := by
  intro N h0 sc y pc ls st u bb σ M hN hl hs hσ h
  simp only [q_act] at h
  split at h
  · rename_i a st0
    rw [List.forall_mem_cons] at hs
    split at h
    · rename_i c k hf
      split at h
      · rename_i c' s hk
        split at h
        · rename_i hc
          subst hc
          split at h
          · rename_i v hv
            cases h
            obtain ⟨fs, h1, h2, h3⟩ := q_fk_ok hk
            have h3 := q_lo hs.1 h3
            obtain ⟨h4, h5⟩ := q_get_ok hN hσ h3 hk hv
            simp only [pm_act, List.map_cons, q_v, hf, q_obj h1 h3, if_true, q_fs_get h2, h4]
            exact ⟨rfl, hl, List.forall_mem_cons.mpr ⟨h5, hs.2⟩, hσ⟩
          · cases h
        · cases h
      · cases h
    · cases h
  · cases h
theorem q_putfield (idx : Nat) : q_A (.putfield idx) := by
  intro N h0 sc y pc ls st u bb σ M hN hl hs hσ h
  simp only [q_act] at h
  split at h
  · rename_i x a st0
    rw [List.forall_mem_cons, List.forall_mem_cons] at hs
    split at h
    · rename_i c k hf
      split at h
      · rename_i hc
        cases h
        obtain ⟨fs, h1, h2, h3⟩ := q_fk_ok hc.1
        have h3 := q_lo hs.2.1 h3
        have hk : k < fs.length := (List.getElem?_eq_some_iff.mp h2).1
        simp only [pm_act, List.map_cons, q_v, hf, q_obj h1 h3, q_fs_len]
        rw [if_pos ⟨trivial, hk, hc.2.1, hc.2.2⟩]
        have hm9 : ∀ k' c', ((k' : Nat) : Int) = (k : Int) → q_fk a k' = some (c', 3, 0) → x < N := by
          intro k' c' e9 h9
          have e9 : k' = k := by omega
          rw [e9, hc.1] at h9
          cases h9
        refine ⟨?_, hl, hs.2.2, q_S_up hσ hs.1 hm9⟩
        rw [show (Value.int (q_I x)) = q_fv a (0, 0) x from rfl, q_upO h1 h2 h3]
        rfl
      · cases h
    · cases h
  · rename_i x a st0
    rw [List.forall_mem_cons, List.forall_mem_cons] at hs
    split at h
    · rename_i c k hf
      split at h
      · rename_i hc
        cases h
        obtain ⟨fs, h1, h2, h3⟩ := q_fk_ok hc.1
        have h3 := q_lo hs.2.1 h3
        have hk : k < fs.length := (List.getElem?_eq_some_iff.mp h2).1
        simp only [pm_act, List.map_cons, q_v, hf, q_obj h1 h3, q_fs_len]
        rw [if_pos ⟨trivial, hk, hc.2.1, hc.2.2.1⟩]
        have hx9 : x < N := by
          rcases hs.1 with h9 | h9
          · exact h9
          · have := hc.2.2.2; omega
        refine ⟨?_, hl, hs.2.2, q_S_up hσ ⟨by omega, by have := hc.2.2.2; omega⟩ (fun _ _ _ _ => by omega)⟩
        rw [show (Value.ref x) = q_fv a (3, 0) (x : Int) from (by show _ = (if (x : Int) < 0 then Value.null else Value.ref (x : Int).toNat); rw [if_neg (by omega), Int.toNat_natCast]), q_upO h1 h2 h3]
        rfl
      · cases h
    · cases h
  · cases h
theorem q_iaload : q_A (.iaload) := by
  intro N h0 sc y pc ls st u bb σ M hN hl hs hσ h
  simp only [q_act] at h
  split at h
  · rename_i i a st0
    rw [List.forall_mem_cons, List.forall_mem_cons] at hs
    split at h
    · rename_i e
      split at h
      · rename_i hi
        cases h
        simp only [pm_act, List.map_cons, q_v, if_pos e.1, q_in hi.1 hi.2 hs.1, if_true, q_clamp hs.1]
        exact ⟨by simp only [q_Nn, List.map_cons, q_v, q_I_toInt], hl, List.forall_mem_cons.mpr ⟨q_R_toInt _, hs.2.2⟩, hσ⟩
      · cases h
    · rename_i e
      split at h
      · rename_i hi
        cases h
        obtain ⟨n, h1, h2⟩ := q_lnty hi.1 (by decide)
        have hA := q_lo hs.2.1 (q_sh_lt h1)
        have e : ¬ a = 1000000 := q_ne h1
        rw [h2] at hi
        simp only [pm_act, List.map_cons, q_v, if_neg e, q_arr h1 hA (by decide) (by decide), q_in hi.2.1 hi.2.2 hs.1, if_true, q_clamp hs.1, Int.toNat_of_nonneg hi.2.1]
        exact ⟨rfl, hl, List.forall_mem_cons.mpr ⟨hσ.1 _ _, hs.2.2⟩, hσ⟩
      · cases h
  · cases h
theorem q_baload : q_A (.baload) := by
  intro N h0 sc y pc ls st u bb σ M hN hl hs hσ h
  simp only [q_act] at h
  split at h
  · rename_i i a st0
    rw [List.forall_mem_cons, List.forall_mem_cons] at hs
    split at h
    · rename_i hi
      cases h
      rcases hi with ⟨e | e, hi⟩
      · obtain ⟨n, h1, h2⟩ := q_lnty e (by decide)
        have hA := q_lo hs.2.1 (q_sh_lt h1)
        rw [h2] at hi
        simp only [pm_act, List.map_cons, q_v, q_arr h1 hA (by decide) (by decide), q_in hi.1 hi.2 hs.1, if_true, q_clamp hs.1, Int.toNat_of_nonneg hi.1]
        exact ⟨rfl, hl, List.forall_mem_cons.mpr ⟨hσ.1 _ _, hs.2.2⟩, hσ⟩
      · obtain ⟨n, h1, h2⟩ := q_lnty e (by decide)
        have hA := q_lo hs.2.1 (q_sh_lt h1)
        rw [h2] at hi
        simp only [pm_act, List.map_cons, q_v, q_arr h1 hA (by decide) (by decide), q_in hi.1 hi.2 hs.1, if_true, q_clamp hs.1, Int.toNat_of_nonneg hi.1]
        exact ⟨rfl, hl, List.forall_mem_cons.mpr ⟨hσ.1 _ _, hs.2.2⟩, hσ⟩
    · cases h
  · cases h
theorem q_laload : q_A (.laload) := by
  intro N h0 sc y pc ls st u bb σ M hN hl hs hσ h
  simp only [q_act] at h
  split at h
  · rename_i i a st0
    rw [List.forall_mem_cons, List.forall_mem_cons] at hs
    split at h
    · rename_i hi
      cases h
      obtain ⟨n, h1, h2⟩ := q_lnty hi.1 (by decide)
      have hA := q_lo hs.2.1 (q_sh_lt h1)
      rw [h2] at hi
      simp only [pm_act, List.map_cons, q_v, q_arrL h1 hA, q_in hi.2.1 hi.2.2 hs.1, if_true, q_clamp hs.1, Int.toNat_of_nonneg hi.2.1]
      exact ⟨rfl, hl, List.forall_mem_cons.mpr ⟨hσ.1 _ _, hs.2.2⟩, hσ⟩
    · cases h
  · cases h
theorem q_aaload : q_A (.aaload) := by
  intro N h0 sc y pc ls st u bb σ M hN hl hs hσ h
  simp only [q_act] at h
  split at h
  · rename_i i a st0
    rw [List.forall_mem_cons, List.forall_mem_cons] at hs
    split at h
    · rename_i hi
      cases h
      obtain ⟨n, h1, h2⟩ := q_lnty hi.1 (by decide)
      have hA := q_lo hs.2.1 (q_sh_lt h1)
      rw [h2] at hi
      simp only [pm_act, List.map_cons, q_v, q_arrG h1 hA, q_in hi.2.1 hi.2.2 hs.1, if_true, q_clamp hs.1]
      rw [if_pos (by omega)]
      have h9 := hN.2.2.2 a n hA h1
      exact ⟨rfl, hl, List.forall_mem_cons.mpr ⟨Or.inl (by omega), hs.2.2⟩, hσ⟩
    · cases h
  · cases h
theorem q_iastore : q_A (.iastore) := by
  intro N h0 sc y pc ls st u bb σ M hN hl hs hσ h
  simp only [q_act] at h
  split at h
  · rename_i x i a st0
    rw [List.forall_mem_cons, List.forall_mem_cons, List.forall_mem_cons] at hs
    split at h
    · rename_i hi
      cases h
      obtain ⟨n, h1, h2⟩ := q_lnty hi.1 (by decide)
      have hA := q_lo hs.2.2.1 (q_sh_lt h1)
      rw [h2] at hi
      simp only [pm_act, List.map_cons, q_v, q_arr h1 hA (by decide) (by decide), q_in hi.2.1 hi.2.2 hs.2.1, if_true, q_clamp hs.2.1]
      rw [q_upA h1 (by decide) (by decide) hi.2.1 hA]
      exact ⟨rfl, hl, hs.2.2.2, q_S_upA hσ h1 hs.1⟩
    · cases h
  · cases h
theorem q_bastore : q_A (.bastore) := by
  intro N h0 sc y pc ls st u bb σ M hN hl hs hσ h
  simp only [q_act] at h
  split at h
  · rename_i x i a st0
    rw [List.forall_mem_cons, List.forall_mem_cons, List.forall_mem_cons] at hs
    split at h
    · rename_i hi
      cases h
      rcases hi with ⟨⟨e, hx⟩ | ⟨e, hx⟩, hi⟩
      · obtain ⟨n, h1, h2⟩ := q_lnty e (by decide)
        have hA := q_lo hs.2.2.1 (q_sh_lt h1)
        rw [h2] at hi
        have ex : vp_nar .byte (q_I x) = q_I x := by
          show (q_I x).toInt8.toInt32 = q_I x
          rw [← Int32.toInt_inj, Int8.toInt_toInt32, Int32.toInt_toInt8, q_toI hs.1]
          exact Int.bmod_eq_of_le (by omega) (by omega)
        simp only [pm_act, List.map_cons, q_v, q_arr h1 hA (by decide) (by decide), q_in hi.1 hi.2 hs.2.1, if_true, q_clamp hs.2.1, ex]
        rw [q_upA h1 (by decide) (by decide) hi.1 hA]
        exact ⟨rfl, hl, hs.2.2.2, q_S_upA hσ h1 hs.1⟩
      · obtain ⟨n, h1, h2⟩ := q_lnty e (by decide)
        have hA := q_lo hs.2.2.1 (q_sh_lt h1)
        rw [h2] at hi
        have ex : vp_nar .boolean (q_I x) = q_I x := by rcases hx with rfl | rfl <;> rfl
        simp only [pm_act, List.map_cons, q_v, q_arr h1 hA (by decide) (by decide), q_in hi.1 hi.2 hs.2.1, if_true, q_clamp hs.2.1, ex]
        rw [q_upA h1 (by decide) (by decide) hi.1 hA]
        exact ⟨rfl, hl, hs.2.2.2, q_S_upA hσ h1 hs.1⟩
    · cases h
  · cases h
theorem q_lastore : q_A (.lastore) := by
  intro N h0 sc y pc ls st u bb σ M hN hl hs hσ h
  simp only [q_act] at h
  split at h
  · rename_i x i a st0
    rw [List.forall_mem_cons, List.forall_mem_cons, List.forall_mem_cons] at hs
    split at h
    · rename_i hi
      cases h
      obtain ⟨n, h1, h2⟩ := q_lnty hi.1 (by decide)
      have hA := q_lo hs.2.2.1 (q_sh_lt h1)
      rw [h2] at hi
      simp only [pm_act, List.map_cons, q_v, q_arrL h1 hA, q_in hi.2.1 hi.2.2 hs.2.1, if_true, q_clamp hs.2.1]
      rw [q_upL h1 hi.2.1 hA]
      exact ⟨rfl, hl, hs.2.2.2, q_S_upA hσ h1 hs.1⟩
    · cases h
  · cases h
theorem q_arraylength : q_A (.arraylength) := by
  intro N h0 sc y pc ls st u bb σ M hN hl hs hσ h
  simp only [q_act] at h
  split at h
  · rename_i a st0
    rw [List.forall_mem_cons] at hs
    split at h
    · rename_i e
      obtain ⟨h1, h2, -⟩ := q_push_ok (h0 := h0) (bb := bb) hl hs.2 hσ h
      refine ⟨?_, h2⟩
      rw [← h1]
      simp only [pm_act, List.map_cons, q_v, if_pos e.1, nI, q_I, Int32.ofInt_eq_ofNat]
    · rename_i e
      split at h
      · rename_i ht
        cases h
        obtain ⟨n, h1, h2⟩ := q_lnty (a := a) rfl (by omega)
        have hA := q_lo hs.1 (q_sh_lt h1)
        have e : ¬ a = 1000000 := q_ne h1
        have e4 : ∃ z, pm_arr (N, bb) (q_eh N h0 σ) a = some (q_ty a, n, z) := by
          by_cases e3 : q_ty a = 3
          · rw [e3] at h1 ⊢; exact ⟨_, q_arrL h1 hA⟩
          · by_cases e5 : q_ty a = 4
            · rw [e5] at h1 ⊢; exact ⟨_, q_arrG h1 hA⟩
            · exact ⟨_, q_arr h1 hA e3 e5⟩
        obtain ⟨z, e4⟩ := e4
        simp only [pm_act, List.map_cons, q_v, if_neg e, e4, if_pos ht, h2]
        refine ⟨by simp only [q_Nn, List.map_cons, q_v, nI, q_I, Int32.ofInt_eq_ofNat], hl, List.forall_mem_cons.mpr ⟨?_, hs.2⟩, hσ⟩
        have := q_lens a n _ h1
        exact ⟨by omega, by omega⟩
      · cases h
  · cases h
theorem q_new (idx : Nat) : q_A (.new idx) := by
  intro N h0 sc y pc ls st u bb σ M hN hl hs hσ h
  simp only [q_act] at h
  split at h
  · rename_i e he
    split at h
    · rename_i hc
      cases h
      simp only [pm_act, he, q_sum_ok, if_pos hc]
      exact ⟨rfl, trivial⟩
    · cases h
  · cases h
theorem q_take_ok {N n : Nat} {st as st' : List V2} (h : q_take n st = some (as, st')) (hs : ∀ v ∈ st, q_ok N v) : pm_take n (st.map q_v) = some (as.map q_v, st'.map q_v) ∧ (∀ v ∈ as, q_ok N v) ∧ ∀ v ∈ st', q_ok N v := by
  unfold q_take at h
  unfold pm_take
  split at h
  · rename_i hn
    simp only [Option.some.injEq, Prod.mk.injEq] at h
    obtain ⟨rfl, rfl⟩ := h
    rw [List.length_map, if_pos hn, List.map_reverse, List.map_take, List.map_drop]
    exact ⟨rfl, fun v hv => hs v (List.mem_of_mem_take (List.mem_reverse.mp hv)), fun v hv => hs v (List.mem_of_mem_drop hv)⟩
  · cases h
theorem pm_call8f {y y' pc a : Nat} {ls st : List Value} {u : PU} {g : PG} {h : PH} {t : List Nat} (hc : pm_sum (.ref a :: st) ≤ 100 ∧ pm_fits y 0 0 u = true) (ha : 2000000 ≤ a ∧ pm_sum st ≤ 8) (ht : pm_tx[a - 2000000]? = some t) : pm_call y 8 y' pc ls (.ref a :: st) u g h = some (.inl (pc + 3, ls, .int (nI t.length) :: st, u, g, h)) := by
  cases hp : pm_call y 8 y' pc ls (.ref a :: st) u g h with
  | none =>
    exfalso
    unfold pm_call at hp
    split at hp
    · simp only at hp
      split at hp
      · split at hp
        · cases hp
        · rename_i hn
          rw [ht] at hn
          cases hn
      · rename_i hn
        exact hn ha
    · rename_i hn
      exact hn hc
  | some N' =>
    unfold pm_call at hp
    split at hp
    · simp only at hp
      split at hp
      · split at hp
        · rename_i t' ht'
          rw [ht] at ht'
          cases ht'
          exact hp.symm
        · rename_i hn
          rw [ht] at hn
          cases hn
      · rename_i hn
        exact absurd ha hn
    · rename_i hn
      exact absurd hc hn
theorem pm_call9f {y y' pc a : Nat} {i : Int32} {ls st : List Value} {u : PU} {g : PG} {h : PH} {t : List Nat} (hc : pm_sum (.int i :: .ref a :: st) ≤ 100 ∧ pm_fits y 0 0 u = true) (ha : 2000000 ≤ a ∧ pm_sum st ≤ 8) (ht : pm_tx[a - 2000000]? = some t) (hi : pm_in i t.length = true) : pm_call y 9 y' pc ls (.int i :: .ref a :: st) u g h = some (.inl (pc + 3, ls, .int (nI (t.getD i.toNatClampNeg 0)) :: st, u, g, h)) := by
  cases hp : pm_call y 9 y' pc ls (.int i :: .ref a :: st) u g h with
  | none =>
    exfalso
    unfold pm_call at hp
    split at hp
    · simp only at hp
      split at hp
      · split at hp
        · rename_i t' ht'
          rw [ht] at ht'
          cases ht'
          rw [if_pos hi] at hp
          cases hp
        · rename_i hn
          rw [ht] at hn
          cases hn
      · rename_i hn
        exact hn ha
    · rename_i hn
      exact hn hc
  | some N' =>
    unfold pm_call at hp
    split at hp
    · simp only at hp
      split at hp
      · split at hp
        · rename_i t' ht'
          rw [ht] at ht'
          cases ht'
          rw [if_pos hi] at hp
          exact hp.symm
        · rename_i hn
          rw [ht] at hn
          cases hn
      · rename_i hn
        exact absurd ha hn
    · rename_i hn
      exact absurd hc hn
theorem q_call_ok {y k y' pc : Nat} {ls st : List V2} {u : PU} {σ : St} {N : Nat} {h0 : PH} {bb : Bool} {M : N2} (hl : ∀ v ∈ ls, q_ok N v) (hs : ∀ v ∈ st, q_ok N v) (hσ : q_S N σ) (h : q_call y k y' pc ls st u σ = some M) :
    pm_call y k y' pc (ls.map q_v) (st.map q_v) u (N, bb) (q_eh N h0 σ) = some (q_Nn N h0 bb M) ∧ q_okN N M := by
  unfold q_call at h
  split at h
  · rename_i hc
    rw [← q_sum_ok] at hc
    split at h
    · -- 0
      unfold pm_call
      rw [if_pos hc]
      split at h
      · rename_i a as st1 ht
        obtain ⟨t1, t2, t3⟩ := q_take_ok ht hs
        split at h
        · rename_i c fs hsh
          split at h
          · rename_i hown
            cases h
            have hA := q_lo (t2 _ List.mem_cons_self) hown.2
            simp only [t1, List.map_cons, q_v, q_obj hsh hA, if_pos hown.1]
            exact ⟨rfl, t2, t3⟩
          · cases h
        · cases h
      · cases h
    · -- 2
      unfold pm_call
      rw [if_pos hc]
      cases ht : q_take (pm_np y') st with
      | none => rw [ht] at h; cases h
      | some q =>
        rw [ht] at h
        cases h
        obtain ⟨t1, t2, t3⟩ := q_take_ok ht hs
        simp only [t1, Option.bind_some]
        exact ⟨rfl, t2, t3⟩
    · -- 5
      unfold pm_call
      rw [if_pos hc]
      split at h
      · rename_i b a st0
        rw [List.forall_mem_cons, List.forall_mem_cons] at hs
        cases h
        simp only [List.map_cons, q_v, q_lt hs.2.1 hs.1]
        by_cases hab : a < b
        · rw [if_pos hab]
          rw [show max a b = b by omega]
          exact ⟨rfl, hl, List.forall_mem_cons.mpr ⟨hs.1, hs.2.2⟩, hσ⟩
        · rw [if_neg hab]
          rw [show max a b = a by omega]
          exact ⟨rfl, hl, List.forall_mem_cons.mpr ⟨hs.2.1, hs.2.2⟩, hσ⟩
      · cases h
    · -- 6
      unfold pm_call
      rw [if_pos hc]
      split at h
      · rename_i b a st0
        rw [List.forall_mem_cons, List.forall_mem_cons] at hs
        cases h
        simp only [List.map_cons, q_v, q_lt hs.1 hs.2.1]
        by_cases hab : b < a
        · rw [if_pos hab]
          rw [show min a b = b by omega]
          exact ⟨rfl, hl, List.forall_mem_cons.mpr ⟨hs.1, hs.2.2⟩, hσ⟩
        · rw [if_neg hab]
          rw [show min a b = a by omega]
          exact ⟨rfl, hl, List.forall_mem_cons.mpr ⟨hs.2.1, hs.2.2⟩, hσ⟩
      · cases h
    · -- 7
      unfold pm_call
      rw [if_pos hc]
      split at h
      · rename_i n dp b sp a st0
        simp only [List.forall_mem_cons] at hs
        split at h
        · rename_i hq
          cases h
          obtain ⟨qa, qb, q1, q2, q3, q4, q5⟩ := hq
          obtain ⟨na, ha1, ha2⟩ := q_lnty qa (by decide)
          obtain ⟨nb, hb1, hb2⟩ := q_lnty qb (by decide)
          have hA1 := q_lo hs.2.2.2.2.1 (q_sh_lt ha1)
          have hA2 := q_lo hs.2.2.1 (q_sh_lt hb1)
          rw [ha2] at q4
          rw [hb2] at q5
          simp only [List.map_cons, q_v, q_arr ha1 hA1 (by decide) (by decide), q_arr hb1 hA2 (by decide) (by decide), q_I0, q_lt hs.2.2.2.1 q_R0, q_lt hs.2.1 q_R0, q_lt hs.1 q_R0, q_clamp hs.1, q_clamp hs.2.1, q_clamp hs.2.2.2.1]
          rw [if_pos ⟨by omega, by omega, by omega, by omega, by omega⟩]
          refine ⟨?_, hl, hs.2.2.2.2.2, ?_⟩
          · simp only [q_Nn, q_enc_upf hA2]
            congr 9
            unfold q_encc
            rw [hb1]
            simp only
            congr 4
            funext j
            unfold va_cpy q_cpy
            by_cases hj : dp ≤ (j : Int) ∧ (j : Int) < dp + n
            · rw [if_pos (by omega), if_pos hj]
              have e9 : ((sp.toNat + (j - dp.toNat) : Nat) : Int) = sp + ((j : Int) - dp) := by omega
              show q_I (σ a ((sp.toNat + (j - dp.toNat) : Nat) : Int)) = _
              rw [e9]
            · rw [if_neg (by omega), if_neg hj]
          · refine ⟨fun c j => ?_, fun c k d hcN hk => ?_⟩
            · unfold q_upf q_cpy
              split
              · split
                · exact hσ.1 _ _
                · exact hσ.1 _ _
              · exact hσ.1 _ _
            · have hne : ¬ c = b := by
                intro e9
                rw [e9, q_fk_arr hb1] at hk
                cases hk
              unfold q_upf
              rw [if_neg hne]
              exact hσ.2 c k d hcN hk
        · cases h
      · cases h
    · -- 8
      split at h
      · rename_i a st0
        rw [List.forall_mem_cons] at hs
        split at h
        · rename_i ha
          split at h
          · rename_i t ht
            have h7 := (sx_tx_ok t (List.mem_of_getElem? ht)).1
            have ha' : 2000000 ≤ a ∧ pm_sum (st0.map q_v) ≤ 8 := ⟨ha.1, by rw [q_sum_ok]; exact ha.2⟩
            clear ha
            cases h
            refine ⟨(pm_call8f hc ha' ht).trans ?_, ?_⟩
            · simp only [q_Nn, List.map_cons, q_v, nI, q_I, Int32.ofInt_eq_ofNat]
            · exact ⟨hl, List.forall_mem_cons.mpr ⟨⟨by omega, by omega⟩, hs.2⟩, hσ⟩
          · cases h
        · cases h
      · cases h
    · -- 9
      split at h
      · rename_i i a st0
        rw [List.forall_mem_cons, List.forall_mem_cons] at hs
        split at h
        · rename_i ha
          split at h
          · rename_i t ht
            have h9 : ∀ x ∈ t, x < 128 := (sx_tx_ok t (List.mem_of_getElem? ht)).2
            have ha' : 2000000 ≤ a ∧ pm_sum (st0.map q_v) ≤ 8 := ⟨ha.1, by rw [q_sum_ok]; exact ha.2⟩
            clear ha
            split at h
            · rename_i hi
              cases h
              refine ⟨(pm_call9f hc ha' ht (q_in hi.1 hi.2 hs.1)).trans ?_, ?_⟩
              · simp only [q_Nn, List.map_cons, q_v, nI, q_I, Int32.ofInt_eq_ofNat, q_clamp hs.1]
              · have h8 : t.getD i.toNat 0 < 128 := by
                  rw [List.getD_eq_getElem?_getD]
                  cases hg : t[i.toNat]? with
                  | none => decide
                  | some x => exact h9 x (List.mem_of_getElem? hg)
                exact ⟨hl, List.forall_mem_cons.mpr ⟨⟨by omega, by omega⟩, hs.2.2⟩, hσ⟩
            · cases h
          · cases h
        · cases h
      · cases h
    · -- 10
      unfold pm_call
      rw [if_pos hc]
      cases ht : q_take (pm_np y') st with
      | none => rw [ht] at h; cases h
      | some q =>
        rw [ht] at h
        cases h
        obtain ⟨t1, t2, t3⟩ := q_take_ok ht hs
        simp only [t1, Option.bind_some]
        exact ⟨rfl, t2, t3⟩
    · cases h
  · cases h
theorem q_invokevirtual (idx : Nat) : q_A (.invokevirtual idx) := by
  intro N h0 sc y pc ls st u bb σ M hN hl hs hσ h
  simp only [q_act] at h
  split at h
  · rename_i k y' hm
    split at h
    · rename_i hk
      simp only [pm_act, hm, if_pos hk]
      exact q_call_ok hl hs hσ h
    · cases h
  · cases h
theorem q_invokestatic (idx : Nat) : q_A (.invokestatic idx) := by
  intro N h0 sc y pc ls st u bb σ M hN hl hs hσ h
  simp only [q_act] at h
  split at h
  · rename_i k y' hm
    split at h
    · rename_i hk
      simp only [pm_act, hm, if_pos hk]
      exact q_call_ok hl hs hσ h
    · cases h
  · cases h
theorem q_ireturn : q_A (.ireturn) := by
  intro N h0 sc y pc ls st u bb σ M hN hl hs hσ h
  simp only [q_act] at h
  split at h
  · rename_i x
    rw [List.forall_mem_cons] at hs
    split at h
    · rename_i hc
      cases h
      have e : pm_retOk (pm_ret y) (q_I x) = true := by
        have := hc.1
        unfold q_retOk at this
        unfold pm_retOk
        split at this
        · rename_i hr
          rw [hr]
        · rename_i hr
          rw [hr]
          simp only [q_I0, show (1 : Int32) = q_I 1 from rfl, q_eq hs.1 q_R0, q_eq hs.1 (show q_R 1 by decide)]
          exact this
        · cases this
      simp only [pm_act, List.map_cons, List.map_nil, q_v, if_pos (show _ ∧ _ from ⟨e, hc.2⟩)]
      exact ⟨rfl, fun z hz => by cases hz; exact hs.1⟩
    · cases h
  · cases h
theorem q_return_ : q_A (.return_) := by
  intro N h0 sc y pc ls st u bb σ M hN hl hs hσ h
  simp only [q_act] at h
  split at h
  · rename_i hr
    split at h
    · rename_i hc
      cases h
      simp only [pm_act, List.map_nil, hr, if_pos hc]
      exact ⟨rfl, fun z hz => by cases hz⟩
    · cases h
  · cases h
end QB
