section QB
theorem q_ne {a t n : Nat} (h : q_sh a = .inl (t, n)) : ¬ a = 1000000 := by
  have h1 := q_sh_lt h
  have h2 : q_N = 189 := rfl
  omega
theorem q_lens : ∀ (a n t : Nat), q_sh a = .inl (t, n) → n ≤ 3000 := by
  intro a n t h
  unfold q_sh at h
  have hall : q_cells.all (fun q => match q with | .inl (_, n) => decide (n ≤ 3000) | .inr _ => true) = true := by decide +kernel
  cases hc : q_cells[a]? with
  | none => rw [hc] at h; cases h
  | some q =>
    rw [hc] at h
    have := List.all_eq_true.mp hall q (List.mem_of_getElem? hc)
    rw [show q = .inl (t, n) from h] at this
    simpa using this
theorem q_get_ok {σ : St} {a k : Nat} {s : Nat × Nat} {v : V2} (hσ : q_S σ) (h : q_get σ a k s = some v) : q_fv a s (σ a k) = q_v v ∧ q_ok v := by
  unfold q_get at h
  unfold q_fv
  split at h
  · cases h
    rename_i e
    rw [e]
    exact ⟨rfl, hσ a k⟩
  · cases h
    rename_i e
    rw [e]
    exact ⟨rfl, trivial⟩
  · cases h
    rename_i e
    rw [e]
    exact ⟨rfl, trivial⟩
  · rename_i e0 e1 e2
    split at h
    · rename_i hp
      cases h
      refine ⟨?_, trivial⟩
      split
      · rename_i e; exact absurd e e0
      · rename_i e; exact absurd e e1
      · rename_i e; exact absurd e e2
      · rw [if_neg (by omega)]
        rfl
    · cases h
theorem q_getfield (idx : Nat) : q_A (.getfield idx) := by
  intro sc y pc ls st u bb σ N hl hs hσ h
  simp only [q_act] at h
  split at h
  · rename_i a st0
    rw [List.forall_mem_cons] at hs
    split at h
    · rename_i c k hf
      split at h
      · rename_i c' s hk
        split at h
        · rename_i hc
          subst hc
          split at h
          · rename_i v hv
            cases h
            obtain ⟨fs, h1, h2, h3⟩ := q_fk_ok hk
            obtain ⟨h4, h5⟩ := q_get_ok hσ hv
            simp only [pm_act, List.map_cons, q_v, hf, q_obj h1 h3, if_true, q_fs_get h2, h4]
            exact ⟨rfl, hl, List.forall_mem_cons.mpr ⟨h5, hs.2⟩, hσ⟩
          · cases h
        · cases h
      · cases h
    · cases h
  · cases h
theorem q_putfield (idx : Nat) : q_A (.putfield idx) := by
  intro sc y pc ls st u bb σ N hl hs hσ h
  simp only [q_act] at h
  split at h
  · rename_i x a st0
    rw [List.forall_mem_cons, List.forall_mem_cons] at hs
    split at h
    · rename_i c k hf
      split at h
      · rename_i hc
        cases h
        obtain ⟨fs, h1, h2, h3⟩ := q_fk_ok hc.1
        have hk : k < fs.length := (List.getElem?_eq_some_iff.mp h2).1
        simp only [pm_act, List.map_cons, q_v, hf, q_obj h1 h3, q_fs_len]
        rw [if_pos ⟨trivial, hk, hc.2.1, hc.2.2⟩]
        refine ⟨?_, hl, hs.2.2, q_S_up hσ _ _ hs.1⟩
        rw [show (Value.int (q_I x)) = q_fv a (0, 0) x from rfl, q_upO h1 h2]
        rfl
      · cases h
    · cases h
  · rename_i x a st0
    rw [List.forall_mem_cons, List.forall_mem_cons] at hs
    split at h
    · rename_i c k hf
      split at h
      · rename_i hc
        cases h
        obtain ⟨fs, h1, h2, h3⟩ := q_fk_ok hc.1
        have hk : k < fs.length := (List.getElem?_eq_some_iff.mp h2).1
        simp only [pm_act, List.map_cons, q_v, hf, q_obj h1 h3, q_fs_len]
        rw [if_pos ⟨trivial, hk, hc.2.1, hc.2.2.1⟩]
        refine ⟨?_, hl, hs.2.2, q_S_up hσ _ _ ⟨by omega, by have := hc.2.2.2; omega⟩⟩
        rw [show (Value.ref x) = q_fv a (3, 0) (x : Int) from (by show _ = (if (x : Int) < 0 then Value.null else Value.ref (x : Int).toNat); rw [if_neg (by omega), Int.toNat_natCast]), q_upO h1 h2]
        rfl
      · cases h
    · cases h
  · cases h
theorem q_iaload : q_A (.iaload) := by
  intro sc y pc ls st u bb σ N hl hs hσ h
  simp only [q_act] at h
  split at h
  · rename_i i a st0
    rw [List.forall_mem_cons, List.forall_mem_cons] at hs
    split at h
    · rename_i e
      split at h
      · rename_i hi
        cases h
        simp only [pm_act, List.map_cons, q_v, if_pos e.1, q_in hi.1 hi.2 hs.1, if_true, q_clamp hs.1]
        exact ⟨by simp only [q_Nn, List.map_cons, q_v, q_I_toInt], hl, List.forall_mem_cons.mpr ⟨q_R_toInt _, hs.2.2⟩, hσ⟩
      · cases h
    · rename_i e
      split at h
      · rename_i hi
        cases h
        obtain ⟨n, h1, h2⟩ := q_lnty hi.1 (by decide)
        have e : ¬ a = 1000000 := q_ne h1
        rw [h2] at hi
        simp only [pm_act, List.map_cons, q_v, if_neg e, q_arr h1 (by decide) (by decide), q_in hi.2.1 hi.2.2 hs.1, if_true, q_clamp hs.1, Int.toNat_of_nonneg hi.2.1]
        exact ⟨rfl, hl, List.forall_mem_cons.mpr ⟨hσ _ _, hs.2.2⟩, hσ⟩
      · cases h
  · cases h
theorem q_baload : q_A (.baload) := by
  intro sc y pc ls st u bb σ N hl hs hσ h
  simp only [q_act] at h
  split at h
  · rename_i i a st0
    rw [List.forall_mem_cons, List.forall_mem_cons] at hs
    split at h
    · rename_i hi
      cases h
      rcases hi with ⟨e | e, hi⟩
      · obtain ⟨n, h1, h2⟩ := q_lnty e (by decide)
        rw [h2] at hi
        simp only [pm_act, List.map_cons, q_v, q_arr h1 (by decide) (by decide), q_in hi.1 hi.2 hs.1, if_true, q_clamp hs.1, Int.toNat_of_nonneg hi.1]
        exact ⟨rfl, hl, List.forall_mem_cons.mpr ⟨hσ _ _, hs.2.2⟩, hσ⟩
      · obtain ⟨n, h1, h2⟩ := q_lnty e (by decide)
        rw [h2] at hi
        simp only [pm_act, List.map_cons, q_v, q_arr h1 (by decide) (by decide), q_in hi.1 hi.2 hs.1, if_true, q_clamp hs.1, Int.toNat_of_nonneg hi.1]
        exact ⟨rfl, hl, List.forall_mem_cons.mpr ⟨hσ _ _, hs.2.2⟩, hσ⟩
    · cases h
  · cases h
theorem q_laload : q_A (.laload) := by
  intro sc y pc ls st u bb σ N hl hs hσ h
  simp only [q_act] at h
  split at h
  · rename_i i a st0
    rw [List.forall_mem_cons, List.forall_mem_cons] at hs
    split at h
    · rename_i hi
      cases h
      obtain ⟨n, h1, h2⟩ := q_lnty hi.1 (by decide)
      rw [h2] at hi
      simp only [pm_act, List.map_cons, q_v, q_arrL h1, q_in hi.2.1 hi.2.2 hs.1, if_true, q_clamp hs.1, Int.toNat_of_nonneg hi.2.1]
      exact ⟨rfl, hl, List.forall_mem_cons.mpr ⟨hσ _ _, hs.2.2⟩, hσ⟩
    · cases h
  · cases h
theorem q_aaload : q_A (.aaload) := by
  intro sc y pc ls st u bb σ N hl hs hσ h
  simp only [q_act] at h
  split at h
  · rename_i i a st0
    rw [List.forall_mem_cons, List.forall_mem_cons] at hs
    split at h
    · rename_i hi
      cases h
      obtain ⟨n, h1, h2⟩ := q_lnty hi.1 (by decide)
      rw [h2] at hi
      simp only [pm_act, List.map_cons, q_v, q_arrG h1, q_in hi.2.1 hi.2.2 hs.1, if_true, q_clamp hs.1]
      rw [if_pos (by omega)]
      exact ⟨rfl, hl, List.forall_mem_cons.mpr ⟨trivial, hs.2.2⟩, hσ⟩
    · cases h
  · cases h
theorem q_iastore : q_A (.iastore) := by
  intro sc y pc ls st u bb σ N hl hs hσ h
  simp only [q_act] at h
  split at h
  · rename_i x i a st0
    rw [List.forall_mem_cons, List.forall_mem_cons, List.forall_mem_cons] at hs
    split at h
    · rename_i hi
      cases h
      obtain ⟨n, h1, h2⟩ := q_lnty hi.1 (by decide)
      rw [h2] at hi
      simp only [pm_act, List.map_cons, q_v, q_arr h1 (by decide) (by decide), q_in hi.2.1 hi.2.2 hs.2.1, if_true, q_clamp hs.2.1]
      rw [q_upA h1 (by decide) (by decide) hi.2.1]
      exact ⟨rfl, hl, hs.2.2.2, q_S_up hσ _ _ hs.1⟩
    · cases h
  · cases h
theorem q_bastore : q_A (.bastore) := by
  intro sc y pc ls st u bb σ N hl hs hσ h
  simp only [q_act] at h
  split at h
  · rename_i x i a st0
    rw [List.forall_mem_cons, List.forall_mem_cons, List.forall_mem_cons] at hs
    split at h
    · rename_i hi
      cases h
      rcases hi with ⟨⟨e, hx⟩ | ⟨e, hx⟩, hi⟩
      · obtain ⟨n, h1, h2⟩ := q_lnty e (by decide)
        rw [h2] at hi
        have ex : vp_nar .byte (q_I x) = q_I x := by
          show (q_I x).toInt8.toInt32 = q_I x
          rw [← Int32.toInt_inj, Int8.toInt_toInt32, Int32.toInt_toInt8, q_toI hs.1]
          exact Int.bmod_eq_of_le (by omega) (by omega)
        simp only [pm_act, List.map_cons, q_v, q_arr h1 (by decide) (by decide), q_in hi.1 hi.2 hs.2.1, if_true, q_clamp hs.2.1, ex]
        rw [q_upA h1 (by decide) (by decide) hi.1]
        exact ⟨rfl, hl, hs.2.2.2, q_S_up hσ _ _ hs.1⟩
      · obtain ⟨n, h1, h2⟩ := q_lnty e (by decide)
        rw [h2] at hi
        have ex : vp_nar .boolean (q_I x) = q_I x := by rcases hx with rfl | rfl <;> rfl
        simp only [pm_act, List.map_cons, q_v, q_arr h1 (by decide) (by decide), q_in hi.1 hi.2 hs.2.1, if_true, q_clamp hs.2.1, ex]
        rw [q_upA h1 (by decide) (by decide) hi.1]
        exact ⟨rfl, hl, hs.2.2.2, q_S_up hσ _ _ hs.1⟩
    · cases h
  · cases h
theorem q_lastore : q_A (.lastore) := by
  intro sc y pc ls st u bb σ N hl hs hσ h
  simp only [q_act] at h
  split at h
  · rename_i x i a st0
    rw [List.forall_mem_cons, List.forall_mem_cons, List.forall_mem_cons] at hs
    split at h
    · rename_i hi
      cases h
      obtain ⟨n, h1, h2⟩ := q_lnty hi.1 (by decide)
      rw [h2] at hi
      simp only [pm_act, List.map_cons, q_v, q_arrL h1, q_in hi.2.1 hi.2.2 hs.2.1, if_true, q_clamp hs.2.1]
      rw [q_upL h1 hi.2.1]
      exact ⟨rfl, hl, hs.2.2.2, q_S_up hσ _ _ hs.1⟩
    · cases h
  · cases h
theorem q_arraylength : q_A (.arraylength) := by
  intro sc y pc ls st u bb σ N hl hs hσ h
  simp only [q_act] at h
  split at h
  · rename_i a st0
    rw [List.forall_mem_cons] at hs
    split at h
    · rename_i e
      obtain ⟨h1, h2, -⟩ := q_push_ok (bb := bb) hl hs.2 hσ h
      refine ⟨?_, h2⟩
      rw [← h1]
      simp only [pm_act, List.map_cons, q_v, if_pos e.1, nI, q_I, Int32.ofInt_eq_ofNat]
    · rename_i e
      split at h
      · rename_i ht
        cases h
        obtain ⟨n, h1, h2⟩ := q_lnty (a := a) rfl (by omega)
        have e : ¬ a = 1000000 := q_ne h1
        have e4 : ∃ z, pm_arr (q_N, bb) (q_enc σ) a = some (q_ty a, n, z) := by
          by_cases e3 : q_ty a = 3
          · rw [e3] at h1 ⊢; exact ⟨_, q_arrL h1⟩
          · by_cases e5 : q_ty a = 4
            · rw [e5] at h1 ⊢; exact ⟨_, q_arrG h1⟩
            · exact ⟨_, q_arr h1 e3 e5⟩
        obtain ⟨z, e4⟩ := e4
        simp only [pm_act, List.map_cons, q_v, if_neg e, e4, if_pos ht, h2]
        refine ⟨by simp only [q_Nn, List.map_cons, q_v, nI, q_I, Int32.ofInt_eq_ofNat], hl, List.forall_mem_cons.mpr ⟨?_, hs.2⟩, hσ⟩
        have := q_lens a n _ h1
        exact ⟨by omega, by omega⟩
      · cases h
  · cases h
theorem q_new (idx : Nat) : q_A (.new idx) := by
  intro sc y pc ls st u bb σ N hl hs hσ h
  simp only [q_act] at h
  split at h
  · rename_i e he
    split at h
    · rename_i hc
      cases h
      simp only [pm_act, he, q_sum_ok, if_pos hc]
      exact ⟨rfl, trivial⟩
    · cases h
  · cases h
theorem q_take_ok {n : Nat} {st as st' : List V2} (h : q_take n st = some (as, st')) (hs : ∀ v ∈ st, q_ok v) : pm_take n (st.map q_v) = some (as.map q_v, st'.map q_v) ∧ (∀ v ∈ as, q_ok v) ∧ ∀ v ∈ st', q_ok v := by
  unfold q_take at h
  unfold pm_take
  split at h
  · rename_i hn
    simp only [Option.some.injEq, Prod.mk.injEq] at h
    obtain ⟨rfl, rfl⟩ := h
    rw [List.length_map, if_pos hn, List.map_reverse, List.map_take, List.map_drop]
    exact ⟨rfl, fun v hv => hs v (List.mem_of_mem_take (List.mem_reverse.mp hv)), fun v hv => hs v (List.mem_of_mem_drop hv)⟩
  · cases h
theorem pm_call8f {y y' pc a : Nat} {ls st : List Value} {u : PU} {g : PG} {h : PH} {t : List Nat} (hc : pm_sum (.ref a :: st) ≤ 100 ∧ pm_fits y 0 0 u = true) (ha : 2000000 ≤ a ∧ pm_sum st ≤ 8) (ht : pm_tx[a - 2000000]? = some t) : pm_call y 8 y' pc ls (.ref a :: st) u g h = some (.inl (pc + 3, ls, .int (nI t.length) :: st, u, g, h)) := by
  cases hp : pm_call y 8 y' pc ls (.ref a :: st) u g h with
  | none =>
    exfalso
    unfold pm_call at hp
    split at hp
    · simp only at hp
      split at hp
      · split at hp
        · cases hp
        · rename_i hn
          rw [ht] at hn
          cases hn
      · rename_i hn
        exact hn ha
    · rename_i hn
      exact hn hc
  | some N' =>
    unfold pm_call at hp
    split at hp
    · simp only at hp
      split at hp
      · split at hp
        · rename_i t' ht'
          rw [ht] at ht'
          cases ht'
          exact hp.symm
        · rename_i hn
          rw [ht] at hn
          cases hn
      · rename_i hn
        exact absurd ha hn
    · rename_i hn
      exact absurd hc hn
theorem pm_call9f {y y' pc a : Nat} {i : Int32} {ls st : List Value} {u : PU} {g : PG} {h : PH} {t : List Nat} (hc : pm_sum (.int i :: .ref a :: st) ≤ 100 ∧ pm_fits y 0 0 u = true) (ha : 2000000 ≤ a ∧ pm_sum st ≤ 8) (ht : pm_tx[a - 2000000]? = some t) (hi : pm_in i t.length = true) : pm_call y 9 y' pc ls (.int i :: .ref a :: st) u g h = some (.inl (pc + 3, ls, .int (nI (t.getD i.toNatClampNeg 0)) :: st, u, g, h)) := by
  cases hp : pm_call y 9 y' pc ls (.int i :: .ref a :: st) u g h with
  | none =>
    exfalso
    unfold pm_call at hp
    split at hp
    · simp only at hp
      split at hp
      · split at hp
        · rename_i t' ht'
          rw [ht] at ht'
          cases ht'
          rw [if_pos hi] at hp
          cases hp
        · rename_i hn
          rw [ht] at hn
          cases hn
      · rename_i hn
        exact hn ha
    · rename_i hn
      exact hn hc
  | some N' =>
    unfold pm_call at hp
    split at hp
    · simp only at hp
      split at hp
      · split at hp
        · rename_i t' ht'
          rw [ht] at ht'
          cases ht'
          rw [if_pos hi] at hp
          exact hp.symm
        · rename_i hn
          rw [ht] at hn
          cases hn
      · rename_i hn
        exact absurd ha hn
    · rename_i hn
      exact absurd hc hn
theorem q_call_ok {y k y' pc : Nat} {ls st : List V2} {u : PU} {σ : St} {bb : Bool} {N : N2} (hl : ∀ v ∈ ls, q_ok v) (hs : ∀ v ∈ st, q_ok v) (hσ : q_S σ) (h : q_call y k y' pc ls st u σ = some N) :
    pm_call y k y' pc (ls.map q_v) (st.map q_v) u (q_N, bb) (q_enc σ) = some (q_Nn bb N) ∧ q_okN N := by
  unfold q_call at h
  split at h
  · rename_i hc
    rw [← q_sum_ok] at hc
    split at h
    · -- 0
      unfold pm_call
      rw [if_pos hc]
      split at h
      · rename_i a as st1 ht
        obtain ⟨t1, t2, t3⟩ := q_take_ok ht hs
        split at h
        · rename_i c fs hsh
          split at h
          · rename_i hown
            cases h
            simp only [t1, List.map_cons, q_v, q_obj hsh hown.2, if_pos hown.1]
            exact ⟨rfl, t2, t3⟩
          · cases h
        · cases h
      · cases h
    · -- 2
      unfold pm_call
      rw [if_pos hc]
      cases ht : q_take (pm_np y') st with
      | none => rw [ht] at h; cases h
      | some q =>
        rw [ht] at h
        cases h
        obtain ⟨t1, t2, t3⟩ := q_take_ok ht hs
        simp only [t1, Option.bind_some]
        exact ⟨rfl, t2, t3⟩
    · -- 5
      unfold pm_call
      rw [if_pos hc]
      split at h
      · rename_i b a st0
        rw [List.forall_mem_cons, List.forall_mem_cons] at hs
        cases h
        simp only [List.map_cons, q_v, q_lt hs.2.1 hs.1]
        by_cases hab : a < b
        · rw [if_pos hab]
          rw [show max a b = b by omega]
          exact ⟨rfl, hl, List.forall_mem_cons.mpr ⟨hs.1, hs.2.2⟩, hσ⟩
        · rw [if_neg hab]
          rw [show max a b = a by omega]
          exact ⟨rfl, hl, List.forall_mem_cons.mpr ⟨hs.2.1, hs.2.2⟩, hσ⟩
      · cases h
    · -- 6
      unfold pm_call
      rw [if_pos hc]
      split at h
      · rename_i b a st0
        rw [List.forall_mem_cons, List.forall_mem_cons] at hs
        cases h
        simp only [List.map_cons, q_v, q_lt hs.1 hs.2.1]
        by_cases hab : b < a
        · rw [if_pos hab]
          rw [show min a b = b by omega]
          exact ⟨rfl, hl, List.forall_mem_cons.mpr ⟨hs.1, hs.2.2⟩, hσ⟩
        · rw [if_neg hab]
          rw [show min a b = a by omega]
          exact ⟨rfl, hl, List.forall_mem_cons.mpr ⟨hs.2.1, hs.2.2⟩, hσ⟩
      · cases h
    · -- 7
      unfold pm_call
      rw [if_pos hc]
      split at h
      · rename_i n dp b sp a st0
        simp only [List.forall_mem_cons] at hs
        split at h
        · rename_i hq
          cases h
          obtain ⟨qa, qb, q1, q2, q3, q4, q5⟩ := hq
          obtain ⟨na, ha1, ha2⟩ := q_lnty qa (by decide)
          obtain ⟨nb, hb1, hb2⟩ := q_lnty qb (by decide)
          rw [ha2] at q4
          rw [hb2] at q5
          simp only [List.map_cons, q_v, q_arr ha1 (by decide) (by decide), q_arr hb1 (by decide) (by decide), q_I0, q_lt hs.2.2.2.1 q_R0, q_lt hs.2.1 q_R0, q_lt hs.1 q_R0, q_clamp hs.1, q_clamp hs.2.1, q_clamp hs.2.2.2.1]
          rw [if_pos ⟨by omega, by omega, by omega, by omega, by omega⟩]
          refine ⟨?_, hl, hs.2.2.2.2.2, ?_⟩
          · simp only [q_Nn, q_enc_upf]
            congr 9
            unfold q_encc
            rw [hb1]
            simp only
            congr 4
            funext j
            unfold va_cpy q_cpy
            by_cases hj : dp ≤ (j : Int) ∧ (j : Int) < dp + n
            · rw [if_pos (by omega), if_pos hj]
              have e9 : ((sp.toNat + (j - dp.toNat) : Nat) : Int) = sp + ((j : Int) - dp) := by omega
              show q_I (σ a ((sp.toNat + (j - dp.toNat) : Nat) : Int)) = _
              rw [e9]
            · rw [if_neg (by omega), if_neg hj]
          · intro c j
            unfold q_upf q_cpy
            split
            · split
              · exact hσ _ _
              · exact hσ _ _
            · exact hσ _ _
        · cases h
      · cases h
    · -- 8
      split at h
      · rename_i a st0
        rw [List.forall_mem_cons] at hs
        split at h
        · rename_i ha
          split at h
          · rename_i t ht
            have h7 := (sx_tx_ok t (List.mem_of_getElem? ht)).1
            have ha' : 2000000 ≤ a ∧ pm_sum (st0.map q_v) ≤ 8 := ⟨ha.1, by rw [q_sum_ok]; exact ha.2⟩
            clear ha
            cases h
            refine ⟨(pm_call8f hc ha' ht).trans ?_, ?_⟩
            · simp only [q_Nn, List.map_cons, q_v, nI, q_I, Int32.ofInt_eq_ofNat]
            · exact ⟨hl, List.forall_mem_cons.mpr ⟨⟨by omega, by omega⟩, hs.2⟩, hσ⟩
          · cases h
        · cases h
      · cases h
    · -- 9
      split at h
      · rename_i i a st0
        rw [List.forall_mem_cons, List.forall_mem_cons] at hs
        split at h
        · rename_i ha
          split at h
          · rename_i t ht
            have h9 : ∀ x ∈ t, x < 128 := (sx_tx_ok t (List.mem_of_getElem? ht)).2
            have ha' : 2000000 ≤ a ∧ pm_sum (st0.map q_v) ≤ 8 := ⟨ha.1, by rw [q_sum_ok]; exact ha.2⟩
            clear ha
            split at h
            · rename_i hi
              cases h
              refine ⟨(pm_call9f hc ha' ht (q_in hi.1 hi.2 hs.1)).trans ?_, ?_⟩
              · simp only [q_Nn, List.map_cons, q_v, nI, q_I, Int32.ofInt_eq_ofNat, q_clamp hs.1]
              · have h8 : t.getD i.toNat 0 < 128 := by
                  rw [List.getD_eq_getElem?_getD]
                  cases hg : t[i.toNat]? with
                  | none => decide
                  | some x => exact h9 x (List.mem_of_getElem? hg)
                exact ⟨hl, List.forall_mem_cons.mpr ⟨⟨by omega, by omega⟩, hs.2.2⟩, hσ⟩
            · cases h
          · cases h
        · cases h
      · cases h
    · -- 10
      unfold pm_call
      rw [if_pos hc]
      cases ht : q_take (pm_np y') st with
      | none => rw [ht] at h; cases h
      | some q =>
        rw [ht] at h
        cases h
        obtain ⟨t1, t2, t3⟩ := q_take_ok ht hs
        simp only [t1, Option.bind_some]
        exact ⟨rfl, t2, t3⟩
    · cases h
  · cases h
theorem q_invokevirtual (idx : Nat) : q_A (.invokevirtual idx) := by
  intro sc y pc ls st u bb σ N hl hs hσ h
  simp only [q_act] at h
  split at h
  · rename_i k y' hm
    split at h
    · rename_i hk
      simp only [pm_act, hm, if_pos hk]
      exact q_call_ok hl hs hσ h
    · cases h
  · cases h
theorem q_invokestatic (idx : Nat) : q_A (.invokestatic idx) := by
  intro sc y pc ls st u bb σ N hl hs hσ h
  simp only [q_act] at h
  split at h
  · rename_i k y' hm
    split at h
    · rename_i hk
      simp only [pm_act, hm, if_pos hk]
      exact q_call_ok hl hs hσ h
    · cases h
  · cases h
theorem q_ireturn : q_A (.ireturn) := by
  intro sc y pc ls st u bb σ N hl hs hσ h
  simp only [q_act] at h
  split at h
  · rename_i x
    rw [List.forall_mem_cons] at hs
    split at h
    · rename_i hc
      cases h
      have e : pm_retOk (pm_ret y) (q_I x) = true := by
        have := hc.1
        unfold q_retOk at this
        unfold pm_retOk
        split at this
        · rename_i hr
          rw [hr]
        · rename_i hr
          rw [hr]
          simp only [q_I0, show (1 : Int32) = q_I 1 from rfl, q_eq hs.1 q_R0, q_eq hs.1 (show q_R 1 by decide)]
          exact this
        · cases this
      simp only [pm_act, List.map_cons, List.map_nil, q_v, if_pos (show _ ∧ _ from ⟨e, hc.2⟩)]
      exact ⟨rfl, fun z hz => by cases hz; exact hs.1⟩
    · cases h
  · cases h
theorem q_return_ : q_A (.return_) := by
  intro sc y pc ls st u bb σ N hl hs hσ h
  simp only [q_act] at h
  split at h
  · rename_i hr
    split at h
    · rename_i hc
      cases h
      simp only [pm_act, List.map_nil, hr, if_pos hc]
      exact ⟨rfl, fun z hz => by cases hz⟩
    · cases h
  · cases h
end QB
