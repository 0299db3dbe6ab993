section SC
variable {base b : Nat} {sc : Nat × (Nat → Int32)} {tx : Nat → Nat} {D : va_G} {cT : Nat → ClassId} {SX : State → Heap → Prop}
theorem sm_ow {s : State} {args : Array Value} (hts : ∀ w ∈ pm_ws, w.before args s = true) (k : Nat) {w : Jvm.Cond} (hk : pm_ow[k]? = some w) : w.before args s = true := hts _ (pm_ow_in _ (List.mem_of_getElem? hk))
theorem sm_alen (ad : Nat → Nat) (v : vp_A) : (sm_a ad v).1 = v.1 := by
  obtain ⟨n, f⟩ := v
  rcases f with f | f | f | f | f <;> rfl
theorem sm_arraylength : sm_A base b sc tx D cT SX .arraylength := by
  intro y d pc pc' p l e R s m args below meth c H locs Q ls ls' st st' u u' g g' h h' lsR len C I hl hd ha kk
  simp only [pm_ln] at hl
  subst hl
  simp only [pm_act] at ha
  have C0 := C
  obtain ⟨hx, hb, hml, hown, hts, hK, hX, hbb, hbs, -⟩ := C0
  split at ha
  · rename_i a st0
    split at ha
    · rename_i hz
      subst hz
      simp only [Option.some.injEq, Sum.inl.injEq, Prod.mk.injEq] at ha
      obtain ⟨rfl, rfl, rfl, rfl, rfl, rfl⟩ := ha
      exact va_slen (b := b) hx hb hX (Nat.lt_of_lt_of_le hbb hbs) (by show ¬ base ≤ b; omega) I.2.2.2.1 hd (kk lsR H locs I)
    · split at ha
      · rename_i t n f ho
        split at ha
        · rename_i ht
          simp only [Option.some.injEq, Sum.inl.injEq, Prod.mk.injEq] at ha
          obtain ⟨rfl, rfl, rfl, rfl, rfl, rfl⟩ := ha
          obtain ⟨haN, hob⟩ := pm_arr_ok ho
          have hq : ∃ ty, (sm_ty cT)[t]? = some (cT t, ty) := by
            match t, ht with
            | 0, _ => exact ⟨_, rfl⟩
            | 1, _ => exact ⟨_, rfl⟩
            | 2, _ => exact ⟨_, rfl⟩
            | 3, _ => exact ⟨_, rfl⟩
            | 4, _ => exact ⟨_, rfl⟩
          obtain ⟨ty, hty⟩ := hq
          exact va_alen hx hb hK I.2.2.1 a t (sm_getA haN hob) hty (by rw [sm_alen]; rfl) hd (kk lsR H locs I)
        · cases ha
      · cases ha
  · cases ha
theorem sm_fits {y bc bs : Nat} {u : PU} (h : pm_fits y bc bs u = true) : u.1 + bc ≤ pm_bc y ∧ u.2 + bs ≤ pm_bs y := by
  unfold pm_fits at h
  simp only [Bool.and_eq_true, decide_eq_true_eq] at h
  exact h
theorem sm_K {s : State} (hK : va_K D vwCl (sm_ty cT) s) (k : Nat) {q : ClassId × FieldType} (h : (sm_ty cT)[k]? = some q) : ArrOfT s q.1 q.2 ∧ va_RA s q.1 q.2 := hK.2 k q h
theorem sm_newarray (t : ArrayType) : sm_A base b sc tx D cT SX (.newarray t) := by
  intro y d pc pc' p l e R s m args below meth c H locs Q ls ls' st st' u u' g g' h h' lsR len C I hl hd ha kk
  simp only [pm_ln] at hl
  subst hl
  simp only [pm_act] at ha
  have C0 := C
  obtain ⟨hx, hb, hml, hown, hts, hK, hX, hbb, hbs, hini, hrc, hrs, -⟩ := C0
  split at ha
  · rename_i n st0
    split at ha
    · rename_i k z0 z hk
      split at ha
      · rename_i hc
        obtain ⟨hn, hn9, hg, hgl, hfit⟩ := hc
        simp only [Option.some.injEq, Sum.inl.injEq, Prod.mk.injEq] at ha
        obtain ⟨rfl, rfl, rfl, rfl, rfl, rfl⟩ := ha
        obtain ⟨hf1, hf2⟩ := sm_fits hfit
        have hsz := I.2.2.2.2.1 hg
        have key : ∃ (ty : FieldType) (w : Nat), newarray.typeOf t = ty ∧ pm_ow[w]? = some (.arrayClass ty) ∧ s.vm.findClass ("[" ++ ty.toString) = some (cT k) ∧ componentBytes ty ≤ 8 ∧ (∀ ad : Nat → Nat, sm_a ad (n.toNatClampNeg, z) = (n.toNatClampNeg, z)) ∧ vp_cell (cT k) (n.toNatClampNeg, z) = arrV (cT k) n.toNatClampNeg (fun _ => defaultValue ty) := by
          cases t <;> simp only [pm_ty, Option.some.injEq, Prod.mk.injEq, reduceCtorEq] at hk
          · obtain ⟨rfl, rfl, rfl⟩ := hk
            exact ⟨.boolean, 2, rfl, rfl, (sm_K hK 2 rfl).2, by decide, fun _ => rfl, rfl⟩
          · obtain ⟨rfl, rfl, rfl⟩ := hk
            exact ⟨.byte, 1, rfl, rfl, (sm_K hK 1 rfl).2, by decide, fun _ => rfl, rfl⟩
          · obtain ⟨rfl, rfl, rfl⟩ := hk
            exact ⟨.int, 0, rfl, rfl, (sm_K hK 0 rfl).2, by decide, fun _ => rfl, rfl⟩
          · obtain ⟨rfl, rfl, rfl⟩ := hk
            exact ⟨.long, 3, rfl, rfl, (sm_K hK 3 rfl).2, by decide, fun _ => rfl, rfl⟩
        obtain ⟨ty, w, k1, k2, k3, k4, k5, k6⟩ := key
        have had : sm_ad base b tx g.1 = H.size := by
          rw [hsz]
          simp [sm_ad, show g.1 < 1000000 by omega]
        subst k1
        refine va_newaK hx hb (sm_ow hts w k2) rfl hd rfl hn rfl ?_ (by rw [hrc]; exact hf1) (by rw [hrs]; exact hf2) rfl (fun H1 cA hnew hz hold _ hnm => ?_)
        · have : n.toNatClampNeg * componentBytes (newarray.typeOf t) ≤ 100000 * 8 := Nat.mul_le_mul hn9 k4
          omega
        · cases Option.some.inj (k3.symm.trans hnm)
          obtain ⟨hP, hS⟩ := sx_grow (x := .inl (cT k, n.toNatClampNeg, z)) I.2.2.1 I.2.2.2.1 hz hold (show H1[H.size]? = some (vp_cell (cT k) (n.toNatClampNeg, z)) by rw [k6]; exact hnew)
          have e := kk lsR H1 locs ⟨I.1, I.2.1, ?_, hS, fun _ => by rw [hz, hsz]; simp only; omega, by simp only; omega⟩
          · simp only [List.map_cons] at e
            rw [show sm_v (sm_ad base b tx) (.ref g.1) = .ref H.size by rw [← had]; rfl] at e
            exact e
          · rw [← had] at hP
            rw [← sm_w_push]
            show va_P D vwCl (sm_w _ cT g.1 h ++ [(_, .inl (cT k, sm_a _ (n.toNatClampNeg, z)))]) H1
            rw [k5]
            exact hP
      · cases ha
    · cases ha
  · cases ha
end SC
