theorem sm_outer (c : ClassId) (N h0 : Nat) : ∀ i : Nat, Jvm.Free.Multi.outerC c N h0 i = arrV c N (fun j => va_rf (if j < i then some (h0 + 1 + j) else none))
  | 0 => by
    show ({ cls := c, slots := Array.replicate N .null, vm := .none } : Cell) = _
    rw [arrV_new]
    refine congrArg (arrV c N) (funext fun j => ?_)
    simp [va_rf]
  | i + 1 => by
    show (Jvm.Free.Multi.outerC c N h0 i).setSlot i (.ref (h0 + 1 + i)) = _
    rw [sm_outer c N h0 i, arrV_store]
    refine congrArg (arrV c N) (funext fun j => ?_)
    by_cases e : j = i
    · subst e
      simp [updV, va_rf]
    · by_cases h : j < i
      · simp [updV, e, h, Nat.lt_succ_of_lt h]
      · simp [updV, e, h, show ¬ j < i + 1 by omega]
section SD
variable {base b : Nat} {sc : Nat × (Nat → Int32)} {tx : Nat → Nat} {D : va_G} {cT : Nat → ClassId} {SX : State → Heap → Prop}
theorem sm_new (idx : Nat) : sm_A base b sc tx D cT SX (.new idx) := by
  intro y d pc pc' p l e R s m args below meth c H locs Q ls ls' st st' u u' g g' h h' lsR len C I hl hd ha kk
  simp only [pm_ln] at hl
  subst hl
  simp only [pm_act] at ha
  have C0 := C
  obtain ⟨hx, hb, hml, hown, hts, hK, hX, hbb, hbs, hini, hrc, hrs, -⟩ := C0
  split at ha
  · split at ha <;> simp at ha
  · rename_i c0 hth hnw
    split at ha
    · rename_i hc
      obtain ⟨hg, hgl, hfit⟩ := hc
      simp only [Option.some.injEq, Sum.inl.injEq, Prod.mk.injEq] at ha
      obtain ⟨rfl, rfl, rfl, rfl, rfl, rfl⟩ := ha
      obtain ⟨hf1, hf2⟩ := sm_fits hfit
      have hsz := I.2.2.2.2.1 hg
      obtain ⟨q, hq, hok, hw1, hw2, hw3⟩ := pm_new_ok hnw
      obtain ⟨ty0, hty0, hdf⟩ := hok.2.2.2.2.2
      have had : sm_ad base b tx g.1 = H.size := by
        rw [hsz]
        simp [sm_ad, show g.1 < 1000000 by omega]
      have hmap : (pm_df c0).map (sm_v (sm_ad base b tx)) = pm_df c0 := by
        have : ∀ v ∈ pm_df c0, sm_v (sm_ad base b tx) v = v := by
          have hd9 : ∀ v ∈ pm_df c0, v = .int 0 ∨ v = .null := by
            match c0, hq with
            | 0, _ | 1, _ | 2, _ | 3, _ | 4, _ | 5, _ | 6, _ | 7, _ | 8, _ | 9, _ | 10, _ | 11, _ | 12, _ | 13, _ | 14, _ | 15, _ => decide
            | n + 16, hq => simp [vwCl] at hq
          intro v hv
          rcases hd9 v hv with rfl | rfl <;> rfl
        calc (pm_df c0).map (sm_v (sm_ad base b tx)) = (pm_df c0).map id := List.map_congr_left this
          _ = pm_df c0 := List.map_id _
      have known := hK.1 c0 _ hq
      refine W.newcK hx hb hown (hts _ hw1) (hts _ hw2) (hts _ hw3) rfl hd (by rw [hrc]; exact hf1) (by rw [hrs, ← hok.2.2.2.2.1]; exact hf2) known.2.1 rfl (fun H1 kC hkC hnew hz hold => ?_)
      obtain ⟨hP, hS⟩ := sx_grow (x := .inr (c0, pm_df c0)) I.2.2.1 I.2.2.2.1 hz hold ⟨q, hq, (u_born ty0 hts hok.2.1 known hkC hnew hty0).to hdf⟩
      have e := kk lsR H1 locs ⟨I.1, I.2.1, ?_, hS, fun _ => by rw [hz, hsz]; simp only; omega, by simp only; omega⟩
      · simp only [List.map_cons] at e
        rw [show sm_v (sm_ad base b tx) (.ref g.1) = .ref H.size by rw [← had]; rfl] at e
        rw [← hok.2.2.2.2.1]
        exact e
      · rw [← had] at hP
        rw [← sm_w_push]
        show va_P D vwCl (sm_w _ cT g.1 h ++ [(_, .inr (c0, (pm_df c0).map _))]) H1
        rw [hmap]
        exact hP
    · cases ha
  · cases ha
theorem sm_invokespecial (idx : Nat) : sm_A base b sc tx D cT SX (.invokespecial idx) := by
  intro y d pc pc' p l e R s m args below meth c H locs Q ls ls' st st' u u' g g' h h' lsR len C I hl hd ha kk
  simp only [pm_ln] at hl
  subst hl
  simp only [pm_act] at ha
  have C0 := C
  obtain ⟨hx, hb, hml, hown, hts, hK, hX, hbb, hbs, hini, hrc, hrs, hrf, hrl, -⟩ := C0
  split at ha
  · rename_i k y' hm
    split at ha
    · rename_i hk
      unfold pm_call at ha
      split at ha
      · rename_i hsum
        obtain ⟨hsum, hfit⟩ := hsum
        have hfit := sm_fits hfit
        rcases hk with rfl | rfl | rfl
        · simp only [Option.bind_eq_some_iff] at ha
          obtain ⟨q, -, hq⟩ := ha
          split at hq <;> simp at hq
        · simp only [Option.bind_eq_some_iff] at ha
          obtain ⟨q, -, hq⟩ := ha
          split at hq <;> simp at hq
        · simp only at ha
          split at ha
          · rename_i a st0
            simp only [Option.some.injEq, Sum.inl.injEq, Prod.mk.injEq] at ha
            obtain ⟨rfl, rfl, rfl, rfl, rfl, rfl⟩ := ha
            have hs9 : pm_sum st0 ≤ 100 := by
              have : pm_sum (Value.ref a :: st0) = 1 + pm_sum st0 := by simp [pm_sum, Value.category]
              omega
            refine W.objInit hx hb hown (hts _ (pm_link hm (by decide))) (sm_ow hts 4 rfl) (sm_ow hts 5 rfl) rfl (by rw [hml]; exact I.1.1) rfl hd (by omega) ?_ (kk lsR H locs I)
            show 2 * 0 + _ + 12 ≤ _
            rw [sm_v_sum]
            omega
          · cases ha
      · cases ha
    · cases ha
  · cases ha
theorem sm_invokestatic (idx : Nat) : sm_A base b sc tx D cT SX (.invokestatic idx) := by
  intro y d pc pc' p l e R s m args below meth c H locs Q ls ls' st st' u u' g g' h h' lsR len C I hl hd ha kk
  simp only [pm_ln] at hl
  subst hl
  simp only [pm_act] at ha
  have C0 := C
  obtain ⟨hx, hb, hml, hown, hts, hK, hX, hbb, hbs, hini, hrc, hrs, hrf, hrl, -⟩ := C0
  split at ha
  · rename_i k y' hm
    split at ha
    · rename_i hk
      unfold pm_call at ha
      split at ha
      · rename_i hsum
        obtain ⟨hsum, hfit⟩ := hsum
        have hfit := sm_fits hfit
        rcases hk with rfl | rfl | rfl | rfl | rfl
        · simp only [Option.bind_eq_some_iff] at ha
          obtain ⟨q, -, hq⟩ := ha
          simp at hq
        · simp only at ha
          split at ha
          · rename_i x2 x1 st0
            simp only [Option.some.injEq, Sum.inl.injEq, Prod.mk.injEq] at ha
            obtain ⟨rfl, rfl, rfl, rfl, rfl, rfl⟩ := ha
            have hs9 : pm_sum st0 ≤ 100 := by
              have : pm_sum (Value.int x2 :: Value.int x1 :: st0) = 1 + (1 + pm_sum st0) := by simp [pm_sum, Value.category]
              omega
            exact va_mmax hx hb (by rw [hml]; exact I.1.1.symm) hown (hts _ (pm_link hm (by decide))) (sm_ow hts 6 rfl) (sm_ow hts 8 rfl) (sm_ow hts 9 rfl) (by omega) (by rw [sm_v_sum]; omega) (by rw [hrc]; omega) (by rw [hrs]; omega) hd (kk lsR H locs I)
          · cases ha
        · simp only at ha
          split at ha
          · rename_i x2 x1 st0
            simp only [Option.some.injEq, Sum.inl.injEq, Prod.mk.injEq] at ha
            obtain ⟨rfl, rfl, rfl, rfl, rfl, rfl⟩ := ha
            have hs9 : pm_sum st0 ≤ 100 := by
              have : pm_sum (Value.int x2 :: Value.int x1 :: st0) = 1 + (1 + pm_sum st0) := by simp [pm_sum, Value.category]
              omega
            exact va_mmin hx hb (by rw [hml]; exact I.1.1.symm) hown (hts _ (pm_link hm (by decide))) (sm_ow hts 7 rfl) (sm_ow hts 8 rfl) (sm_ow hts 10 rfl) (by omega) (by rw [sm_v_sum]; omega) (by rw [hrc]; omega) (by rw [hrs]; omega) hd (kk lsR H locs I)
          · cases ha
        · simp only at ha
          split at ha
          · rename_i n dp b2 sp a1 st0
            split at ha
            · rename_i n0 f n1 f' ho1 ho2
              split at ha
              · rename_i hc
                obtain ⟨c1, c2, c3, c4, c5⟩ := hc
                simp only [Option.some.injEq, Sum.inl.injEq, Prod.mk.injEq] at ha
                obtain ⟨rfl, rfl, rfl, rfl, rfl, rfl⟩ := ha
                have hs9 : pm_sum st0 ≤ 100 := by
                  have : pm_sum (Value.int n :: Value.int dp :: Value.ref b2 :: Value.int sp :: Value.ref a1 :: st0) = 1 + (1 + (1 + (1 + (1 + pm_sum st0)))) := by simp [pm_sum, Value.category]
                  omega
                obtain ⟨haN, hob⟩ := pm_arr_ok ho1
                obtain ⟨haN2, hob2⟩ := pm_arr_ok ho2
                refine sx_sized I.2.2.2.1 (fun n9 hS9 k9 => va_copyi hx hb (by rw [hml]; exact I.1.1.symm) hown (hts _ (pm_link hm (by decide))) (sm_ow hts 11 rfl) (sm_ow hts 12 rfl) (sm_ow hts 13 rfl) hK I.2.2.1 (sm_w_D I.2.2.2.2.2) hS9 a1 b2 0 0 (sm_getA haN hob) (sm_getA haN2 hob2) rfl rfl rfl c1 c2 c3 c4 c5 (fun _ _ => rfl) (by omega) ?_ hd (fun H2 l2 h2 _ h3 => k9 H2 l2 h2 h3)) (fun H1 locs1 hz hP hS => kk lsR H1 locs1 ⟨I.1, I.2.1, ?_, hS, fun q9 => by rw [hz]; exact I.2.2.2.2.1 q9, I.2.2.2.2.2⟩)
                · rw [sm_v_sum]
                  have : nativeFrameWords "java/lang/System" "arraycopy" 5 ≤ 100 := by decide +kernel
                  omega
                · rw [← sm_w_set haN2]
                  exact hP
              · cases ha
            · cases ha
          · cases ha
        · simp only [Option.bind_eq_some_iff] at ha
          obtain ⟨q, -, hq⟩ := ha
          simp at hq
      · cases ha
    · cases ha
  · cases ha
end SD
