theorem sx_tx_ok : ∀ t ∈ pm_tx, t.length < 100 ∧ ∀ x ∈ t, x < 128 := by decide +kernel
theorem sx_st_len : pm_st.length = sx_tn.length := by decide +kernel
section SU
variable {base b : Nat} {sc : Nat × (Nat → Int32)} {tx : Nat → Nat} {D : va_G} {cT : Nat → ClassId} {SX : State → Heap → Prop}
theorem sm_adT (base b : Nat) (tx : Nat → Nat) (j : Nat) : sm_ad base b tx (2000000 + j) = tx j := by
  unfold sm_ad
  rw [if_neg (by omega), if_neg (by omega), Nat.add_sub_cancel_left]
theorem sm_ldc (hTx : ∀ (s : State) (H : Heap), SX s H → sx_S base tx s H) (idx : Nat) : sm_A base b sc tx D cT SX (.ldc idx) := by
  intro y d pc pc' p l e R s m args below meth c H locs Q ls ls' st st' u u' g g' h h' lsR len C I hl hd ha kk
  simp only [pm_ln] at hl
  subst hl
  simp only [pm_act] at ha
  have C0 := C
  obtain ⟨hx, hb, hml, hown, hts, hK, hX, hbb, hbs, hini, hrc, hrs, hrf, hrl, hSX, hy⟩ := C0
  split at ha
  · rename_i v _ hv
    simp only [Option.some.injEq, Sum.inl.injEq, Prod.mk.injEq] at ha
    obtain ⟨rfl, rfl, rfl, rfl, rfl, rfl⟩ := ha
    exact lv_ldc hx hb hown (hts _ (pm_num_ok (by assumption))) hd (kk lsR H locs I)
  · rename_i j hn hj
    simp only [Option.some.injEq, Sum.inl.injEq, Prod.mk.injEq] at ha
    obtain ⟨rfl, rfl, rfl, rfl, rfl, rfl⟩ := ha
    unfold pm_str at hj
    rw [List.findIdx?_eq_some_iff_getElem] at hj
    obtain ⟨hjl, hj1, -⟩ := hj
    simp only [Bool.and_eq_true, beq_iff_eq] at hj1
    have hq : pm_st[j]? = some (pm_own y, idx) := by
      rw [List.getElem?_eq_getElem hjl]
      exact congrArg some (Prod.ext hj1.1 hj1.2)
    obtain ⟨t, ht⟩ : ∃ t, sx_tn[j]? = some t := ⟨_, List.getElem?_eq_getElem (by rw [← sx_st_len]; exact hjl)⟩
    have hv := (hTx s s.heap hSX).1 j _ t hq ht
    have K := kk lsR H locs I
    simp only [List.map_cons] at K
    rw [show sm_v (sm_ad base b tx) (.ref (2000000 + j)) = .ref (tx j) by rw [← sm_adT base b tx j]; rfl] at K
    exact va_ldcS hx hb hown hv hd K
  · cases ha
theorem sx_ldcSw {p : Program} {l : Launch} {e : Env} {R : Room} {s : State} {m : MethodId} {args : Array Value} {below : List Frame} {meth : Method} {c : Code} {H : Heap} {locs : List Loc} {cells slots : Nat} {Q : State → Prop} {cc : ByteArray} {pc : Nat} {ls : Array Slot} {rest : List Value} (hexec : p.tables.exec = Jvm.exec) (hb : c.code = cc) {own tx : String} {index q : Nat} (hown : s.vm.findClass own = some m.cls) (hZ : vk_R own index tx q s) (hdg : decode cc pc = .ok (.ldc_w index, 3))
    (k : W p l e R s m args below meth c H locs cells slots Q (F0 m (pc + 3) ls (.ref q :: rest))) : W p l e R s m args below meth c H locs cells slots Q (F0 m pc ls rest) := by
  intro T hT X
  obtain ⟨t, a1, b1⟩ := k T hT X
  exact ⟨t, X.ldcStringW hexec hown (text := tx) (a := q) hZ.1 hZ.2 (g := F0 m pc ls rest) rfl (by rw [hb]; exact hdg) t a1, b1⟩
theorem sm_ldc_w (hTx : ∀ (s : State) (H : Heap), SX s H → sx_S base tx s H) (idx : Nat) : sm_A base b sc tx D cT SX (.ldc_w idx) := by
  intro y d pc pc' p l e R s m args below meth c H locs Q ls ls' st st' u u' g g' h h' lsR len C I hl hd ha kk
  simp only [pm_ln] at hl
  subst hl
  simp only [pm_act] at ha
  have C0 := C
  obtain ⟨hx, hb, hml, hown, hts, hK, hX, hbb, hbs, hini, hrc, hrs, hrf, hrl, hSX, hy⟩ := C0
  split at ha
  · rename_i v _ hv
    simp only [Option.some.injEq, Sum.inl.injEq, Prod.mk.injEq] at ha
    obtain ⟨rfl, rfl, rfl, rfl, rfl, rfl⟩ := ha
    exact lv_ldcw hx hb hown (hts _ (pm_num_ok (by assumption))) hd (kk lsR H locs I)
  · rename_i j hn hj
    simp only [Option.some.injEq, Sum.inl.injEq, Prod.mk.injEq] at ha
    obtain ⟨rfl, rfl, rfl, rfl, rfl, rfl⟩ := ha
    unfold pm_str at hj
    rw [List.findIdx?_eq_some_iff_getElem] at hj
    obtain ⟨hjl, hj1, -⟩ := hj
    simp only [Bool.and_eq_true, beq_iff_eq] at hj1
    have hq : pm_st[j]? = some (pm_own y, idx) := by
      rw [List.getElem?_eq_getElem hjl]
      exact congrArg some (Prod.ext hj1.1 hj1.2)
    obtain ⟨t, ht⟩ : ∃ t, sx_tn[j]? = some t := ⟨_, List.getElem?_eq_getElem (by rw [← sx_st_len]; exact hjl)⟩
    have hv := (hTx s s.heap hSX).1 j _ t hq ht
    have K := kk lsR H locs I
    simp only [List.map_cons] at K
    rw [show sm_v (sm_ad base b tx) (.ref (2000000 + j)) = .ref (tx j) by rw [← sm_adT base b tx j]; rfl] at K
    exact sx_ldcSw hx hb hown hv hd K
  · cases ha
theorem sm_invokevirtual (hTx : ∀ (s : State) (H : Heap), SX s H → sx_S base tx s H) (idx : Nat) : sm_A base b sc tx D cT SX (.invokevirtual idx) := by
  intro y d pc pc' p l e R s m args below meth c H locs Q ls ls' st st' u u' g g' h h' lsR len C I hl hd ha kk
  simp only [pm_ln] at hl
  subst hl
  simp only [pm_act] at ha
  have C0 := C
  obtain ⟨hx, hb, hml, hown, hts, hK, hX, hbb, hbs, hini, hrc, hrs, hrf, hrl, hSX, hy⟩ := C0
  have hS0 := hTx s s.heap hSX
  have hlow : ∀ q : Nat, q < base → H[q]? = s.heap[q]? := fun q hq => I.2.2.2.1.2.1 q (by omega) (by show ¬ base ≤ q; omega)
  have hSH : sx_S base tx s H := sx_S_kept hlow hS0
  split at ha
  · rename_i k y' hm
    split at ha
    · rename_i hk
      unfold pm_call at ha
      split at ha
      · rename_i hsum
        obtain ⟨hsum, hfit⟩ := hsum
        have hfit := sm_fits hfit
        rcases hk with rfl | rfl | rfl
        · simp only at ha
          (repeat' split at ha) <;> cases ha
        · simp only at ha
          split at ha
          · rename_i a st0
            split at ha
            · rename_i ha2
              split at ha
              · rename_i t ht
                simp only [Option.some.injEq, Sum.inl.injEq, Prod.mk.injEq] at ha
                obtain ⟨rfl, rfl, rfl, rfl, rfl, rfl⟩ := ha
                obtain ⟨t1, t2⟩ := sx_tx_ok t (List.mem_of_getElem? ht)
                obtain ⟨av, a1, -⟩ := hSH.2.1 _ t ht
                have ea : sm_v (sm_ad base b tx) (.ref a) = .ref (tx (a - 2000000)) := by
                  rw [← sm_adT base b tx (a - 2000000), Nat.add_sub_of_le ha2.1]
                  rfl
                have hs9 : pm_sum st0 ≤ 8 := ha2.2
                simp only [List.map_cons]
                rw [ea]
                refine W.callR (r := nI t.length) (rest := st0.map (sm_v (sm_ad base b tx))) (a := #[.ref (tx (a - 2000000))]) (W.runV (C := RJ0) (As := []) (b := tx (a - 2000000)) (rest := st0.map (sm_v (sm_ad base b tx))) (n := 0) (cc := pm_code y) (own := pm_cn (pm_own y)) (index := idx) ⟨hx, hb, hml, hown, hts⟩ (sx_cLen (base := base) ht t1) ⟨callB_of 0 hts (sx_scg 2 rfl) rfl rfl rfl (sx_sww hts 20 rfl) (hts _ (pm_link hm (by decide))) (by decide +kernel) ⟨by show 2 + 1 ≤ _; omega, by show 8 + (1 + 11) + 2 * 100 ≤ _; omega⟩, sx_sww hts 11 rfl, sx_sww hts 15 rfl⟩ ⟨sx_PS_blind, sx_recv a1, fun U hU hW => ⟨rfl, by rw [hU]; exact sx_S_warm hW hSH⟩⟩ rfl rfl I.1.1 rfl (by show 2 * 0 + _ ≤ 8; rw [sm_v_sum]; omega) hd ⟨by rw [hrc]; omega, by rw [hrs]; omega⟩) (kk lsR H locs I)
              · cases ha
            · cases ha
          · cases ha
        · simp only at ha
          split at ha
          · rename_i i a st0
            split at ha
            · rename_i ha2
              split at ha
              · rename_i t ht
                split at ha
                · rename_i hin
                  simp only [Option.some.injEq, Sum.inl.injEq, Prod.mk.injEq] at ha
                  obtain ⟨rfl, rfl, rfl, rfl, rfl, rfl⟩ := ha
                  obtain ⟨t1, t2⟩ := sx_tx_ok t (List.mem_of_getElem? ht)
                  obtain ⟨av, a1, -⟩ := hSH.2.1 _ t ht
                  obtain ⟨k9, hk9, rfl⟩ := vp_in_of (pm_in_ok hin) (by omega)
                  have ea : sm_v (sm_ad base b tx) (.ref a) = .ref (tx (a - 2000000)) := by
                    rw [← sm_adT base b tx (a - 2000000), Nat.add_sub_of_le ha2.1]
                    rfl
                  have hs9 : pm_sum st0 ≤ 8 := ha2.2
                  simp only [List.map_cons]
                  rw [ea]
                  have K := kk lsR H locs I
                  rw [nI_clamp (by omega)] at K
                  exact W.callR (r := nI (t.getD k9 0)) (rest := st0.map (sm_v (sm_ad base b tx))) (a := #[.ref (tx (a - 2000000)), .int (nI k9)]) (W.runV (C := RJ0) (As := [.int (nI k9)]) (b := tx (a - 2000000)) (rest := st0.map (sm_v (sm_ad base b tx))) (n := 1) (cc := pm_code y) (own := pm_cn (pm_own y)) (index := idx) ⟨hx, hb, hml, hown, hts⟩ (sx_cCa (base := base) ht t1 hk9 t2) ⟨callB_of 1 hts (sx_scg 3 rfl) rfl rfl rfl (sx_sww hts 20 rfl) (hts _ (pm_link hm (by decide))) (by decide +kernel) ⟨by show 4 + 1 ≤ _; omega, by show 8 + (2 + 11) + 4 * 100 ≤ _; omega⟩, sx_sww hts 12 rfl, sx_sww hts 16 rfl⟩ ⟨sx_PS_blind, sx_recv a1, fun U hU hW => ⟨rfl, by rw [hU]; exact sx_S_warm hW hSH⟩⟩ rfl rfl I.1.1 rfl (by show 2 * 0 + _ ≤ 8; rw [sm_v_sum]; omega) hd ⟨by rw [hrc]; omega, by rw [hrs]; omega⟩) K
                · cases ha
              · cases ha
            · cases ha
          · cases ha
      · cases ha
    · cases ha
  · cases ha
end SU
