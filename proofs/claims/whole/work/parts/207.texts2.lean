section STZ
variable {base : Nat} {tx : Nat → Nat} {l : Launch}
/-- String.coder -/
theorem sx_cCoder {j : Nat} {t : List Nat} (hj : pm_tx[j]? = some t) : Met l yJ0_coder_7d493 (.code yJ0_coder_7d493 cJ0_coder_7d493 1 (some .byte) :: pm_ws) (sx_Rm 1) (sx_PS base tx [.ref (tx j)]) (QcRead 0) 0 0 (fun _ => False) := by
  refine Met.ofW (cc := cJ0_coder_7d493) (maxL := 1) (ret := some .byte) (by decide +kernel) rfl ?_
  intro p e s m args below meth c s₁ B hml hv
  obtain ⟨rfl, hS⟩ := hv
  have hx := B.exec
  have hb := B.bytes
  have hr := B.returns
  have hlocks := B.notSynchronized
  have hts : ∀ w ∈ pm_ws, w.before _ s = true := fun w hw => atoms_spec (ws := _ :: pm_ws) B.pre w (List.mem_cons_of_mem _ hw)
  have hown : s.vm.findClass RJ0 = some m.cls := findClass_of_methodNamed B.named
  obtain ⟨av, a1, a2, a3, a4⟩ := hS.2.1 j t hj
  have hl := lv_entry ([.ref (tx j)]) (n := 1) (Nat.le_of_ble_eq_true rfl)
  rw [lg_entry_eq]
  generalize (lg_sl ([.ref (tx j)]) ++ List.replicate (1 - (lg_sl ([.ref (tx j)])).length) Slot.unset).toArray = ls at hl ⊢
  have hl : lv_has ls 1 [(0, .ref (tx j))] := hl
  refine va_gets (own := RJ0) (ref := "java/lang/String") (index := 38) hx hb hS.2.2.1 va_S.rf hown (sx_sww hts 2 rfl) (fun _ h => h) (by decide +kernel : decode cJ0_coder_7d493 0 = .ok (.getstatic 38, 3)) ?_
  refine lv_if_eq (tgt := 13) hx hb (by decide +kernel : decode cJ0_coder_7d493 3 = .ok (.ifCond .eq 10, 3)) (by decide) (fun q => absurd q (by decide)) (fun _ => ?_)
  refine lv_aload_n hx hb (by decide +kernel : decode cJ0_coder_7d493 6 = .ok (.aload_n 0, 1)) rfl (lv_at hl 0 rfl) ?_
  refine vk_getf (own := RJ0) (ref := "java/lang/String") (index := 15) hx hb a2 va_S.rf hown (sx_sww hts 1 rfl) (fun _ h => h) (by decide +kernel : decode cJ0_coder_7d493 7 = .ok (.getfield 15, 3)) ?_
  refine lv_goto (tgt := 14) hx hb (by decide +kernel : decode cJ0_coder_7d493 10 = .ok (.goto 4, 3)) (by decide) ?_
  exact W.zret hx hb hr rfl (fun t ht _ => ⟨rfl, ht⟩) (fun _ h => by cases h) (by decide +kernel : decode cJ0_coder_7d493 14 = .ok (.ireturn, 1)) hlocks
/-- String.isLatin1 -/
theorem sx_cLat {j : Nat} {t : List Nat} (hj : pm_tx[j]? = some t) : Met l yJ0_isLatin1_aae02 (.code yJ0_isLatin1_aae02 cJ0_isLatin1_aae02 1 (some .boolean) :: pm_ws) (sx_Rm 1) (sx_PS base tx [.ref (tx j)]) (QcRead 1) 0 0 (fun _ => False) := by
  refine Met.ofW (cc := cJ0_isLatin1_aae02) (maxL := 1) (ret := some .boolean) (by decide +kernel) rfl ?_
  intro p e s m args below meth c s₁ B hml hv
  obtain ⟨rfl, hS⟩ := hv
  have hx := B.exec
  have hb := B.bytes
  have hr := B.returns
  have hlocks := B.notSynchronized
  have hts : ∀ w ∈ pm_ws, w.before _ s = true := fun w hw => atoms_spec (ws := _ :: pm_ws) B.pre w (List.mem_cons_of_mem _ hw)
  have hown : s.vm.findClass RJ0 = some m.cls := findClass_of_methodNamed B.named
  obtain ⟨av, a1, a2, a3, a4⟩ := hS.2.1 j t hj
  have hl := lv_entry ([.ref (tx j)]) (n := 1) (Nat.le_of_ble_eq_true rfl)
  rw [lg_entry_eq]
  generalize (lg_sl ([.ref (tx j)]) ++ List.replicate (1 - (lg_sl ([.ref (tx j)])).length) Slot.unset).toArray = ls at hl ⊢
  have hl : lv_has ls 1 [(0, .ref (tx j))] := hl
  refine va_gets (own := RJ0) (ref := "java/lang/String") (index := 38) hx hb hS.2.2.1 va_S.rf hown (sx_sww hts 2 rfl) (fun _ h => h) (by decide +kernel : decode cJ0_isLatin1_aae02 0 = .ok (.getstatic 38, 3)) ?_
  refine lv_if_eq (tgt := 17) hx hb (by decide +kernel : decode cJ0_isLatin1_aae02 3 = .ok (.ifCond .eq 14, 3)) (by decide) (fun q => absurd q (by decide)) (fun _ => ?_)
  refine lv_aload_n hx hb (by decide +kernel : decode cJ0_isLatin1_aae02 6 = .ok (.aload_n 0, 1)) rfl (lv_at hl 0 rfl) ?_
  refine vk_getf (own := RJ0) (ref := "java/lang/String") (index := 15) hx hb a2 va_S.rf hown (sx_sww hts 1 rfl) (fun _ h => h) (by decide +kernel : decode cJ0_isLatin1_aae02 7 = .ok (.getfield 15, 3)) ?_
  refine lv_if_ne (tgt := 17) hx hb (by decide +kernel : decode cJ0_isLatin1_aae02 10 = .ok (.ifCond .ne 7, 3)) (by decide) (fun q => absurd rfl q) (fun _ => ?_)
  refine lv_iconst (v := 1) hx hb (by decide +kernel : decode cJ0_isLatin1_aae02 13 = .ok (.iconst 1, 1)) (by decide) ?_
  refine lv_goto (tgt := 18) hx hb (by decide +kernel : decode cJ0_isLatin1_aae02 14 = .ok (.goto 4, 3)) (by decide) ?_
  exact W.zret hx hb hr rfl (fun t ht _ => ⟨rfl, ht⟩) (fun _ h => by cases h) (by decide +kernel : decode cJ0_isLatin1_aae02 18 = .ok (.ireturn, 1)) hlocks
theorem sx_recv {s : State} {j : Nat} {H : Heap} (h : va_O "java/lang/String" (tx j) (fun q => base ≤ q) s H) : ∃ cell : Cell, H[tx j]? = some cell ∧ cell.vm.isStatics = false ∧ s.vm.findClass "java/lang/String" = some cell.cls := by
  obtain ⟨cell, h1, h2, h3, -⟩ := h
  exact ⟨cell, h1, by first | exact h2 | (rw [h2]; rfl), h3⟩
/-- String.length -/
theorem sx_cLen {j : Nat} {t : List Nat} (hj : pm_tx[j]? = some t) (ht9 : t.length < 100) : Met l yJ0_length_8abf5 (.code yJ0_length_8abf5 cJ0_length_8abf5 1 (some .int) :: pm_ws) (sx_Rm 2) (sx_PS base tx [.ref (tx j)]) (QcRead (nI t.length)) 0 0 (fun _ => False) := by
  refine Met.ofW (cc := cJ0_length_8abf5) (maxL := 1) (ret := some .int) (by decide +kernel) rfl ?_
  intro p e s m args below meth c s₁ B hml hv
  obtain ⟨rfl, hS⟩ := hv
  have hx := B.exec
  have hb := B.bytes
  have hr := B.returns
  have hlocks := B.notSynchronized
  have hts : ∀ w ∈ pm_ws, w.before _ s = true := fun w hw => atoms_spec (ws := _ :: pm_ws) B.pre w (List.mem_cons_of_mem _ hw)
  have hown : s.vm.findClass RJ0 = some m.cls := findClass_of_methodNamed B.named
  obtain ⟨av, a1, a2, a3, a4⟩ := hS.2.1 j t hj
  have hl := lv_entry ([.ref (tx j)]) (n := 1) (Nat.le_of_ble_eq_true rfl)
  rw [lg_entry_eq]
  generalize (lg_sl ([.ref (tx j)]) ++ List.replicate (1 - (lg_sl ([.ref (tx j)])).length) Slot.unset).toArray = ls at hl ⊢
  have hl : lv_has ls 1 [(0, .ref (tx j))] := hl
  refine lv_aload_n hx hb (by decide +kernel : decode cJ0_length_8abf5 0 = .ok (.aload_n 0, 1)) rfl (lv_at hl 0 rfl) ?_
  refine vk_getf (own := RJ0) (ref := "java/lang/String") (index := 9) hx hb a3 va_S.rf hown (sx_sww hts 0 rfl) (fun _ h => h) (by decide +kernel : decode cJ0_length_8abf5 1 = .ok (.getfield 9, 3)) ?_
  refine va_tlen (v := nI t.length) hx hb a4 va_S.rf rfl (by decide +kernel : decode cJ0_length_8abf5 4 = .ok (.arraylength, 1)) ?_
  refine lv_aload_n hx hb (by decide +kernel : decode cJ0_length_8abf5 5 = .ok (.aload_n 0, 1)) rfl (lv_at hl 0 rfl) ?_
  refine W.callR (r := 0) (rest := [.int (nI t.length)]) (a := #[.ref (tx j)]) (W.runV (C := RJ0) (As := []) (b := tx j) (rest := [.int (nI t.length)]) (n := 0) (cc := cJ0_length_8abf5) (own := RJ0) (index := 335) ⟨hx, hb, hml, hown, hts⟩ (sx_cCoder (base := base) hj) ⟨callB_of 0 hts (sx_scg 0 rfl) rfl rfl rfl (sx_sww hts 20 rfl) (sx_sww hts 4 rfl) (by decide +kernel) ⟨Nat.le_of_ble_eq_true rfl, Nat.le_of_ble_eq_true rfl⟩, sx_sww hts 9 rfl, sx_sww hts 13 rfl⟩ ⟨sx_PS_blind, sx_recv a1, fun U hU hW => ⟨rfl, by rw [hU]; exact sx_S_warm hW hS⟩⟩ rfl rfl hl.1 rfl (by show 2 * 0 + 1 ≤ 8; omega) (by decide +kernel : decode cJ0_length_8abf5 6 = .ok (.invokevirtual 335, 3)) ⟨Nat.le_refl _, Nat.le_refl _⟩) ?_
  refine lv_ishr hx hb (by decide +kernel : decode cJ0_length_8abf5 9 = .ok (.ishr, 1)) ?_
  rw [sc_shr0 (by omega)]
  exact W.iret hx hb hr (fun t ht _ => ⟨rfl, ht⟩) (fun _ h => by cases h) (by decide +kernel : decode cJ0_length_8abf5 10 = .ok (.ireturn, 1)) hlocks
theorem sx_ch : ∀ b, b < 128 → ((nI b &&& 255).toUInt32 % 65536).toInt32 = nI b ∧ narrow .char (.int (nI b)) = .int (nI b) := by decide +kernel
/-- StringLatin1.charAt -/
theorem sx_cLc {j k : Nat} {t : List Nat} {av : Nat} (hj : pm_tx[j]? = some t) (ht9 : t.length < 100) (hk : k < t.length) (hb9 : ∀ x ∈ t, x < 128) : Met l yJ1_charAt_3b067 (.code yJ1_charAt_3b067 cJ1_charAt_3b067 2 (some .char) :: pm_ws) (sx_Rm 3) (fun v U => v = #[.ref av, .int (nI k)] ∧ sx_S base tx U U.heap ∧ va_T .byte av t.length (fun i => .int (nI (t.getD i 0))) (fun q => base ≤ q) U U.heap) (QcRead (nI (t.getD k 0))) 0 0 (fun _ => False) := by
  refine Met.ofW (cc := cJ1_charAt_3b067) (maxL := 2) (ret := some .char) (by decide +kernel) rfl ?_
  intro p e s m args below meth c s₁ B hml hv
  obtain ⟨rfl, hS, a4⟩ := hv
  have hx := B.exec
  have hb := B.bytes
  have hr := B.returns
  have hlocks := B.notSynchronized
  have hts : ∀ w ∈ pm_ws, w.before _ s = true := fun w hw => atoms_spec (ws := _ :: pm_ws) B.pre w (List.mem_cons_of_mem _ hw)
  have hown : s.vm.findClass RJ1 = some m.cls := findClass_of_methodNamed B.named
  rw [show (#[.ref av, .int (nI k)] : Array Value) = ([.ref av, .int (nI k)] : List Value).toArray from rfl] at hts ⊢
  have hl := lv_entry ([.ref av, .int (nI k)]) (n := 2) (Nat.le_of_ble_eq_true rfl)
  rw [lg_entry_eq]
  generalize (lg_sl ([.ref av, .int (nI k)]) ++ List.replicate (2 - (lg_sl ([.ref av, .int (nI k)])).length) Slot.unset).toArray = ls at hl ⊢
  have hl : lv_has ls 2 [(0, .ref av), (1, .int (nI k))] := hl
  refine lv_iload_n hx hb (by decide +kernel : decode cJ1_charAt_3b067 0 = .ok (.iload_n 1, 1)) rfl (lv_at hl 1 rfl) ?_
  refine lv_aload_n hx hb (by decide +kernel : decode cJ1_charAt_3b067 1 = .ok (.aload_n 0, 1)) rfl (lv_at hl 0 rfl) ?_
  refine va_tlen (v := nI t.length) hx hb a4 va_S.rf rfl (by decide +kernel : decode cJ1_charAt_3b067 2 = .ok (.arraylength, 1)) ?_
  refine sx_callv (rest := []) (a := #[.int (nI k), .int (nI t.length)]) (W.runS (As := [.int (nI k), .int (nI t.length)]) (rest := []) (n := 2) (cc := cJ1_charAt_3b067) (own := RJ1) (index := 9) ⟨hx, hb, hml, hown, hts⟩ (sx_cChk (base := base) (tx := tx) (nI_pos (by omega)) (nI_lt hk (by omega))) ⟨callB_of 2 hts (sx_scg 5 rfl) rfl rfl rfl (sx_sww hts 20 rfl) (sx_sww hts 7 rfl) (by decide +kernel) ⟨Nat.le_of_ble_eq_true rfl, Nat.le_of_ble_eq_true rfl⟩, sx_sww hts 18 rfl⟩ ⟨sx_PS_blind, fun U hU hW => ⟨rfl, by rw [hU]; exact sx_S_warm hW hS⟩⟩ rfl rfl hl.1 rfl (by show 2 * 0 + 0 ≤ 8; omega) (by decide +kernel : decode cJ1_charAt_3b067 3 = .ok (.invokestatic 9, 3)) ⟨Nat.le_refl _, Nat.le_refl _⟩) ?_
  refine lv_aload_n hx hb (by decide +kernel : decode cJ1_charAt_3b067 6 = .ok (.aload_n 0, 1)) rfl (lv_at hl 0 rfl) ?_
  refine lv_iload_n hx hb (by decide +kernel : decode cJ1_charAt_3b067 7 = .ok (.iload_n 1, 1)) rfl (lv_at hl 1 rfl) ?_
  refine va_tb (v := .int (nI (t.getD k 0))) hx hb a4 va_S.rf (vp_in_nI hk (by omega)) (by rw [nI_clamp (by omega)]) (by decide +kernel : decode cJ1_charAt_3b067 8 = .ok (.baload, 1)) ?_
  refine lv_sipush (v := 255) hx hb (by decide +kernel : decode cJ1_charAt_3b067 9 = .ok (.sipush 255, 3)) (by decide +kernel) ?_
  refine lv_iand hx hb (by decide +kernel : decode cJ1_charAt_3b067 12 = .ok (.iand, 1)) ?_
  have hbk : t.getD k 0 < 128 := by
    rw [List.getD_eq_getElem?_getD, List.getElem?_eq_getElem hk]
    exact hb9 _ (List.getElem_mem hk)
  refine lv_i2c (v := nI (t.getD k 0)) hx hb (by decide +kernel : decode cJ1_charAt_3b067 13 = .ok (.i2c, 1)) (sx_ch _ hbk).1 ?_
  exact W.zret hx hb hr (sx_ch _ hbk).2 (fun t ht _ => ⟨rfl, ht⟩) (fun _ h => by cases h) (by decide +kernel : decode cJ1_charAt_3b067 14 = .ok (.ireturn, 1)) hlocks
/-- String.charAt -/
theorem sx_cCa {j k : Nat} {t : List Nat} (hj : pm_tx[j]? = some t) (ht9 : t.length < 100) (hk : k < t.length) (hb9 : ∀ x ∈ t, x < 128) : Met l yJ0_charAt_5068e (.code yJ0_charAt_5068e cJ0_charAt_5068e 2 (some .char) :: pm_ws) (sx_Rm 4) (sx_PS base tx [.ref (tx j), .int (nI k)]) (QcRead (nI (t.getD k 0))) 0 0 (fun _ => False) := by
  refine Met.ofW (cc := cJ0_charAt_5068e) (maxL := 2) (ret := some .char) (by decide +kernel) rfl ?_
  intro p e s m args below meth c s₁ B hml hv
  obtain ⟨rfl, hS⟩ := hv
  have hx := B.exec
  have hb := B.bytes
  have hr := B.returns
  have hlocks := B.notSynchronized
  have hts : ∀ w ∈ pm_ws, w.before _ s = true := fun w hw => atoms_spec (ws := _ :: pm_ws) B.pre w (List.mem_cons_of_mem _ hw)
  have hown : s.vm.findClass RJ0 = some m.cls := findClass_of_methodNamed B.named
  obtain ⟨av, a1, a2, a3, a4⟩ := hS.2.1 j t hj
  have hl := lv_entry ([.ref (tx j), .int (nI k)]) (n := 2) (Nat.le_of_ble_eq_true rfl)
  rw [lg_entry_eq]
  generalize (lg_sl ([.ref (tx j), .int (nI k)]) ++ List.replicate (2 - (lg_sl ([.ref (tx j), .int (nI k)])).length) Slot.unset).toArray = ls at hl ⊢
  have hl : lv_has ls 2 [(0, .ref (tx j)), (1, .int (nI k))] := hl
  refine lv_aload_n hx hb (by decide +kernel : decode cJ0_charAt_5068e 0 = .ok (.aload_n 0, 1)) rfl (lv_at hl 0 rfl) ?_
  refine W.callR (r := 1) (rest := []) (a := #[.ref (tx j)]) (W.runV (C := RJ0) (As := []) (b := tx j) (rest := []) (n := 0) (cc := cJ0_charAt_5068e) (own := RJ0) (index := 492) ⟨hx, hb, hml, hown, hts⟩ (sx_cLat (base := base) hj) ⟨callB_of 0 hts (sx_scg 1 rfl) rfl rfl rfl (sx_sww hts 20 rfl) (sx_sww hts 5 rfl) (by decide +kernel) ⟨Nat.le_of_ble_eq_true rfl, Nat.le_of_ble_eq_true rfl⟩, sx_sww hts 10 rfl, sx_sww hts 14 rfl⟩ ⟨sx_PS_blind, sx_recv a1, fun U hU hW => ⟨rfl, by rw [hU]; exact sx_S_warm hW hS⟩⟩ rfl rfl hl.1 rfl (by show 2 * 0 + 0 ≤ 8; omega) (by decide +kernel : decode cJ0_charAt_5068e 1 = .ok (.invokevirtual 492, 3)) ⟨Nat.le_refl _, Nat.le_refl _⟩) ?_
  refine lv_if_eq (tgt := 16) hx hb (by decide +kernel : decode cJ0_charAt_5068e 4 = .ok (.ifCond .eq 12, 3)) (by rfl) (fun q => absurd q (by decide)) (fun _ => ?_)
  refine lv_aload_n hx hb (by decide +kernel : decode cJ0_charAt_5068e 7 = .ok (.aload_n 0, 1)) rfl (lv_at hl 0 rfl) ?_
  refine vk_getf (own := RJ0) (ref := "java/lang/String") (index := 9) hx hb a3 va_S.rf hown (sx_sww hts 0 rfl) (fun _ h => h) (by decide +kernel : decode cJ0_charAt_5068e 8 = .ok (.getfield 9, 3)) ?_
  refine lv_iload_n hx hb (by decide +kernel : decode cJ0_charAt_5068e 11 = .ok (.iload_n 1, 1)) rfl (lv_at hl 1 rfl) ?_
  refine W.callR (r := nI (t.getD k 0)) (rest := []) (a := #[.ref av, .int (nI k)]) (W.runS (As := [.ref av, .int (nI k)]) (rest := []) (n := 2) (cc := cJ0_charAt_5068e) (own := RJ0) (index := 495) ⟨hx, hb, hml, hown, hts⟩ (sx_cLc (base := base) (tx := tx) (av := av) hj ht9 hk hb9) ⟨callB_of 2 hts (sx_scg 4 rfl) rfl rfl rfl (sx_sww hts 21 rfl) (sx_sww hts 6 rfl) (by decide +kernel) ⟨Nat.le_of_ble_eq_true rfl, Nat.le_of_ble_eq_true rfl⟩, sx_sww hts 17 rfl⟩ ⟨fun _ _ _ _ h => ⟨h.1, sx_S_same rfl h.2.1, h.2.2.moved (Vm.Alike.refl _)⟩, fun U hU hW => ⟨rfl, by rw [hU]; exact sx_S_warm hW hS, by rw [hU]; exact a4.moved hW.alike⟩⟩ rfl rfl hl.1 rfl (by show 2 * 0 + 0 ≤ 8; omega) (by decide +kernel : decode cJ0_charAt_5068e 12 = .ok (.invokestatic 495, 3)) ⟨Nat.le_refl _, Nat.le_refl _⟩) ?_
  have hbk : t.getD k 0 < 128 := by
    rw [List.getD_eq_getElem?_getD, List.getElem?_eq_getElem hk]
    exact hb9 _ (List.getElem_mem hk)
  exact W.zret hx hb hr (sx_ch _ hbk).2 (fun t ht _ => ⟨rfl, ht⟩) (fun _ h => by cases h) (by decide +kernel : decode cJ0_charAt_5068e 15 = .ok (.ireturn, 1)) hlocks
end STZ
