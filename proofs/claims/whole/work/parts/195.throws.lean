section SL
variable {base b : Nat} {sc : Nat × (Nat → Int32)} {tx : Nat → Nat} {D : va_G} {cT : Nat → ClassId} {SX : State → Heap → Prop} {l : Launch}
theorem pm_dec_at {y pc : Nat} {i : Instr} {n : Nat} (h : pm_dec y pc = some i) (hn : ∀ len, pm_ln i len = n) : decode (pm_code y) pc = .ok (i, n) := by
  obtain ⟨len, h1, h2⟩ := pm_dec_ok h
  rw [hn] at h1
  rw [← h1]
  exact h2
theorem sm_throws (hst : l.stackTraces = false) (hE : ∀ (s : State) (H : Heap), SX s H → sx_E base s H) : sm_HThr base b sc tx D cT SX l := by
  intro y d pc idx k p e R s m args below meth c H locs ls st u g h lsR C I hx0 hk hd hthr hsum hu1 hu2
  obtain ⟨hx, hb, hml, hown, hts, hK, hX, hbb, hbs, hini, hrc, hrs, hrf, hrl, hSX, hy⟩ := C
  obtain ⟨hM, hU, hN, hB⟩ := hE s s.heap hSX
  unfold pm_throw at hthr
  split at hthr
  · rename_i ho
    rw [ho] at hown
    have hown : s.vm.findClass RX11 = some m.cls := hown
    -- behind the decoding
    have key : ∀ is ic, is ∈ pm_xm → pm_thr idx ic = some k → ∃ E, pm_xn[k]? = some E ∧ (idx, ic, E) ∈ sx_xt := by
      intro is ic _ ht
      obtain ⟨⟨i1, i2, k1⟩, hm, hf, hr⟩ := pm_find ht
      simp only [Bool.and_eq_true, beq_iff_eq] at hf
      obtain ⟨rfl, rfl⟩ := hf
      simp only at hr
      subst hr
      have hall : pm_xt.all (fun e => (pm_xn[e.2.2]?).isSome) = true := by decide +kernel
      have h9 := List.all_eq_true.mp hall _ hm
      obtain ⟨E, hE9⟩ := Option.isSome_iff_exists.mp h9
      refine ⟨E, hE9, ?_⟩
      unfold sx_xt
      refine List.mem_map.mpr ⟨_, hm, ?_⟩
      simp only [hE9, Option.getD_some]
    have fin : ∀ E : String, pm_xn[k]? = some E → ∀ t : State, s.vm.Alike t.vm → H.size ≤ t.heap.size → (∀ q : Nat, q < H.size → t.heap[q]? = H[q]?) → sm_XC base b tx D cT (.inr k, (g.1, false), h) E s t := by
      intro E hE9 t _ h1 h2
      refine ⟨k, rfl, hE9, ⟨?_, (fun q => by cases q), I.2.2.2.2.2⟩, Nat.le_trans I.2.2.2.1.1 h1, fun q q1 q2 => ?_⟩
      · exact I.2.2.1.kept (fun j x hj => h2 x.1 ((I.2.2.1 j x hj).lt))
      · rw [h2 q (Nat.lt_of_lt_of_le q1 I.2.2.2.1.1)]
        exact I.2.2.2.1.2.1 q q1 q2
    have words : ∀ ic E, (idx, ic, E) ∈ sx_xt → (∀ w ∈ sx_wd (idx, ic, E), w.before args s = true) ∧ (Jvm.Cond.classLink RX11 idx E).before args s = true ∧ (Jvm.Cond.initialized E).before args s = true := by
      intro ic E hm
      have hlk := sx_lk _ hm
      refine ⟨vx_hat (B := sx_B) (fun w hw => ?_) (fun w hw => List.mem_flatMap.mpr ⟨_, hm, hw⟩) (fun w hw => (hB w hw).use (sx_kd_ot (sx_B_kd w hw))), ?_, ?_⟩
      · exact hts _ (List.mem_filter.mpr ⟨sx_at _ hm w hw, (List.mem_filter.mp hw).2⟩)
      · have := hlk _ (List.mem_cons_self)
        exact hts _ (List.mem_filter.mpr this)
      · have := hlk _ (List.mem_cons_of_mem _ List.mem_cons_self)
        exact hts _ (List.mem_filter.mpr this)
    have hrest : ((st.map (sm_v (sm_ad base b tx))).map fun v => v.category).sum + (13 * (sx_nm.length + 1) + 43) ≤ R.locals := by
      rw [sm_v_sum]
      show _ + (13 * 3 + 43) ≤ _
      omega
    have hfr : sx_nm.length + 3 < R.frames := by
      show 5 < _
      omega
    split at hthr
    · rename_i is ic d3 d4 d6 d9
      split at hthr
      · rename_i his
        obtain ⟨E, hE9, hm⟩ := key _ _ his hthr
        obtain ⟨w1, w2, w3⟩ := words _ E hm
        obtain ⟨t, a, hv⟩ := hM _ his
        by_cases h150 : ic = 150
        · have e9 := sx_150 _ hm h150
          simp only [Prod.mk.injEq] at e9
          obtain ⟨rfl, rfl, rfl⟩ := e9
          exact sx_throwN (names := ["java/lang/Exception"]) (Y := "java/lang/RuntimeException") (j := 13) (bytes := prog_39_method_4_code) (own := RX11) (cls := "java/util/NoSuchElementException") (text := t) (sa := a) (A := fun q => base ≤ q) hx hb hst hown (sx_ot _ hm).2 (by decide +kernel) (by decide +kernel) (by decide +kernel) (by decide +kernel) (by decide +kernel) (by decide +kernel) w2 w3 hv w1 (sx_ot _ hm).1 hU hN I.2.2.2.1 (by rw [hml]; exact I.1.1) hd (pm_dec_at d3 (fun _ => rfl)) (pm_dec_at d4 (fun _ => rfl)) (pm_dec_at d6 (fun _ => rfl)) (pm_dec_at d9 (fun _ => rfl)) (fun x hx9 => (hx0 x hx9).elim) hfr hrest (by rw [hrc]; exact hu1) (by rw [hrs]; exact hu2) hk (fin _ hE9) I.2.2.2.1.2.2 hu1 hu2
        · have ew : sx_wd (idx, ic, E) = vx_atS RX11 ic E sx_nm := if_neg h150
          rw [ew] at w1
          have ho9 := (sx_ot _ hm).1
          rw [ew] at ho9
          exact vx_throwS (names := sx_nm) (own := RX11) (cls := E) (text := t) (sa := a) (A := fun q => base ≤ q) hx hb hst hown (sx_ot _ hm).2 sx_fn w2 w3 hv w1 ho9 hU hN I.2.2.2.1 (by rw [hml]; exact I.1.1) hd (pm_dec_at d3 (fun _ => rfl)) (pm_dec_at d4 (fun _ => rfl)) (pm_dec_at d6 (fun _ => rfl)) (pm_dec_at d9 (fun _ => rfl)) (fun x hx9 => (hx0 x hx9).elim) hfr hrest (by rw [hrc]; exact hu1) (by rw [hrs]; exact hu2) hk (fin E hE9) I.2.2.2.1.2.2 hu1 hu2
      · cases hthr
    · rename_i is ic d3 d4 d7 d10
      split at hthr
      · rename_i his
        obtain ⟨E, hE9, hm⟩ := key _ _ his hthr
        obtain ⟨w1, w2, w3⟩ := words _ E hm
        obtain ⟨t, a, hv⟩ := hM _ his
        by_cases h150 : ic = 150
        · have e9 := sx_150 _ hm h150
          simp only [Prod.mk.injEq] at e9
          obtain ⟨rfl, rfl, rfl⟩ := e9
          exact sx_throwNW (names := ["java/lang/Exception"]) (Y := "java/lang/RuntimeException") (j := 13) (bytes := prog_39_method_4_code) (own := RX11) (cls := "java/util/NoSuchElementException") (text := t) (sa := a) (A := fun q => base ≤ q) hx hb hst hown (sx_ot _ hm).2 (by decide +kernel) (by decide +kernel) (by decide +kernel) (by decide +kernel) (by decide +kernel) (by decide +kernel) w2 w3 hv w1 (sx_ot _ hm).1 hU hN I.2.2.2.1 (by rw [hml]; exact I.1.1) hd (pm_dec_at d3 (fun _ => rfl)) (pm_dec_at d4 (fun _ => rfl)) (pm_dec_at d7 (fun _ => rfl)) (pm_dec_at d10 (fun _ => rfl)) (fun x hx9 => (hx0 x hx9).elim) hfr hrest (by rw [hrc]; exact hu1) (by rw [hrs]; exact hu2) hk (fin _ hE9) I.2.2.2.1.2.2 hu1 hu2
        · have ew : sx_wd (idx, ic, E) = vx_atS RX11 ic E sx_nm := if_neg h150
          rw [ew] at w1
          have ho9 := (sx_ot _ hm).1
          rw [ew] at ho9
          exact vx_throwSW (names := sx_nm) (own := RX11) (cls := E) (text := t) (sa := a) (A := fun q => base ≤ q) hx hb hst hown (sx_ot _ hm).2 sx_fn w2 w3 hv w1 ho9 hU hN I.2.2.2.1 (by rw [hml]; exact I.1.1) hd (pm_dec_at d3 (fun _ => rfl)) (pm_dec_at d4 (fun _ => rfl)) (pm_dec_at d7 (fun _ => rfl)) (pm_dec_at d10 (fun _ => rfl)) (fun x hx9 => (hx0 x hx9).elim) hfr hrest (by rw [hrc]; exact hu1) (by rw [hrs]; exact hu2) hk (fin E hE9) I.2.2.2.1.2.2 hu1 hu2
      · cases hthr
    · cases hthr
  · cases hthr
theorem sm_nothr : ∀ y ∈ pm_hand, ∀ pc idx, pm_throw y pc idx = none := by
  intro y hy pc idx
  have : ∀ z ∈ pm_hand, ¬ pm_own z = 14 := by decide +kernel
  unfold pm_throw
  rw [if_neg (this y hy)]
end SL
