section SB
variable {base b : Nat} {sc : Nat × (Nat → Int32)} {tx : Nat → Nat} {D : va_G} {cT : Nat → ClassId} {SX : State → Heap → Prop}
theorem pm_obj_ok {g : PG} {h : PH} {a : Nat} {o : Nat × List Value} (q : pm_obj g h a = some o) : a < g.1 ∧ h a = .inr o := by
  unfold pm_obj at q
  split at q
  · rename_i ha
    split at q
    · rename_i o' ho
      cases q
      exact ⟨ha, ho⟩
    · cases q
  · cases q
theorem pm_arr_ok {g : PG} {h : PH} {a : Nat} {o : Nat × vp_A} (q : pm_arr g h a = some o) : a < g.1 ∧ h a = .inl o := by
  unfold pm_arr at q
  split at q
  · rename_i ha
    split at q
    · rename_i o' ho
      cases q
      exact ⟨ha, ho⟩
    · cases q
  · cases q
theorem pm_in_ok {i : Int32} {n : Nat} (q : pm_in i n = true) : vp_in i n := by
  unfold pm_in at q
  show ¬ (i < 0 ∨ n ≤ i.toNatClampNeg)
  exact of_decide_eq_true q
theorem sm_getO {ad : Nat → Nat} {N a : Nat} {h : PH} {c : Nat} {fs : List Value} (ha : a < N) (q : h a = .inr (c, fs)) : (sm_w ad cT N h)[a]? = some (ad a, .inr (c, fs.map (sm_v ad))) := by
  rw [sm_w_get ha, q]; rfl
theorem sm_getA {ad : Nat → Nat} {N a : Nat} {h : PH} {t : Nat} {v : vp_A} (ha : a < N) (q : h a = .inl (t, v)) : (sm_w ad cT N h)[a]? = some (ad a, .inl (cT t, sm_a ad v)) := by
  rw [sm_w_get ha, q]; rfl
theorem sm_getfield (idx : Nat) : sm_A base b sc tx D cT SX (.getfield idx) := by
  intro y d pc pc' p l e R s m args below meth c H locs Q ls ls' st st' u u' g g' h h' lsR len C I hl hd ha kk
  simp only [pm_ln] at hl
  subst hl
  simp only [pm_act] at ha
  split at ha
  · rename_i a st0
    split at ha
    · rename_i c0 k c1 fs hf ho
      split at ha
      · rename_i hc
        subst hc
        split at ha
        · rename_i v hv
          simp only [Option.some.injEq, Sum.inl.injEq, Prod.mk.injEq] at ha
          obtain ⟨rfl, rfl, rfl, rfl, rfl, rfl⟩ := ha
          obtain ⟨q, hq, hok, hk, ht, hw⟩ := pm_fld_ok hf
          obtain ⟨haN, hob⟩ := pm_obj_ok ho
          have C0 := C
          obtain ⟨hx, hb, hml, hown, hts, hK, -⟩ := C0
          exact va_get (own := pm_cn (pm_own y)) (ref := q.1) (C := q.1) (T := q.2.1) (N := q.2.2) (ci := c0) (Ts := pm_ws) hx hb hts hok.2.1 hown hK I.2.2.1 a (sm_getO haN hob) hq k hk (hts _ hw) (fun x hx => by rw [ht] at hx; exact hx) (by rw [List.getElem?_map, hv]; rfl) hd (kk lsR H locs I)
        · cases ha
      · cases ha
    · cases ha
  · cases ha
theorem pm_wr_ok {y c k : Nat} {q : vw_C} (hq : vwCl[c]? = some q) (h : pm_wr y c k = true) : (q.2.1 k).2.2.2 = false ∨ (pm_ini y = true ∧ pm_own y = c) := by
  unfold pm_wr at h
  rw [hq] at h
  simp only [Bool.or_eq_true, Bool.not_eq_true', Bool.and_eq_true, beq_iff_eq] at h
  exact h
theorem pm_ref_ty {d : String} (h : (parseFieldDescriptor d).map FieldType.isReference = some true) (a : Nat) : ∃ ty, parseFieldDescriptor d = some ty ∧ narrow ty (.ref a) = .ref a ∧ fits ty (.ref a) = true := by
  cases hp : parseFieldDescriptor d with
  | none => rw [hp] at h; cases h
  | some ty =>
    rw [hp] at h
    have h1 : ty.isReference = true := Option.some.inj h
    refine ⟨ty, rfl, ?_, ?_⟩ <;> cases ty <;> first | rfl | (simp [FieldType.isReference] at h1)
theorem sm_putfield (idx : Nat) : sm_A base b sc tx D cT SX (.putfield idx) := by
  intro y d pc pc' p l e R s m args below meth c H locs Q ls ls' st st' u u' g g' h h' lsR len C I hl hd ha kk
  simp only [pm_ln] at hl
  subst hl
  simp only [pm_act] at ha
  have C0 := C
  obtain ⟨hx, hb, hml, hown, hts, hK, -, -, -, hini, -⟩ := C0
  split at ha
  · rename_i x a st0
    split at ha
    · rename_i c0 k c1 fs hf ho
      split at ha
      · rename_i hc
        obtain ⟨rfl, hkl, hfi, hwr⟩ := hc
        simp only [Option.some.injEq, Sum.inl.injEq, Prod.mk.injEq] at ha
        obtain ⟨rfl, rfl, rfl, rfl, rfl, rfl⟩ := ha
        obtain ⟨q, hq, hok, hk, ht, hw⟩ := pm_fld_ok hf
        obtain ⟨haN, hob⟩ := pm_obj_ok ho
        obtain ⟨ty0, hty0, -⟩ := hok.2.2.2.2.2
        have hty : parseFieldDescriptor (q.2.1 k).2.2.1 = some .int := by
          rcases hok.2.2.2.1 k hk with h9 | h9
          · exact h9.2
          · rw [hfi] at h9; cases h9.1
        refine sx_sized (Pz := va_P D vwCl ((sm_w (sm_ad base b tx) cT g.1 h).set a (sm_ad base b tx a, .inr (c0, (fs.map (sm_v (sm_ad base b tx))).set k (.int x))))) I.2.2.2.1 (fun n9 hS9 k9 => ?_) (fun H1 locs1 hz hP hS => kk lsR H1 locs1 ⟨I.1, I.2.1, ?_, hS, fun q9 => by rw [hz]; exact I.2.2.2.2.1 q9, I.2.2.2.2.2⟩)
        · by_cases hf9 : (q.2.1 k).2.2.2 = true
          · obtain ⟨w1, w2⟩ : meth.name = "<init>" ∧ (q.2.1 k).1 = pm_cn (pm_own y) := by
              rcases pm_wr_ok hq hwr with h9 | ⟨h9, h8⟩
              · rw [hf9] at h9; cases h9
              · exact ⟨hini h9, by rw [ht, hok.1, h8]⟩
            exact va_putF (Ts := pm_ws) (N := q.2.2) hx hb hts hok.2.1 ty0 hty0 hok.2.2.1 hown hK I.2.2.1 (sm_w_D I.2.2.2.2.2) hS9 a (sm_getO haN hob) hq k hk (hts _ hw) (fun x hx => by rw [ht] at hx; exact hx) hf9 w1 w2 hty rfl rfl (by rw [List.length_map]; exact hkl) hd (fun H2 l2 h2 _ h3 => k9 H2 l2 h2 h3)
          · exact va_put (Ts := pm_ws) (N := q.2.2) hx hb hts hok.2.1 ty0 hty0 hok.2.2.1 hown hK I.2.2.1 (sm_w_D I.2.2.2.2.2) hS9 a (sm_getO haN hob) hq k hk (hts _ hw) (fun x hx => by rw [ht] at hx; exact hx) (Bool.eq_false_iff.mpr hf9) hty rfl rfl (by rw [List.length_map]; exact hkl) hd (fun H2 l2 h2 _ h3 => k9 H2 l2 h2 h3)
        · rw [← sm_w_set haN]
          show va_P D vwCl ((sm_w _ cT g.1 h).set a (_, .inr (c0, (fs.set k (.int x)).map _))) H1
          rw [List.map_set]
          exact hP
      · cases ha
    · cases ha
  · rename_i x a st0
    split at ha
    · rename_i c0 k c1 fs hf ho
      split at ha
      · rename_i hc
        obtain ⟨rfl, hkl, hfi, hwr⟩ := hc
        simp only [Option.some.injEq, Sum.inl.injEq, Prod.mk.injEq] at ha
        obtain ⟨rfl, rfl, rfl, rfl, rfl, rfl⟩ := ha
        obtain ⟨q, hq, hok, hk, ht, hw⟩ := pm_fld_ok hf
        obtain ⟨haN, hob⟩ := pm_obj_ok ho
        obtain ⟨ty0, hty0, -⟩ := hok.2.2.2.2.2
        have hty : (parseFieldDescriptor (q.2.1 k).2.2.1).map FieldType.isReference = some true := by
          rcases hok.2.2.2.1 k hk with h9 | h9
          · rw [hfi] at h9; cases h9.1
          · exact h9.2
        obtain ⟨ty, hd1, hd2, hd3⟩ := pm_ref_ty hty (sm_ad base b tx x)
        refine sx_sized (Pz := va_P D vwCl ((sm_w (sm_ad base b tx) cT g.1 h).set a (sm_ad base b tx a, .inr (c0, (fs.map (sm_v (sm_ad base b tx))).set k (.ref (sm_ad base b tx x)))))) I.2.2.2.1 (fun n9 hS9 k9 => ?_) (fun H1 locs1 hz hP hS => kk lsR H1 locs1 ⟨I.1, I.2.1, ?_, hS, fun q9 => by rw [hz]; exact I.2.2.2.2.1 q9, I.2.2.2.2.2⟩)
        · by_cases hf9 : (q.2.1 k).2.2.2 = true
          · obtain ⟨w1, w2⟩ : meth.name = "<init>" ∧ (q.2.1 k).1 = pm_cn (pm_own y) := by
              rcases pm_wr_ok hq hwr with h9 | ⟨h9, h8⟩
              · rw [hf9] at h9; cases h9
              · exact ⟨hini h9, by rw [ht, hok.1, h8]⟩
            exact va_putF (Ts := pm_ws) (N := q.2.2) hx hb hts hok.2.1 ty0 hty0 hok.2.2.1 hown hK I.2.2.1 (sm_w_D I.2.2.2.2.2) hS9 a (sm_getO haN hob) hq k hk (hts _ hw) (fun x hx => by rw [ht] at hx; exact hx) hf9 w1 w2 hd1 hd2 hd3 (by rw [List.length_map]; exact hkl) hd (fun H2 l2 h2 _ h3 => k9 H2 l2 h2 h3)
          · exact va_put (Ts := pm_ws) (N := q.2.2) hx hb hts hok.2.1 ty0 hty0 hok.2.2.1 hown hK I.2.2.1 (sm_w_D I.2.2.2.2.2) hS9 a (sm_getO haN hob) hq k hk (hts _ hw) (fun x hx => by rw [ht] at hx; exact hx) (Bool.eq_false_iff.mpr hf9) hd1 hd2 hd3 (by rw [List.length_map]; exact hkl) hd (fun H2 l2 h2 _ h3 => k9 H2 l2 h2 h3)
        · rw [← sm_w_set haN]
          show va_P D vwCl ((sm_w _ cT g.1 h).set a (_, .inr (c0, (fs.set k (.ref x)).map _))) H1
          rw [List.map_set]
          exact hP
      · cases ha
    · cases ha
  · cases ha
theorem sm_iaload : sm_A base b sc tx D cT SX .iaload := by
  intro y d pc pc' p l e R s m args below meth c H locs Q ls ls' st st' u u' g g' h h' lsR len C I hl hd ha kk
  simp only [pm_ln] at hl
  subst hl
  simp only [pm_act] at ha
  have C0 := C
  obtain ⟨hx, hb, hml, hown, hts, hK, hX, hbb, hbs, -⟩ := C0
  split at ha
  · rename_i i a st0
    split at ha
    · rename_i hz
      subst hz
      split at ha
      · rename_i hin
        simp only [Option.some.injEq, Sum.inl.injEq, Prod.mk.injEq] at ha
        obtain ⟨rfl, rfl, rfl, rfl, rfl, rfl⟩ := ha
        exact va_sld (b := b) hx hb hX (Nat.lt_of_lt_of_le hbb hbs) (by show ¬ base ≤ b; omega) I.2.2.2.1 (pm_in_ok hin) hd (kk lsR H locs I)
      · cases ha
    · split at ha
      · rename_i n f ho
        split at ha
        · rename_i hin
          simp only [Option.some.injEq, Sum.inl.injEq, Prod.mk.injEq] at ha
          obtain ⟨rfl, rfl, rfl, rfl, rfl, rfl⟩ := ha
          obtain ⟨haN, hob⟩ := pm_arr_ok ho
          exact va_iald hx hb hK I.2.2.1 a 0 (sm_getA haN hob) rfl (pm_in_ok hin) hd (kk lsR H locs I)
        · cases ha
      · cases ha
  · cases ha
theorem sm_baload : sm_A base b sc tx D cT SX .baload := by
  intro y d pc pc' p l e R s m args below meth c H locs Q ls ls' st st' u u' g g' h h' lsR len C I hl hd ha kk
  simp only [pm_ln] at hl
  subst hl
  simp only [pm_act] at ha
  have C0 := C
  obtain ⟨hx, hb, hml, hown, hts, hK, -⟩ := C0
  split at ha
  · rename_i i a st0
    split at ha
    · rename_i n f ho
      split at ha
      · rename_i hin
        simp only [Option.some.injEq, Sum.inl.injEq, Prod.mk.injEq] at ha
        obtain ⟨rfl, rfl, rfl, rfl, rfl, rfl⟩ := ha
        obtain ⟨haN, hob⟩ := pm_arr_ok ho
        exact va_bald hx hb hK I.2.2.1 a 1 (sm_getA haN hob) rfl (pm_in_ok hin) hd (kk lsR H locs I)
      · cases ha
    · rename_i n f ho
      split at ha
      · rename_i hin
        simp only [Option.some.injEq, Sum.inl.injEq, Prod.mk.injEq] at ha
        obtain ⟨rfl, rfl, rfl, rfl, rfl, rfl⟩ := ha
        obtain ⟨haN, hob⟩ := pm_arr_ok ho
        exact va_zald hx hb hK I.2.2.1 a 2 (sm_getA haN hob) rfl (pm_in_ok hin) hd (kk lsR H locs I)
      · cases ha
    · cases ha
  · cases ha
theorem sm_laload : sm_A base b sc tx D cT SX .laload := by
  intro y d pc pc' p l e R s m args below meth c H locs Q ls ls' st st' u u' g g' h h' lsR len C I hl hd ha kk
  simp only [pm_ln] at hl
  subst hl
  simp only [pm_act] at ha
  have C0 := C
  obtain ⟨hx, hb, hml, hown, hts, hK, -⟩ := C0
  split at ha
  · rename_i i a st0
    split at ha
    · rename_i n f ho
      split at ha
      · rename_i hin
        simp only [Option.some.injEq, Sum.inl.injEq, Prod.mk.injEq] at ha
        obtain ⟨rfl, rfl, rfl, rfl, rfl, rfl⟩ := ha
        obtain ⟨haN, hob⟩ := pm_arr_ok ho
        exact va_lald hx hb hK I.2.2.1 a 3 (sm_getA haN hob) rfl (pm_in_ok hin) hd (kk lsR H locs I)
      · cases ha
    · cases ha
  · cases ha
theorem sm_rf (ad : Nat → Nat) (r : Option Nat) : sm_v ad (va_rf r) = va_rf (r.map ad) := by cases r <;> rfl
theorem sm_aaload : sm_A base b sc tx D cT SX .aaload := by
  intro y d pc pc' p l e R s m args below meth c H locs Q ls ls' st st' u u' g g' h h' lsR len C I hl hd ha kk
  simp only [pm_ln] at hl
  subst hl
  simp only [pm_act] at ha
  have C0 := C
  obtain ⟨hx, hb, hml, hown, hts, hK, -⟩ := C0
  split at ha
  · rename_i i a st0
    split at ha
    · rename_i n f ho
      split at ha
      · rename_i hin
        simp only [Option.some.injEq, Sum.inl.injEq, Prod.mk.injEq] at ha
        obtain ⟨rfl, rfl, rfl, rfl, rfl, rfl⟩ := ha
        obtain ⟨haN, hob⟩ := pm_arr_ok ho
        refine sx_row (w := a) (j := 4) hx hb hK I.2.2.1 (sm_getA haN hob) rfl (pm_in_ok hin) hd ?_
        have := kk lsR H locs I
        simp only [List.map_cons, sm_rf] at this
        exact this
      · cases ha
    · cases ha
  · cases ha
theorem sm_iastore : sm_A base b sc tx D cT SX .iastore := by
  intro y d pc pc' p l e R s m args below meth c H locs Q ls ls' st st' u u' g g' h h' lsR len C I hl hd ha kk
  simp only [pm_ln] at hl
  subst hl
  simp only [pm_act] at ha
  have C0 := C
  obtain ⟨hx, hb, hml, hown, hts, hK, -⟩ := C0
  split at ha
  · rename_i x i a st0
    split at ha
    · rename_i n f ho
      split at ha
      · rename_i hin
        simp only [Option.some.injEq, Sum.inl.injEq, Prod.mk.injEq] at ha
        obtain ⟨rfl, rfl, rfl, rfl, rfl, rfl⟩ := ha
        obtain ⟨haN, hob⟩ := pm_arr_ok ho
        refine sx_sized I.2.2.2.1 (fun n9 hS9 k9 => va_iast hx hb hK I.2.2.1 (sm_w_D I.2.2.2.2.2) hS9 a 0 (sm_getA haN hob) rfl (pm_in_ok hin) hd (fun H2 l2 h2 _ h3 => k9 H2 l2 h2 h3)) (fun H1 locs1 hz hP hS => kk lsR H1 locs1 ⟨I.1, I.2.1, ?_, hS, fun q9 => by rw [hz]; exact I.2.2.2.2.1 q9, I.2.2.2.2.2⟩)
        rw [← sm_w_set haN]
        exact hP
      · cases ha
    · cases ha
  · cases ha
theorem sm_bastore : sm_A base b sc tx D cT SX .bastore := by
  intro y d pc pc' p l e R s m args below meth c H locs Q ls ls' st st' u u' g g' h h' lsR len C I hl hd ha kk
  simp only [pm_ln] at hl
  subst hl
  simp only [pm_act] at ha
  have C0 := C
  obtain ⟨hx, hb, hml, hown, hts, hK, -⟩ := C0
  split at ha
  · rename_i x i a st0
    split at ha
    · rename_i n f ho
      split at ha
      · rename_i hin
        simp only [Option.some.injEq, Sum.inl.injEq, Prod.mk.injEq] at ha
        obtain ⟨rfl, rfl, rfl, rfl, rfl, rfl⟩ := ha
        obtain ⟨haN, hob⟩ := pm_arr_ok ho
        refine sx_sized I.2.2.2.1 (fun n9 hS9 k9 => va_bast hx hb hK I.2.2.1 (sm_w_D I.2.2.2.2.2) hS9 a 1 (sm_getA haN hob) rfl (pm_in_ok hin) hd (fun H2 l2 h2 _ h3 => k9 H2 l2 h2 h3)) (fun H1 locs1 hz hP hS => kk lsR H1 locs1 ⟨I.1, I.2.1, ?_, hS, fun q9 => by rw [hz]; exact I.2.2.2.2.1 q9, I.2.2.2.2.2⟩)
        rw [← sm_w_set haN]
        exact hP
      · cases ha
    · rename_i n f ho
      split at ha
      · rename_i hin
        simp only [Option.some.injEq, Sum.inl.injEq, Prod.mk.injEq] at ha
        obtain ⟨rfl, rfl, rfl, rfl, rfl, rfl⟩ := ha
        obtain ⟨haN, hob⟩ := pm_arr_ok ho
        refine sx_sized I.2.2.2.1 (fun n9 hS9 k9 => va_zast hx hb hK I.2.2.1 (sm_w_D I.2.2.2.2.2) hS9 a 2 (sm_getA haN hob) rfl (pm_in_ok hin) hd (fun H2 l2 h2 _ h3 => k9 H2 l2 h2 h3)) (fun H1 locs1 hz hP hS => kk lsR H1 locs1 ⟨I.1, I.2.1, ?_, hS, fun q9 => by rw [hz]; exact I.2.2.2.2.1 q9, I.2.2.2.2.2⟩)
        rw [← sm_w_set haN]
        exact hP
      · cases ha
    · cases ha
  · cases ha
theorem sm_lastore : sm_A base b sc tx D cT SX .lastore := by
  intro y d pc pc' p l e R s m args below meth c H locs Q ls ls' st st' u u' g g' h h' lsR len C I hl hd ha kk
  simp only [pm_ln] at hl
  subst hl
  simp only [pm_act] at ha
  have C0 := C
  obtain ⟨hx, hb, hml, hown, hts, hK, -⟩ := C0
  split at ha
  · rename_i x i a st0
    split at ha
    · rename_i n f ho
      split at ha
      · rename_i hin
        simp only [Option.some.injEq, Sum.inl.injEq, Prod.mk.injEq] at ha
        obtain ⟨rfl, rfl, rfl, rfl, rfl, rfl⟩ := ha
        obtain ⟨haN, hob⟩ := pm_arr_ok ho
        refine sx_sized I.2.2.2.1 (fun n9 hS9 k9 => va_last hx hb hK I.2.2.1 (sm_w_D I.2.2.2.2.2) hS9 a 3 (sm_getA haN hob) rfl (pm_in_ok hin) hd (fun H2 l2 h2 _ h3 => k9 H2 l2 h2 h3)) (fun H1 locs1 hz hP hS => kk lsR H1 locs1 ⟨I.1, I.2.1, ?_, hS, fun q9 => by rw [hz]; exact I.2.2.2.2.1 q9, I.2.2.2.2.2⟩)
        rw [← sm_w_set haN]
        exact hP
      · cases ha
    · cases ha
  · cases ha
end SB
