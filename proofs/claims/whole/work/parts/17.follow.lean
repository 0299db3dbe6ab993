section SJ
variable {base b : Nat} {sc : Nat × (Nat → Int32)} {tx : Nat → Nat} {D : va_G} {cT : Nat → ClassId} {SX : State → Heap → Prop}
theorem sm_good {ws : List Jvm.Cond} (h : ∀ w ∈ ws, w ∈ pm_ws) : GoodIn pm_ws ws := fun w hw => ⟨h w hw, good_of_word (List.mem_filter.mp (h w hw)).2⟩
theorem sm_cw_in {y : Nat} (hy : y < 252) : sm_cw y ∈ pm_ws := by
  unfold sm_cw
  split
  · rename_i h
    exact pm_cwh_in _ (List.mem_map.mpr ⟨y, h, rfl⟩)
  · rename_i h
    rcases pm_plain_ok y hy with h9 | h9
    · exact absurd h9 h
    · exact pm_cw_in h9
theorem sm_blind (hS : sm_SX base SX) {as : List Value} {g : PG} {h : PH} : FrameBlind (sm_Pc base b sc tx D cT SX as g h) := by
  intro a U g9 mk hq
  obtain ⟨q1, hP, hsz, hN, hK, hX, hbb, hbs, hSX⟩ := hq
  exact ⟨q1, hP, hsz, hN, va_K.moved (u := U) (U := U.calling g9 mk a) (Vm.Alike.refl U.vm) hK, va_X.moved (u := U) (U := U.calling g9 mk a) (Vm.Alike.refl U.vm) hX, hbb, hbs, hS.2.1 U _ _ rfl hSX⟩
theorem sm_pre (hS : sm_SX base SX) {y d : Nat} {p : Program} {R : Room} {s : State} {m : MethodId} {args : Array Value} {meth : Method} {c : Code} {H : Heap} {locs : List Loc} {ls as : List Value} {g : PG} {h : PH} {lsR : Array Slot} (C : sm_C base b sc D cT SX y d p R s m args meth c) (I : sm_I base b tx D cT y s lsR ls g h H locs) (U : State) (hU : U.heap = H) (hW : s.WarmedH U.vm) : sm_Pc base b sc tx D cT SX as g h (as.map (sm_v (sm_ad base b tx))).toArray U := by
  obtain ⟨hx, hb, hml, hown, hts, hK, hX, hbb, hbs, hini, hrc, hrs, hrf, hrl, hSX, hy⟩ := C
  have hlow : ∀ q : Nat, q < base → H[q]? = s.heap[q]? := fun q hq => I.2.2.2.1.2.1 q (by omega) (by show ¬ base ≤ q; omega)
  refine ⟨rfl, by rw [hU]; exact I.2.2.1, by rw [hU]; exact I.2.2.2.2.1, I.2.2.2.2.2, va_K.moved hW.alike hK, ?_, hbb, by rw [hU]; exact Nat.le_trans hbs I.2.2.2.1.1, ?_⟩
  · rw [hU]
    exact va_X.moved hW.alike (hX.kept (hlow b hbb))
  · rw [hU]
    exact hS.2.2 U s.heap H hlow (hS.1 s U s.heap hW hSX)
theorem sm_rev (ad : Nat → Nat) (as st : List Value) (a : Nat) : (as.reverse ++ .ref a :: st).map (sm_v ad) = (as.map (sm_v ad)).reverse ++ .ref (ad a) :: st.map (sm_v ad) := by
  simp [sm_v]
theorem sm_rev0 (ad : Nat → Nat) (as st : List Value) : (as.reverse ++ st).map (sm_v ad) = (as.map (sm_v ad)).reverse ++ st.map (sm_v ad) := by
  simp
variable {l : Launch}
set_option maxHeartbeats 4000000 in
theorem sm_main (hS : sm_SX base SX) (h1 : (∀ idx, sm_A base b sc tx D cT SX (.ldc idx)) ∧ (∀ idx, sm_A base b sc tx D cT SX (.ldc_w idx))) (h2 : ∀ idx, sm_A base b sc tx D cT SX (.invokevirtual idx)) (h3 : ∀ idx k, sm_A base b sc tx D cT SX (.multianewarray idx k))
    (hT : sm_HThr base b sc tx D cT SX l) (hC : sm_HCat base b sc tx D cT SX l) (hnt : ∀ y ∈ pm_hand, ∀ pc idx, pm_throw y pc idx = none)
    (hN : ∀ (s : State) (H : Heap) (own idx y : Nat), SX s H → pm_mth own idx = some (3, y) → va_Nw (.methodLinkNest (pm_cn own) idx (pm_name y) "RowProver") s) : ∀ n, sm_G base b sc tx D cT SX l n := by
  intro n
  induction n with
  | zero =>
    intro y d pc ls st u g h r p e R s m args below meth c H locs lsR Q C I hEnd hOut hCat he
    cases he
  | succ n ih =>
    intro y d pc ls st u g h r p e R s m args below meth c H locs lsR Q C I hEnd hOut hCat he
    simp only [pm_exec] at he
    split at he
    · cases he
    · rename_i i hdec
      obtain ⟨len, hl, hd⟩ := pm_dec_ok hdec
      split at he
      · cases he
      · rename_i pc' ls' st' u' g' h' hact
        exact sm_all h1 h2 h3 i y d pc pc' p l e R s m args below meth c H locs Q ls ls' st st' u u' g g' h h' lsR len C I hl hd hact (fun lsR' H' locs' I' => ih y d pc' ls' st' u' g' h' r p e R s m args below meth c H' locs' lsR' Q C I' hEnd hOut hCat he)
      · rename_i r0 hact
        cases he
        exact hEnd pc ls st u g h lsR H locs i len r0 I hl hd hact rfl
      · rename_i y' as st' hact
        split at he
        · cases he
        · rename_i d'
          split at he
          · rename_i hcond
            obtain ⟨q1, q2, q3, q4⟩ := hcond
            obtain ⟨idx, k, hm, hk⟩ := pm_act_call hact
            have hmm := pm_mth_ok hm
            have hy' : y' < 252 := by
              have := List.all_eq_true.mp pm_mt_lt _ hmm
              simpa using this
            have hmo := List.all_eq_true.mp pm_mt_ok _ hmm
            have hhi := List.all_eq_true.mp pm_hand_inst _ hmm
            obtain ⟨o1, o2, o3, o4, o5, o6⟩ := pm_names_ok y' (by omega)
            have hnl := pm_nL_ok y' (by omega)
            obtain ⟨hf1, hf2⟩ := sm_fits q4
            have C0 := C
            obtain ⟨hx, hb, hml, hown, hts, hK, hX, hbb, hbs, hini, hrc, hrs, hrf, hrl, hSX, hy⟩ := C0
            have hroom : (sm_R y' d').frames + 1 ≤ R.frames ∧ 8 + (pm_nL y' + 11) + (sm_R y' d').locals ≤ R.locals := by
              refine ⟨?_, ?_⟩
              · show d' + 8 + 1 ≤ R.frames
                omega
              · show 8 + (pm_nL y' + 11) + (d' + 8) * 100 ≤ R.locals
                omega
            have hfit : u.1 + pm_bc y' ≤ R.cells ∧ u.2 + pm_bs y' ≤ R.slots := ⟨by rw [hrc]; exact hf1, by rw [hrs]; exact hf2⟩
            have hsum : 2 * (F0 m pc lsR (st.map (sm_v (sm_ad base b tx)))).monitorRoom + ((st'.map (sm_v (sm_ad base b tx))).map fun v => v.category).sum ≤ 8 := by
              rw [sm_v_sum]
              show 2 * 0 + _ ≤ 8
              omega
            have hsz : (F0 m pc lsR (st.map (sm_v (sm_ad base b tx)))).locals.size = pm_nL y := I.1.1
            have hcin := sm_cw_in hy'
            have hall : ∀ w ∈ sm_cw y' :: pm_ws, w ∈ pm_ws := List.forall_mem_cons.mpr ⟨hcin, fun w hw => hw⟩
            -- what comes behind the call
            have back : ∀ (r' : PR) (v : Option Value) (st₀ t : State) (locs1 : List Loc), pm_exec sc n d' y' 0 (as ++ List.replicate (pm_nL y' - as.length) pm_no) [] (0, 0) g h = some r' → sm_Qc base b tx D cT r' (as.map (sm_v (sm_ad base b tx))).toArray st₀ (.returned v) t → va_S (fun q => base ≤ q) s.heap t.heap locs1 → W p l e R s m args below meth c t.heap locs1 (u.1 + pm_bc y') (u.2 + pm_bs y') Q (F0 m (pc + 3) lsR (v.toList ++ st'.map (sm_v (sm_ad base b tx)))) := by
              intro r' v st₀ t locs1 hex hq hS1
              obtain ⟨v', e1, e2, hTt, hF⟩ := hq
              have e3 : v = v'.map (sm_v (sm_ad base b tx)) := Outcome.returned.inj e2
              obtain ⟨r1, g', h'⟩ := r'
              simp only at e1
              subst e1
              rw [hex] at he
              simp only at he
              have := ih y (d' + 1) (pc + 3) ls (v'.toList ++ st') (u.1 + pm_bc y', u.2 + pm_bs y') g' h' r p e R s m args below meth c t.heap locs1 lsR Q C ⟨I.1, I.2.1, hTt.1, hS1, hTt.2.1, hTt.2.2⟩ hEnd hOut hCat he
              rw [e3]
              rw [List.map_append] at this
              cases v' <;> exact this
            have backX : ∀ (r' : PR) (q : Addr) (E : String) (ce : Cell) (st₀ t : State) (locs1 : List Loc), pm_exec sc n d' y' 0 (as ++ List.replicate (pm_nL y' - as.length) pm_no) [] (0, 0) g h = some r' → sm_XC base b tx D cT r' E st₀ t → va_S (fun q => base ≤ q) s.heap t.heap locs1 → t.heap[q]? = some ce → ce.vm = .none → s.vm.findClass E = some ce.cls → vx_W p l e R s m args below meth c t.heap locs1 (u.1 + pm_bc y') (u.2 + pm_bs y') Q (F0 m pc lsR (st'.map (sm_v (sm_ad base b tx)))) q := by
              intro r' q E ce st₀ t locs1 hex hq hS1 hce hcv hcl
              obtain ⟨kx, e1, hE, hTt, hF⟩ := hq
              obtain ⟨r1, g', h'⟩ := r'
              simp only at e1
              subst e1
              rw [hex] at he
              simp only at he
              split at he
              · cases he
              · split at he
                · rename_i hhy
                  cases he
                  exact hOut hhy pc st' (u.1 + pm_bc y', u.2 + pm_bs y') g' h' lsR t.heap locs1 kx E ce q rfl hTt.1 hS1 hTt.2.1 hTt.2.2 hE hce hcv hcl hf1 hf2
                · split at he
                  · rename_i pc2 ls2 hcat
                    exact hCat pc pc2 kx ls ls2 st' (u.1 + pm_bc y', u.2 + pm_bs y') lsR t.heap locs1 E ce q hcat I.1 I.2.1 hE hce hcv hcl (fun lsR' hl' hlen' => ih y (d' + 1) pc2 ls2 [] (u.1 + pm_bc y', u.2 + pm_bs y') g' h' r p e R s m args below meth c t.heap locs1 lsR' Q C ⟨hl', hlen', hTt.1, hS1, hTt.2.1, hTt.2.2⟩ hEnd hOut hCat he)
                  · cases he
            -- the callee's end
            have hex : ∃ r', pm_exec sc n d' y' 0 (as ++ List.replicate (pm_nL y' - as.length) pm_no) [] (0, 0) g h = some r' := by
              cases hx9 : pm_exec sc n d' y' 0 (as ++ List.replicate (pm_nL y' - as.length) pm_no) [] (0, 0) g h with
              | none => rw [hx9] at he; cases he
              | some r' => exact ⟨r', rfl⟩
            obtain ⟨r', hex⟩ := hex
            have hM := sm_met hT hC hnt ih hy' q2 q3 hex
            rcases hk with ⟨rfl, rfl, a, as', rfl, rfl, hlen, fs, hob⟩ | ⟨rfl, hk, a, as', rfl, rfl, hlen⟩ | ⟨rfl, hk, rfl, hlen⟩
            · -- invokevirtual
              simp only [pm_ln] at hl
              subst hl
              simp only [Bool.and_eq_true, decide_eq_true_eq] at hmo hhi
              have e1 : sm_cw y' = Jvm.Cond.code (pm_name y') (pm_code y') (pm_nL y') (pm_ret y') := by unfold sm_cw; rw [if_neg hhi]; rfl
              have wv : ∀ w ∈ wsV (pm_cn (pm_own y)) idx (pm_name y').cls (pm_name y') (sm_cw y' :: pm_ws), w ∈ pm_ws := by
                intro w hw
                simp only [wsV, List.mem_append, List.mem_cons, List.not_mem_nil, or_false] at hw
                rcases hw with (rfl | rfl | rfl | rfl) | rfl | hw
                · exact pm_link hm (by decide)
                · exact pm_inst_in _ (List.mem_flatMap.mpr ⟨y', hmo.1.1, by simp [pm_mw]⟩)
                · exact pm_virt_in _ (List.mem_flatMap.mpr ⟨y', hmo.1.2, by simp [pm_vw]⟩)
                · exact pm_inst_in _ (List.mem_flatMap.mpr ⟨y', hmo.1.1, by simp [pm_mw]⟩)
                · exact hcin
                · exact hw
              obtain ⟨haN, hob⟩ := pm_obj_ok hob
              have hq : ∃ q : vw_C, vwCl[pm_own y']? = some q ∧ q.1 = (pm_name y').cls := by
                obtain ⟨r9, hr9, -⟩ := I.2.2.1 a _ (sm_getO haN hob)
                refine ⟨r9, hr9, ?_⟩
                have h3 : 3 ≤ pm_own y' := by
                  have : ∀ z, z < 253 → 3 ≤ pm_own z := by decide +kernel
                  exact this y' (by omega)
                rw [(pm_cls_ok hr9 h3).1, o2]
              obtain ⟨q, hq, hqn⟩ := hq
              have hrecv := va_recv hK I.2.2.1 hq (sm_getO haN hob)
              refine sm_run (vx_runV (As := as'.map (sm_v (sm_ad base b tx))) (rest := st'.map (sm_v (sm_ad base b tx))) (b := sm_ad base b tx a) (n := pm_np y') ⟨hx, hb, hml, hown, hts⟩ hM (cwV (pm_np y') hts (sm_good wv) (by rw [e1]) rfl rfl ⟨rfl, o3, o4, o5⟩ hroom) ⟨sm_blind hS, by rw [← hqn]; exact hrecv, fun U hU hW => sm_pre hS (as := .ref a :: as') C I U hU hW⟩ rfl (by simp [hlen]) hsz (sm_rev _ _ _ _) hsum hd hfit) I.2.2.2.1 (fun _ hq => hq) (fun st o t hq => by obtain ⟨_, _, _, _, hF⟩ := hq; exact hF) (fun E st t hq => by obtain ⟨_, _, _, _, hF⟩ := hq; exact hF)
                (fun v st₀ t locs1 _ _ hq hS1 => back r' v st₀ t locs1 hex hq hS1) (fun q E ce st₀ t locs1 _ _ hq hS1 hce hcv hcl => backX r' q E ce st₀ t locs1 hex hq hS1 hce hcv hcl)
            · -- invokespecial <init>
              simp only [pm_ln] at hl
              subst hl
              have hin9 : y' ∈ pm_inst ∧ pm_ini y' = true := by
                rcases hk with rfl | rfl <;> (simp only [Bool.and_eq_true, decide_eq_true_eq] at hmo; exact ⟨hmo.1.1, hmo.1.2⟩)
              have hhd : ¬ y' ∈ pm_hand := by
                rcases hk with rfl | rfl <;> (simp only [decide_eq_true_eq] at hhi; exact hhi)
              have hno : ∃ v', r'.1 = .inl v' := by
                obtain ⟨r1, g', h'⟩ := r'
                cases r1 with
                | inl v' => exact ⟨v', rfl⟩
                | inr e9 =>
                  rw [hex] at he
                  simp only at he
                  rw [if_pos hin9.2] at he
                  cases he
              obtain ⟨v', hv'⟩ := hno
              have e1 : sm_cw y' = Jvm.Cond.code (pm_name y') (pm_code y') (pm_nL y') (pm_ret y') := by unfold sm_cw; rw [if_neg hhd]; rfl
              have hret : pm_ret y' = none := by
                have : ∀ z, z < 253 → pm_ini z = true → pm_ret z = none := by decide +kernel
                exact this y' (by omega) hin9.2
              have e2 : sm_cw y' :: pm_ws = Jvm.Cond.code (pm_name y') (pm_code y') (pm_nL y') none :: pm_ws := by rw [e1, hret]
              have hMet := sm_noX hM (fun E st t hq => by obtain ⟨k9, e9, -⟩ := hq; rw [hv'] at e9; cases e9)
              have wi : (Jvm.Cond.initialized (pm_name y').cls).before args s = true := hts _ (pm_inst_in _ (List.mem_flatMap.mpr ⟨y', hin9.1, by simp [pm_mw]⟩))
              have wn : (Jvm.Cond.instanceMethod (pm_name y')).before args s = true := hts _ (pm_inst_in _ (List.mem_flatMap.mpr ⟨y', hin9.1, by simp [pm_mw]⟩))
              have key : va_Run p l e R s m args below meth c H locs u.1 u.2 (pm_bc y') (pm_bs y') (F0 m pc lsR ((as'.reverse ++ .ref a :: st').map (sm_v (sm_ad base b tx)))) (st'.map (sm_v (sm_ad base b tx))) (sm_Qc base b tx D cT r' (Value.ref (sm_ad base b tx a) :: as'.map (sm_v (sm_ad base b tx))).toArray) (fun q => base ≤ q) := by
                rcases hk with rfl | rfl
                · exact va_runI (As := as'.map (sm_v (sm_ad base b tx))) (rest := st'.map (sm_v (sm_ad base b tx))) (b := sm_ad base b tx a) (n := pm_np y') ⟨hx, hb, hml, hown, hts⟩ hMet (cwI (pm_np y') hts (sm_good hall) e2 rfl rfl wi (hts _ (pm_link hm (by decide))) wn (o6 hin9.2) ⟨o3, o4, o5⟩ hroom) ⟨sm_blind hS, fun U hU hW => sm_pre hS (as := .ref a :: as') C I U hU hW⟩ rfl (by simp [hlen]) hsz (sm_rev _ _ _ _) hsum hd hfit
                · exact va_runIN (As := as'.map (sm_v (sm_ad base b tx))) (rest := st'.map (sm_v (sm_ad base b tx))) (b := sm_ad base b tx a) (n := pm_np y') (host := "RowProver") ⟨hx, hb, hml, hown, hts⟩ hMet ⟨va_cnB (pm_np y') hts (sm_good hall) e2 rfl rfl (hN s s.heap _ idx y' hSX hm) wi ⟨o3, o4, o5⟩ hroom, o6 hin9.2, wn⟩ ⟨sm_blind hS, fun U hU hW => sm_pre hS (as := .ref a :: as') C I U hU hW⟩ rfl (by simp [hlen]) hsz (sm_rev _ _ _ _) hsum hd hfit
              exact sm_runI key I.2.2.2.1 (fun _ hq => hq) (fun st o t hq => by obtain ⟨_, _, _, _, hF⟩ := hq; exact hF) (fun v st₀ t locs1 _ _ hq hS1 => back r' v st₀ t locs1 hex hq hS1)
            · -- invokestatic
              simp only [pm_ln] at hl
              subst hl
              rcases hk with rfl | rfl
              · simp only [Bool.and_eq_true, decide_eq_true_eq] at hmo hhi
                have e1 : sm_cw y' = Jvm.Cond.code (pm_name y') (pm_code y') (pm_nL y') (pm_ret y') := by unfold sm_cw; rw [if_neg hhi]; rfl
                have wst : (Jvm.Cond.static (pm_name y')).before args s = true := hts _ (pm_stat_in _ (List.mem_flatMap.mpr ⟨y', hmo.1, by simp [pm_mws]⟩))
                have wi : (Jvm.Cond.initialized (pm_name y').cls).before args s = true := hts _ (pm_stat_in _ (List.mem_flatMap.mpr ⟨y', hmo.1, by simp [pm_mws]⟩))
                exact sm_run (vx_runS (As := as.map (sm_v (sm_ad base b tx))) (rest := st'.map (sm_v (sm_ad base b tx))) (n := pm_np y') ⟨hx, hb, hml, hown, hts⟩ hM ⟨callB_of (pm_np y') hts (sm_good hall) (by rw [e1]) rfl rfl wi (hts _ (pm_link hm (by decide))) ⟨o3, o4, o5⟩ hroom, wst⟩ ⟨sm_blind hS, fun U hU hW => sm_pre hS C I U hU hW⟩ rfl (by simp [hlen]) hsz (sm_rev0 _ _ _) hsum hd hfit) I.2.2.2.1 (fun _ hq => hq) (fun st o t hq => by obtain ⟨_, _, _, _, hF⟩ := hq; exact hF) (fun E st t hq => by obtain ⟨_, _, _, _, hF⟩ := hq; exact hF)
                  (fun v st₀ t locs1 _ _ hq hS1 => back r' v st₀ t locs1 hex hq hS1) (fun q E ce st₀ t locs1 _ _ hq hS1 hce hcv hcl => backX r' q E ce st₀ t locs1 hex hq hS1 hce hcv hcl)
              · simp only [Bool.and_eq_true, decide_eq_true_eq] at hmo
                have e1 : sm_cw y' = Jvm.Cond.codeWith (pm_name y') (pm_code y') (pm_nL y') (pm_ret y') (pm_hr y') := by unfold sm_cw; rw [if_pos hmo.1]; rfl
                have wst : (Jvm.Cond.static (pm_name y')).before args s = true := hts _ (pm_hand_in _ (List.mem_flatMap.mpr ⟨y', hmo.1, by simp [pm_mws]⟩))
                have wi : (Jvm.Cond.initialized (pm_name y').cls).before args s = true := hts _ (pm_hand_in _ (List.mem_flatMap.mpr ⟨y', hmo.1, by simp [pm_mws]⟩))
                have hmem : Jvm.Cond.codeWith (pm_name y') (pm_code y') (pm_nL y') (pm_ret y') (pm_hr y') ∈ sm_cw y' :: pm_ws := by rw [← e1]; exact List.mem_cons_self
                exact sm_run (vx_runSX (As := as.map (sm_v (sm_ad base b tx))) (rest := st'.map (sm_v (sm_ad base b tx))) (n := pm_np y') (hh := pm_hr y') (bytes := pm_code y') (maxL := pm_nL y') (ret := pm_ret y') ⟨hx, hb, hml, hown, hts⟩ hM ⟨⟨rfl, rfl, hroom.1, hroom.2, pay_in hts (sm_good hall), hmem⟩, by rw [← e1]; exact hts _ hcin, wi, ⟨o3, o4⟩, fun sig h9 => by have h2 := o5; rw [h9] at h2; exact (Option.some.inj h2).symm, hts _ (pm_link hm (by decide)), wst⟩ ⟨sm_blind hS, fun U hU hW => sm_pre hS C I U hU hW⟩ rfl (by simp [hlen]) hsz (sm_rev0 _ _ _) hsum hd hfit) I.2.2.2.1 (fun _ hq => hq) (fun st o t hq => by obtain ⟨_, _, _, _, hF⟩ := hq; exact hF) (fun E st t hq => by obtain ⟨_, _, _, _, hF⟩ := hq; exact hF)
                  (fun v st₀ t locs1 _ _ hq hS1 => back r' v st₀ t locs1 hex hq hS1) (fun q E ce st₀ t locs1 _ _ hq hS1 hce hcv hcl => backX r' q E ce st₀ t locs1 hex hq hS1 hce hcv hcl)
          · cases he
end SJ
