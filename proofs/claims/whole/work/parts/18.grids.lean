section SK
variable {base b : Nat} {sc : Nat × (Nat → Int32)} {tx : Nat → Nat} {D : va_G} {cT : Nat → ClassId} {SX : State → Heap → Prop}
set_option maxRecDepth 100000 in
theorem sm_multi (hAO : ∀ (s : State) (H : Heap), SX s H → (Jvm.Cond.arrayOver (.array .int)).before #[] s = true) (idx dims : Nat) : sm_A base b sc tx D cT SX (.multianewarray idx dims) := by
  intro y d pc pc' p l e R s m args below meth c H locs Q ls ls' st st' u u' g g' h h' lsR len C I hl hd ha kk
  simp only [pm_ln] at hl
  subst hl
  have C0 := C
  obtain ⟨hx, hb, hml, hown, hts, hK, hX, hbb, hbs, hini, hrc, hrs, hrf, hrl, hSX, hy⟩ := C0
  by_cases h2 : dims = 2
  · subst h2
    simp only [pm_act] at ha
    split at ha
    · rename_i k n st0
      split at ha
      · rename_i hc
        obtain ⟨hgt, hn, hk, hn9, hk9, hg, hgl, hfit⟩ := hc
        simp only [Option.some.injEq, Sum.inl.injEq, Prod.mk.injEq] at ha
        obtain ⟨rfl, rfl, rfl, rfl, rfl, rfl⟩ := ha
        obtain ⟨hf1, hf2⟩ := sm_fits hfit
        have hsz := I.2.2.2.2.1 hg
        have hP := I.2.2.1
        have hS := I.2.2.2.1
        have hclink : (Jvm.Cond.classLink (pm_cn (pm_own y)) idx ("[" ++ (FieldType.array .int).toString)).before args s = true := hts _ (pm_gt_in _ (List.mem_map.mpr ⟨_, hgt, rfl⟩))
        have hcy : s.vm.findClass (FieldType.array .int).toString = some (cT 0) := (sm_K hK 0 rfl).2
        have hcA : s.vm.findClass ("[" ++ (FieldType.array .int).toString) = some (cT 4) := (sm_K hK 4 rfl).2
        have had : ∀ j, j ≤ 1000000 → j + g.1 < 1000000 → sm_ad base b tx (g.1 + j) = H.size + j := by
          intro j _ hj
          rw [hsz]
          simp [sm_ad, show g.1 + j < 1000000 by omega]
          omega
        intro T hT Xs
        obtain ⟨vm₁, cA, comp, -, fA, fC, hO, -, X', step⟩ := Xs.multianewarray2F hx hown hclink (hAO s s.heap hSX) (sm_ow hts 0 rfl) (g := F0 m pc lsR ((.int k :: .int n :: st0).map (sm_v (sm_ad base b tx)))) rfl (by rw [hb]; exact hd) rfl hn hk (by omega) (by show _ * 4 ≤ _; omega) (by omega) rfl rfl (by rw [hrc]; exact hf1) (by rw [hrs]; exact hf2)
        have ec : some (cT 0) = some comp := hcy.symm.trans fC
        have ea : some (cT 4) = some cA := hcA.symm.trans fA
        cases ec
        cases ea
        generalize hF : Jvm.Free.Multi.fill (T.setVm vm₁) (cT 4) (cT 0) n.toNatClampNeg k.toNatClampNeg (defaultValue .int) n.toNatClampNeg = F at X' step
        have hTh : (T.setVm vm₁).heap = H := hT
        obtain ⟨f1, f2, -, -⟩ := Jvm.Free.Multi.fill_facts (T.setVm vm₁) (cT 4) (cT 0) n.toNatClampNeg k.toNatClampNeg (defaultValue .int) n.toNatClampNeg
        rw [hF, hTh] at f1 f2
        have hold : ∀ x : Nat, x < H.size → F.heap[x]? = H[x]? := fun x hx => by
          have := Jvm.Free.Multi.fill_old (T.setVm vm₁) (cT 4) (cT 0) n.toNatClampNeg k.toNatClampNeg (defaultValue .int) (a := x) (by rw [hTh]; exact hx) n.toNatClampNeg
          rw [hF, hTh] at this
          exact this
        have hrow : ∀ j : Nat, j < n.toNatClampNeg → F.heap[H.size + 1 + j]? = some (vp_cell (cT 0) (k.toNatClampNeg, .inl fun _ => 0)) := fun j hj => by
          have := Jvm.Free.Multi.fill_inner (T.setVm vm₁) (cT 4) (cT 0) n.toNatClampNeg k.toNatClampNeg (defaultValue .int) n.toNatClampNeg j hj
          rw [hF, hTh] at this
          rw [this]
          rw [vp_cell_i, ← arrV_new]
          rfl
        have hout : Jvm.Free.Multi.outerC (cT 4) n.toNatClampNeg H.size n.toNatClampNeg = vp_cell (cT 4) (n.toNatClampNeg, .inr (.inr (.inr (.inr (fun i => if i < n.toNatClampNeg then some (H.size + 1 + i) else none))))) := by
          rw [vp_cell_q]
          exact sm_outer (cT 4) n.toNatClampNeg H.size n.toNatClampNeg
        rw [hout] at f2
        have hI : sm_I base b tx D cT y s lsR ls (g.1 + 1 + n.toNatClampNeg, true) (fun j => if j = g.1 then .inl (4, n.toNatClampNeg, .inr (.inr (.inr (.inr fun i => if i < n.toNatClampNeg then some (g.1 + 1 + i) else none)))) else if g.1 < j ∧ j < g.1 + 1 + n.toNatClampNeg then .inl (0, k.toNatClampNeg, .inl fun _ => 0) else h j) F.heap locs := by
          refine ⟨I.1, I.2.1, ?_, ?_, fun _ => by rw [f1, hsz]; simp only; omega, by simp only; omega⟩
          · intro j x hj
            have hjl : j < g.1 + 1 + n.toNatClampNeg := by
              have := (List.getElem?_eq_some_iff.mp hj).1
              simpa [sm_w] using this
            rw [sm_w_get hjl] at hj
            cases hj
            by_cases h1 : j < g.1
            · rw [if_neg (by omega), if_neg (by omega)]
              have := hP j _ (sm_w_get h1)
              exact this.kept (hold _ this.lt)
            · by_cases h2 : j = g.1
              · subst h2
                rw [if_pos rfl]
                show F.heap[sm_ad base b tx g.1]? = some (vp_cell (cT 4) _)
                have e0 : sm_ad base b tx g.1 = H.size := by have := had 0 (by omega) (by omega); simpa using this
                have ef : (fun i => if i < n.toNatClampNeg then some (H.size + 1 + i) else none) = (fun j => Option.map (sm_ad base b tx) (if j < n.toNatClampNeg then some (g.1 + 1 + j) else none)) := by
                  funext i
                  by_cases hi : i < n.toNatClampNeg
                  · have := had (1 + i) (by omega) (by omega)
                    rw [← Nat.add_assoc, ← Nat.add_assoc] at this
                    rw [if_pos hi, if_pos hi, Option.map_some, this]
                  · rw [if_neg hi, if_neg hi]
                    rfl
                rw [e0, f2, ef]
                rfl
              · rw [if_neg h2, if_pos (by omega)]
                show F.heap[sm_ad base b tx j]? = some (vp_cell (cT 0) _)
                have := had (j - g.1) (by omega) (by omega)
                rw [show g.1 + (j - g.1) = j by omega] at this
                rw [this, show H.size + (j - g.1) = H.size + 1 + (j - g.1 - 1) by omega]
                exact hrow (j - g.1 - 1) (by omega)
          · exact ⟨by rw [f1]; have := hS.1; omega, fun x h1 h2 => (hold x (Nat.lt_of_lt_of_le h1 hS.1)).trans (hS.2.1 x h1 h2), hS.2.2⟩
        have e0 : sm_ad base b tx g.1 = H.size := by have := had 0 (by omega) (by omega); simpa using this
        have K := kk lsR F.heap locs hI
        obtain ⟨t, a1, b1⟩ := K F rfl (by
          have : u.1 + (1 + n.toNatClampNeg) = u.1 + 1 + n.toNatClampNeg := by omega
          first | exact X' | (rw [Nat.add_assoc u.1] ; exact X'))
        refine ⟨t, step t ?_, b1⟩
        have e : T.heap.size = H.size := by rw [hT]
        rw [e]
        simp only [List.map_cons] at a1
        rw [show sm_v (sm_ad base b tx) (.ref g.1) = .ref H.size by rw [← e0]; rfl] at a1
        exact a1
      · cases ha
    · cases ha
  · exfalso
    unfold pm_act at ha
    split at ha <;> first
      | (injections; done)
      | (injections; contradiction)
      | cases ha
end SK
