/-- the law's pool entries of the exceptions: their numbers -/
def sx_xc (ct : Nat) : Nat := match ct with | 13 => 0 | 19 => 1 | 21 => 2 | _ => 3
theorem sx_hh : ∀ y ∈ pm_hand, pm_hh y = (pm_hr y).map (fun q => (q.1, q.2.1, sx_xc q.2.2.2, q.2.2.1)) ∧ ∀ q ∈ pm_hr y, q.2.2.2 ∈ [13, 19, 21, 29] := by decide +kernel
set_option maxRecDepth 100000 in
theorem sx_lkL : ∀ ct ∈ [13, 19, 21, 29], (Jvm.Cond.classLink RL ct ((pm_xn[sx_xc ct]?).getD "") ∈ lw_tbl ∧ goodWord (Jvm.Cond.classLink RL ct ((pm_xn[sx_xc ct]?).getD "")) = true) ∧ (pm_xn[sx_xc ct]?).isSome = true := by decide +kernel
theorem sx_castB : ∀ E ∈ pm_xn, Jvm.Cond.castable E E ∈ sx_B := by decide +kernel
theorem sx_ownL : ∀ y ∈ pm_hand, pm_cn (pm_own y) = RL := by decide +kernel
section SM
variable {base b : Nat} {sc : Nat × (Nat → Int32)} {tx : Nat → Nat} {D : va_G} {cT : Nat → ClassId} {SX : State → Heap → Prop} {l : Launch}
theorem sm_catches (hE : ∀ (s : State) (H : Heap), SX s H → sx_E base s H) (hNc : ∀ (s : State) (H : Heap), SX s H → ∀ (i j : Nat) (E F : String), i ≠ j → pm_xn[i]? = some E → pm_xn[j]? = some F → va_Nc E F s) : sm_HCat base b sc tx D cT SX l := by
  intro y d p e R s m args below meth c Q hy C htab pc pc' k ls ls' st u lsR H locs E ce q hc hL hlen hEk hce hcv hcl kk
  obtain ⟨hx, hb, hml, hown, hts, hK, hX, hbb, hbs, hini, hrc, hrs, hrf, hrl, hSX, hyN⟩ := C
  rw [sx_ownL y hy] at hown
  unfold pm_catch at hc
  split at hc
  · rename_i x hfx
    obtain ⟨hx1, as, bs, heq, has⟩ := List.find?_eq_some_iff_append.mp hfx
    obtain ⟨hm, hct⟩ := sx_hh y hy
    rw [hm] at heq
    obtain ⟨l1, l2, e1, e2, e3⟩ := List.map_eq_append_iff.mp heq
    obtain ⟨z, l3, e4, e5, e6⟩ := List.map_eq_cons_iff.mp e3
    subst e4
    have hsplit : c.exceptionTable.toList = tableOf l1 ++ ⟨z.1, z.2.1, z.2.2.1, z.2.2.2⟩ :: tableOf l3 := by
      rw [htab, e1]
      simp [tableOf]
    simp only [Bool.and_eq_true, decide_eq_true_eq, beq_iff_eq] at hx1
    rw [← e5] at hx1
    simp only at hx1
    have hz : z.2.2.2 ∈ [13, 19, 21, 29] := hct z (by rw [e1]; simp)
    obtain ⟨⟨hw1, hw2⟩, hw3⟩ := sx_lkL _ hz
    have hname : (pm_xn[sx_xc z.2.2.2]?).getD "" = E := by
      rw [hx1.2, hEk]
      rfl
    have hlink : (Jvm.Cond.classLink RL z.2.2.2 E).before args s = true := by
      have := hts _ (List.mem_filter.mpr ⟨hw1, hw2⟩)
      rw [hname] at this
      exact this
    have hcast : (Jvm.Cond.castable E E).before args s = true := by
      have hB := (hE s s.heap hSX).2.2.2 _ (sx_castB E (List.mem_of_getElem? hEk))
      exact hB.use rfl
    have hpass : ∀ w ∈ tableOf l1, covers w pc = false ∨ (w.catchType ≠ 0 ∧ ∃ nm : String, (Jvm.Cond.classLink RL w.catchType nm).before args s = true ∧ va_Nc E nm s) := by
      intro w hw
      obtain ⟨z1, hz1, rfl⟩ := List.mem_map.mp hw
      have hz1t : z1.2.2.2 ∈ [13, 19, 21, 29] := hct z1 (by rw [e1]; simp [hz1])
      obtain ⟨⟨v1, v2⟩, v3⟩ := sx_lkL _ hz1t
      have hn := has (z1.1, z1.2.1, sx_xc z1.2.2.2, z1.2.2.1) (by rw [← e2]; exact List.mem_map.mpr ⟨z1, hz1, rfl⟩)
      simp only [Bool.not_eq_true', Bool.and_eq_false_iff, decide_eq_false_iff_not, beq_eq_false_iff_ne] at hn
      by_cases hcov : z1.1 ≤ pc ∧ pc < z1.2.1
      · right
        refine ⟨?_, (pm_xn[sx_xc z1.2.2.2]?).getD "", hts _ (List.mem_filter.mpr ⟨v1, v2⟩), ?_⟩
        · intro h0
          have h0 : z1.2.2.2 = 0 := h0
          rw [h0] at hz1t
          simp at hz1t
        · obtain ⟨F, hF⟩ := Option.isSome_iff_exists.mp v3
          rw [hF]
          refine hNc s s.heap hSX k (sx_xc z1.2.2.2) E F ?_ hEk hF
          rcases hn with (hn | hn) | hn
          · exact absurd hcov.1 hn
          · exact absurd hcov.2 hn
          · exact fun q => hn q.symm
      · left
        simp only [covers]
        simp
        omega
    have hcovx : covers (⟨z.1, z.2.1, z.2.2.1, z.2.2.2⟩ : ExceptionTableEntry) pc = true := by
      simp only [covers]
      simp
      omega
    have h0 : (⟨z.1, z.2.1, z.2.2.1, z.2.2.2⟩ : ExceptionTableEntry).catchType ≠ 0 := by
      intro h9
      have h9 : z.2.2.2 = 0 := h9
      rw [h9] at hz
      simp at hz
    have hx2 : x.2.2.2 = z.2.2.1 := by rw [← e5]
    refine vx_catch (own := RL) (name := E) hown (tableOf l1) ⟨z.1, z.2.1, z.2.2.1, z.2.2.2⟩ (tableOf l3) hsplit hpass hcovx h0 hlink hcast hce hcv hcl ?_
    show W p l e R s m args below meth c H locs u.1 u.2 Q (F0 m z.2.2.1 lsR [.ref q])
    rw [← hx2]
    split at hc
    · rename_i k9 hdec
      split at hc
      · rename_i hk9
        simp only [Option.some.injEq, Prod.mk.injEq] at hc
        obtain ⟨rfl, rfl⟩ := hc
        exact lv_astore_n hx hb (pm_dec_at hdec (fun _ => rfl)) rfl hL (by rw [← hlen]; exact hk9) rfl (fun lsR' hl' => kk lsR' (sm_l_set hl' (fun q hq => by cases hq)) (by rw [List.length_set]; exact hlen))
      · cases hc
    · rename_i k9 hdec
      split at hc
      · rename_i hk9
        simp only [Option.some.injEq, Prod.mk.injEq] at hc
        obtain ⟨rfl, rfl⟩ := hc
        exact lv_astore hx hb (pm_dec_at hdec (fun _ => rfl)) hL (by rw [← hlen]; exact hk9) rfl (fun lsR' hl' => kk lsR' (sm_l_set hl' (fun q hq => by cases hq)) (by rw [List.length_set]; exact hlen))
      · cases hc
    · cases hc
  · cases hc
end SM
