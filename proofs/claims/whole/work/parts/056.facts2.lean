theorem pm_find {α β : Type} {L : List α} {f : α → Bool} {g : α → β} {r : β} (h : (L.find? f).map g = some r) : ∃ a ∈ L, f a = true ∧ g a = r := by
  cases hf : L.find? f with
  | none => rw [hf] at h; cases h
  | some a => rw [hf] at h; exact ⟨a, List.mem_of_find?_eq_some hf, List.find?_some hf, Option.some.inj h⟩
theorem pm_fi3 : ∀ k, k < 4 → (pm_fi 3 k = true ∧ parseFieldDescriptor (TX0 k).2.2.1 = some .int) ∨ (pm_fi 3 k = false ∧ (parseFieldDescriptor (TX0 k).2.2.1).map FieldType.isReference = some true) := by decide +kernel
theorem pm_df3 : ∀ k, k < 4 → defaultValue (tyX0 k) = vp_V (pm_df 3) k := by decide +kernel
theorem pm_fi4 : ∀ k, k < 19 → (pm_fi 4 k = true ∧ parseFieldDescriptor (TX1 k).2.2.1 = some .int) ∨ (pm_fi 4 k = false ∧ (parseFieldDescriptor (TX1 k).2.2.1).map FieldType.isReference = some true) := by decide +kernel
theorem pm_df4 : ∀ k, k < 19 → defaultValue (tyX1 k) = vp_V (pm_df 4) k := by decide +kernel
theorem pm_fi5 : ∀ k, k < 9 → (pm_fi 5 k = true ∧ parseFieldDescriptor (TX2 k).2.2.1 = some .int) ∨ (pm_fi 5 k = false ∧ (parseFieldDescriptor (TX2 k).2.2.1).map FieldType.isReference = some true) := by decide +kernel
theorem pm_df5 : ∀ k, k < 9 → defaultValue (tyX2 k) = vp_V (pm_df 5) k := by decide +kernel
theorem pm_fi6 : ∀ k, k < 9 → (pm_fi 6 k = true ∧ parseFieldDescriptor (TX3 k).2.2.1 = some .int) ∨ (pm_fi 6 k = false ∧ (parseFieldDescriptor (TX3 k).2.2.1).map FieldType.isReference = some true) := by decide +kernel
theorem pm_df6 : ∀ k, k < 9 → defaultValue (tyX3 k) = vp_V (pm_df 6) k := by decide +kernel
theorem pm_fi7 : ∀ k, k < 6 → (pm_fi 7 k = true ∧ parseFieldDescriptor (TX4 k).2.2.1 = some .int) ∨ (pm_fi 7 k = false ∧ (parseFieldDescriptor (TX4 k).2.2.1).map FieldType.isReference = some true) := by decide +kernel
theorem pm_df7 : ∀ k, k < 6 → defaultValue (tyX4 k) = vp_V (pm_df 7) k := by decide +kernel
theorem pm_fi8 : ∀ k, k < 10 → (pm_fi 8 k = true ∧ parseFieldDescriptor (TX5 k).2.2.1 = some .int) ∨ (pm_fi 8 k = false ∧ (parseFieldDescriptor (TX5 k).2.2.1).map FieldType.isReference = some true) := by decide +kernel
theorem pm_df8 : ∀ k, k < 10 → defaultValue (tyX5 k) = vp_V (pm_df 8) k := by decide +kernel
theorem pm_fi9 : ∀ k, k < 5 → (pm_fi 9 k = true ∧ parseFieldDescriptor (TX6 k).2.2.1 = some .int) ∨ (pm_fi 9 k = false ∧ (parseFieldDescriptor (TX6 k).2.2.1).map FieldType.isReference = some true) := by decide +kernel
theorem pm_df9 : ∀ k, k < 5 → defaultValue (tyX6 k) = vp_V (pm_df 9) k := by decide +kernel
theorem pm_fi10 : ∀ k, k < 15 → (pm_fi 10 k = true ∧ parseFieldDescriptor (TX7 k).2.2.1 = some .int) ∨ (pm_fi 10 k = false ∧ (parseFieldDescriptor (TX7 k).2.2.1).map FieldType.isReference = some true) := by decide +kernel
theorem pm_df10 : ∀ k, k < 15 → defaultValue (tyX7 k) = vp_V (pm_df 10) k := by decide +kernel
theorem pm_fi11 : ∀ k, k < 3 → (pm_fi 11 k = true ∧ parseFieldDescriptor (TX8 k).2.2.1 = some .int) ∨ (pm_fi 11 k = false ∧ (parseFieldDescriptor (TX8 k).2.2.1).map FieldType.isReference = some true) := by decide +kernel
theorem pm_df11 : ∀ k, k < 3 → defaultValue (tyX8 k) = vp_V (pm_df 11) k := by decide +kernel
theorem pm_fi12 : ∀ k, k < 6 → (pm_fi 12 k = true ∧ parseFieldDescriptor (TX9 k).2.2.1 = some .int) ∨ (pm_fi 12 k = false ∧ (parseFieldDescriptor (TX9 k).2.2.1).map FieldType.isReference = some true) := by decide +kernel
theorem pm_df12 : ∀ k, k < 6 → defaultValue (tyX9 k) = vp_V (pm_df 12) k := by decide +kernel
theorem pm_fi13 : ∀ k, k < 12 → (pm_fi 13 k = true ∧ parseFieldDescriptor (TX10 k).2.2.1 = some .int) ∨ (pm_fi 13 k = false ∧ (parseFieldDescriptor (TX10 k).2.2.1).map FieldType.isReference = some true) := by decide +kernel
theorem pm_df13 : ∀ k, k < 12 → defaultValue (tyX10 k) = vp_V (pm_df 13) k := by decide +kernel
theorem pm_fi14 : ∀ k, k < 15 → (pm_fi 14 k = true ∧ parseFieldDescriptor (TX11 k).2.2.1 = some .int) ∨ (pm_fi 14 k = false ∧ (parseFieldDescriptor (TX11 k).2.2.1).map FieldType.isReference = some true) := by decide +kernel
theorem pm_df14 : ∀ k, k < 15 → defaultValue (tyX11 k) = vp_V (pm_df 14) k := by decide +kernel
theorem pm_fi15 : ∀ k, k < 78 → (pm_fi 15 k = true ∧ parseFieldDescriptor (TX12 k).2.2.1 = some .int) ∨ (pm_fi 15 k = false ∧ (parseFieldDescriptor (TX12 k).2.2.1).map FieldType.isReference = some true) := by decide +kernel
theorem pm_df15 : ∀ k, k < 78 → defaultValue (tyX12 k) = vp_V (pm_df 15) k := by decide +kernel
/-- what the tables say of a class of ours -/
def pm_cok (c : Nat) (q : vw_C) : Prop := q.1 = pm_cn c ∧ (∀ w ∈ u_ws q.1 q.2.1 q.2.2, w ∈ pm_ws) ∧ (∀ a, a < q.2.2 → ∀ b, b < q.2.2 → a ≠ b → (q.2.1 a).2.1 ≠ (q.2.1 b).2.1) ∧
  (∀ k, k < q.2.2 → (pm_fi c k = true ∧ parseFieldDescriptor (q.2.1 k).2.2.1 = some .int) ∨ (pm_fi c k = false ∧ (parseFieldDescriptor (q.2.1 k).2.2.1).map FieldType.isReference = some true)) ∧
  (pm_df c).length = q.2.2 ∧ ∃ ty : Nat → FieldType, (∀ k, k < q.2.2 → parseFieldDescriptor (q.2.1 k).2.2.1 = some (ty k)) ∧ ∀ k, k < q.2.2 → defaultValue (ty k) = vp_V (pm_df c) k
theorem pm_cls_ok {c : Nat} {q : vw_C} (hq : vwCl[c]? = some q) (h3 : 3 ≤ c) : pm_cok c q := by
  match c, hq, h3 with
  | 3, hq, _ => cases hq; exact ⟨rfl, pm_lay3, nmX0, pm_fi3, rfl, tyX0, tyX0_ok, pm_df3⟩
  | 4, hq, _ => cases hq; exact ⟨rfl, pm_lay4, nmX1, pm_fi4, rfl, tyX1, tyX1_ok, pm_df4⟩
  | 5, hq, _ => cases hq; exact ⟨rfl, pm_lay5, nmX2, pm_fi5, rfl, tyX2, tyX2_ok, pm_df5⟩
  | 6, hq, _ => cases hq; exact ⟨rfl, pm_lay6, nmX3, pm_fi6, rfl, tyX3, tyX3_ok, pm_df6⟩
  | 7, hq, _ => cases hq; exact ⟨rfl, pm_lay7, nmX4, pm_fi7, rfl, tyX4, tyX4_ok, pm_df7⟩
  | 8, hq, _ => cases hq; exact ⟨rfl, pm_lay8, nmX5, pm_fi8, rfl, tyX5, tyX5_ok, pm_df8⟩
  | 9, hq, _ => cases hq; exact ⟨rfl, pm_lay9, nmX6, pm_fi9, rfl, tyX6, tyX6_ok, pm_df9⟩
  | 10, hq, _ => cases hq; exact ⟨rfl, pm_lay10, nmX7, pm_fi10, rfl, tyX7, tyX7_ok, pm_df10⟩
  | 11, hq, _ => cases hq; exact ⟨rfl, pm_lay11, nmX8, pm_fi11, rfl, tyX8, tyX8_ok, pm_df11⟩
  | 12, hq, _ => cases hq; exact ⟨rfl, pm_lay12, nmX9, pm_fi12, rfl, tyX9, tyX9_ok, pm_df12⟩
  | 13, hq, _ => cases hq; exact ⟨rfl, pm_lay13, nmX10, pm_fi13, rfl, tyX10, tyX10_ok, pm_df13⟩
  | 14, hq, _ => cases hq; exact ⟨rfl, pm_lay14, nmX11, pm_fi14, rfl, tyX11, tyX11_ok, pm_df14⟩
  | 15, hq, _ => cases hq; exact ⟨rfl, pm_lay15, nmX12, pm_fi15, rfl, tyX12, tyX12_ok, pm_df15⟩
  | n + 16, hq, _ => simp [vwCl] at hq
theorem pm_ft3 : pm_ft.all (fun e => decide (3 ≤ e.2.1)) = true := by decide +kernel
theorem pm_fld_ok {own idx c k : Nat} (h : pm_fld own idx = some (c, k)) : ∃ q : vw_C, vwCl[c]? = some q ∧ pm_cok c q ∧ k < q.2.2 ∧ (q.2.1 k).1 = q.1 ∧ Jvm.Cond.fieldLink (pm_cn own) idx q.1 (q.2.1 k).2.1 (q.2.1 k).2.2.1 ∈ pm_ws := by
  obtain ⟨⟨⟨o1, i1⟩, ⟨c1, k1⟩⟩, hm, hf, hr⟩ := pm_find h
  simp only [Bool.and_eq_true, beq_iff_eq] at hf
  obtain ⟨rfl, rfl⟩ := hf
  simp only [Prod.mk.injEq] at hr
  obtain ⟨rfl, rfl⟩ := hr
  have h3 := List.all_eq_true.mp pm_ft3 _ hm
  have h1 := List.all_eq_true.mp pm_ft_ok _ hm
  have hw := pm_ft_in _ (List.mem_map.mpr ⟨_, hm, rfl⟩)
  simp only [decide_eq_true_eq] at h3
  unfold pm_ftw at hw
  cases hq : vwCl[c1]? with
  | none => simp only [hq] at h1; cases h1
  | some q =>
    simp only [hq, Bool.and_eq_true, decide_eq_true_eq] at h1 hw
    have hc := pm_cls_ok hq h3
    exact ⟨q, rfl, hc, h1.1.2, by rw [h1.2, hc.1], by rw [hc.1]; exact hw⟩
theorem pm_new_ok {own idx c : Nat} (h : pm_new own idx = some c) : ∃ q : vw_C, vwCl[c]? = some q ∧ pm_cok c q ∧ Jvm.Cond.classLink (pm_cn own) idx q.1 ∈ pm_ws ∧ Jvm.Cond.instantiable q.1 q.2.2 ∈ pm_ws ∧ Jvm.Cond.initialized q.1 ∈ pm_ws := by
  obtain ⟨⟨⟨o1, i1⟩, c1⟩, hm, hf, hr⟩ := pm_find h
  simp only [Bool.and_eq_true, beq_iff_eq] at hf
  obtain ⟨rfl, rfl⟩ := hf
  subst hr
  have hc : 3 ≤ c1 ∧ c1 < 16 := by
    have h9 : pm_nt.all (fun e => decide (3 ≤ e.2) && decide (e.2 < 16)) = true := by decide +kernel
    have := List.all_eq_true.mp h9 _ hm
    simpa using this
  have hw : ∀ w ∈ pm_ntw ((o1, i1), c1), w ∈ pm_ws := fun w hw => pm_nt_in w (List.mem_flatMap.mpr ⟨_, hm, hw⟩)
  cases hq : vwCl[c1]? with
  | none =>
    have : vwCl.length ≤ c1 := by simpa using hq
    simp [vwCl] at this
    omega
  | some q =>
    have hk := pm_cls_ok hq hc.1
    refine ⟨q, rfl, hk, ?_, ?_, ?_⟩
    · rw [hk.1]; exact hw _ (by simp [pm_ntw])
    · rw [hk.1, ← hk.2.2.2.2.1]; exact hw _ (by simp [pm_ntw])
    · rw [hk.1]; exact hw _ (by simp [pm_ntw])
theorem pm_num_ok {own idx : Nat} {v : Int32} (h : pm_num own idx = some v) : Jvm.Cond.constant (pm_cn own) idx v ∈ pm_ws := by
  obtain ⟨⟨⟨o1, i1⟩, c1⟩, hm, hf, hr⟩ := pm_find h
  simp only [Bool.and_eq_true, beq_iff_eq] at hf
  obtain ⟨rfl, rfl⟩ := hf
  subst hr
  exact pm_it_in _ (List.mem_map.mpr ⟨_, hm, rfl⟩)
theorem pm_mth_ok {own idx k y : Nat} (h : pm_mth own idx = some (k, y)) : ((own, idx), (k, y)) ∈ pm_mt := by
  obtain ⟨⟨⟨o1, i1⟩, ⟨c1, k1⟩⟩, hm, hf, hr⟩ := pm_find h
  simp only [Bool.and_eq_true, beq_iff_eq] at hf
  obtain ⟨rfl, rfl⟩ := hf
  simp only [Prod.mk.injEq] at hr
  obtain ⟨rfl, rfl⟩ := hr
  exact hm
theorem pm_link {own idx k y : Nat} (h : pm_mth own idx = some (k, y)) (hk : k ≠ 3) : pm_mtw ((own, idx), (k, y)) ∈ pm_ws :=
  pm_mt_in _ (List.mem_map.mpr ⟨_, List.mem_filter.mpr ⟨pm_mth_ok h, by simp [hk]⟩, rfl⟩)

