/-! lists of versions in the class -/
abbrev v_fol (x : VR) : Prop := x.1.2.1 = 2 ∨ x.1.2.1 = 3 ∨ x.1.2.1 = 4 ∨ (x.1.2.1 = 1 ∧ x.2.1.1 = 1)
def VRokC (r : St) (i : Int) (x : VR) : Prop := RAW r i x.1.1 x.1.2.1 x.1.2.2.1 x.1.2.2.2.1 x.1.2.2.2.2 x.2.2.1 x.2.2.2.1 x.2.2.2.2 (if v_fol x then r 16 x.1.2.2.2.1 else i) (if v_fol x then r 17 x.1.2.2.2.1 + x.2.2.1 else 0) ∧ (v_fol x → 0 ≤ x.1.2.2.2.1 ∧ x.1.2.2.2.1 < i)
def MRokC (r : St) (i : Int) (x : MR) : Prop := (¬ x.1 = -1 → r 30 i = x.1) ∧ (¬ x.2.1.1 = -1 → (r 31 i = x.2.1.1 ∧ r 32 i = x.2.1.2) ∧ (r 33 i = x.2.2.1.1 ∧ r 34 i = x.2.2.1.2.1 ∧ r 35 i = x.2.2.1.2.2) ∧ r 37 i = x.2.2.2.1 ∧ r 38 i = x.2.2.2.2)
def NCokC (r : St) (i : Int) (x : NC) : Prop := r 28 i = x.1 ∧ r 29 i = x.2.1
/-- what stays -/
def NBl (v s k : Int) (dep : Nat) (a : Nat) (i : Int) : Prop := (10 ≤ a ∧ a ≤ 26 ∧ i < v) ∨ (30 ≤ a ∧ a ≤ 38 ∧ i < s) ∨ (28 ≤ a ∧ a ≤ 29 ∧ i < k) ∨ (42 ≤ a ∧ a < 42 + dep ∧ a ≤ 47) ∨ (49 ≤ a ∧ a < 49 + dep ∧ a ≤ 54) ∨ a < 9 ∨ a = 27 ∨ a = 39 ∨ 55 ≤ a
def IVN (v s k : Int) (dep : Nat) (r r' : St) : Prop := ∀ a i, NBl v s k dep a i → r' a i = r a i
def INN (r : St) (v : Int) : Prop := r 9 0 = v ∧ 8 ≤ v ∧ (∀ i, 0 ≤ i → i ≤ 7 → 0 ≤ r 40 i ∧ r 40 i < v) ∧ (∀ i, 0 ≤ i → i < v → -99 * i ≤ r 17 i ∧ r 17 i ≤ 99 * i)
def VOC (r r' : St) (v s k : Int) (dep : Nat) (o : NO) : Prop := TAB (VRokC r') v o.2.1 ∧ TAB (MRokC r') s o.2.2.1 ∧ TAB (NCokC r') k o.2.2.2.1 ∧ nz (r' 40) = o.1 ∧ IVN v s k dep r r' ∧ INN r' (v + o.2.1.length)
section NUF
variable {C r r' r1 r2 : St} {i v s k v' s' k' x n fr how : Int} {dep : Nat} {o o' : NO} {now : Int → Int}
theorem NBl_up (hv : v ≤ v') (hs : s ≤ s') (hk : k ≤ k') {a : Nat} (h : NBl v s k dep a i) : NBl v' s' k' dep a i := by
  unfold NBl at *
  omega
theorem NBl_v (h : i < v) {a : Nat} (ha : 10 ≤ a ∧ a ≤ 26) : NBl v s k dep a i := by unfold NBl; omega
theorem NBl_s (h : i < s) {a : Nat} (ha : 30 ≤ a ∧ a ≤ 38) : NBl v s k dep a i := by unfold NBl; omega
theorem NBl_k (h : i < k) {a : Nat} (ha : 28 ≤ a ∧ a ≤ 29) : NBl v s k dep a i := by unfold NBl; omega
theorem IVN_trans (h1 : IVN v s k dep r r1) (h2 : IVN v' s' k' dep r1 r2) (hv : v ≤ v') (hs : s ≤ s') (hk : k ≤ k') : IVN v s k dep r r2 := fun a i h => by
  rw [h2 a i (NBl_up hv hs hk h), h1 a i h]
theorem IVN_refl : IVN v s k dep r r := fun _ _ _ => rfl
theorem VRokC_of {y : VR} (h : VRokC r i y) (he : ∀ a j, 10 ≤ a ∧ a ≤ 26 → j ≤ i → r' a j = r a j) : VRokC r' i y := by
  unfold VRokC at *
  obtain ⟨h1, h2⟩ := h
  refine ⟨?_, h2⟩
  by_cases hf : v_fol y
  · obtain ⟨f1, f2⟩ := h2 hf
    rw [if_pos hf, if_pos hf] at h1 ⊢
    rw [he 16 _ (by decide) (by omega), he 17 _ (by decide) (by omega)]
    exact RAW_of h1 (fun a ha => he a i ha (by omega))
  · rw [if_neg hf, if_neg hf] at h1 ⊢
    exact RAW_of h1 (fun a ha => he a i ha (by omega))
theorem MRokC_of {y : MR} (h : MRokC r i y) (he : ∀ a, 30 ≤ a ∧ a ≤ 38 → r' a i = r a i) : MRokC r' i y := by
  unfold MRokC at *
  rw [he 30 (by decide), he 31 (by decide), he 32 (by decide), he 33 (by decide), he 34 (by decide), he 35 (by decide), he 37 (by decide), he 38 (by decide)]
  exact h
theorem NCokC_of {y : NC} (h : NCokC r i y) (he : ∀ a, 28 ≤ a ∧ a ≤ 29 → r' a i = r a i) : NCokC r' i y := by
  unfold NCokC at *
  rw [he 28 (by decide), he 29 (by decide)]
  exact h
theorem TABv_up {L : List VR} (h : TAB (VRokC r) v L) (he : ∀ a j, 10 ≤ a ∧ a ≤ 26 → j < v + L.length → r' a j = r a j) : TAB (VRokC r') v L := TAB_mono _ _ (fun j y j1 j2 hy => VRokC_of hy (fun a i ha hi => he a i ha (by omega))) h
theorem TABm_up {L : List MR} (h : TAB (MRokC r) s L) (he : ∀ a j, 30 ≤ a ∧ a ≤ 38 → s ≤ j → j < s + L.length → r' a j = r a j) : TAB (MRokC r') s L := TAB_mono _ _ (fun j y j1 j2 hy => MRokC_of hy (fun a ha => he a j ha j1 j2)) h
theorem TABc_up {L : List NC} (h : TAB (NCokC r) k L) (he : ∀ a j, 28 ≤ a ∧ a ≤ 29 → k ≤ j → j < k + L.length → r' a j = r a j) : TAB (NCokC r') k L := TAB_mono _ _ (fun j y j1 j2 hy => NCokC_of hy (fun a ha => he a j ha j1 j2)) h
theorem VOC_app (h1 : VOC r r1 v s k dep o) (h2 : VOC r1 r2 (v + o.2.1.length) (s + o.2.2.1.length) (k + o.2.2.2.1.length) dep o') : VOC r r2 v s k dep (o_app o o') := by
  obtain ⟨a1, a2, a3, a4, a5, a6⟩ := h1
  obtain ⟨b1, b2, b3, b4, b5, b6⟩ := h2
  unfold o_app
  refine ⟨(TAB_app _ _ _).mpr ⟨TABv_up a1 (fun a j ha hj => b5 a j (NBl_v hj ha)), b1⟩, (TAB_app _ _ _).mpr ⟨TABm_up a2 (fun a j ha _ hj => b5 a j (NBl_s hj ha)), b2⟩, (TAB_app _ _ _).mpr ⟨TABc_up a3 (fun a j ha _ hj => b5 a j (NBl_k hj ha)), b3⟩, b4, IVN_trans a5 b5 (by omega) (by omega) (by omega), ?_⟩
  dsimp only
  rw [List.length_append, Int.natCast_add, ← Int.add_assoc]
  exact b6
theorem VOC_nil (h : INN r v) : VOC r r v s k dep (nz (r 40), [], [], [], [], []) := ⟨trivial, trivial, trivial, rfl, IVN_refl, by simpa using h⟩
/-- a version more -/
theorem INN_add {y : VR} (h : INN r v) (hy : VRokC r' v y) (h9 : r' 9 0 = v + 1) (h40 : ∀ i, 0 ≤ i → i ≤ 7 → r' 40 i = r 40 i ∨ r' 40 i = v) (h17 : ∀ i, i < v → r' 17 i = r 17 i) (hp : v_fol y → -99 ≤ y.2.2.1 ∧ y.2.2.1 ≤ 99) : INN r' (v + 1) := by
  obtain ⟨b1, b2, b3, b4⟩ := h
  refine ⟨h9, by omega, fun i i0 i1 => ?_, fun i i0 i1 => ?_⟩
  · have := b3 i i0 i1
    have := h40 i i0 i1
    omega
  · by_cases hi : i < v
    · rw [h17 i hi]; exact b4 i i0 hi
    · have e : i = v := by omega
      subst e
      obtain ⟨⟨-, -, -, -, q⟩, q2⟩ := hy
      rw [q]
      by_cases hf : v_fol y
      · rw [if_pos hf]
        obtain ⟨f1, f2⟩ := q2 hf
        have := hp hf
        have := b4 _ f1 f2
        rw [h17 _ f2]
        omega
      · rw [if_neg hf]; omega
end NUF
