theorem q_div {a b : Int} (ha : q_R a) (hb : q_R b) (h0 : 0 ≤ a) (h1 : 0 < b) : q_I a / q_I b = q_I (a / b) := by
  rw [← Int32.toInt_inj, Int32.toInt_div, q_toI ha, q_toI hb, Int.tdiv_eq_ediv_of_nonneg h0]
  have h2 : 0 ≤ a / b := Int.ediv_nonneg h0 (by omega)
  have h3 : a / b ≤ a := Int.ediv_le_self _ h0
  rw [q_toI ⟨by omega, by omega⟩]
  exact Int.bmod_eq_of_le (by omega) (by omega)
theorem q_rem {a b : Int} (ha : q_R a) (hb : q_R b) (h0 : 0 ≤ a) (h1 : 0 < b) : q_I a - q_I a / q_I b * q_I b = q_I (a % b) := by
  rw [q_div ha hb h0 h1]
  rw [show a % b = a - a / b * b by have := Int.emod_add_mul_ediv a b; rw [Int.mul_comm] at this; omega]
  simp only [q_I, Int32.ofInt_sub, Int32.ofInt_mul]
theorem q_i64 {x : Int} (h : q_R x) : (q_I x).toInt64 = Int64.ofInt x := Int32.toInt64_ofInt h.1 h.2
theorem q_lcmp_ok {a b : Int} (ha : q_R a) (hb : q_R b) : lg_cmp (Int64.ofInt a) (Int64.ofInt b) = q_I (if b < a then 1 else if a = b then 0 else -1) := by
  have ea : (Int64.ofInt a).toInt = a := Int64.toInt_ofInt_of_le (by have := ha.1; omega) (by have := ha.2; omega)
  have eb : (Int64.ofInt b).toInt = b := Int64.toInt_ofInt_of_le (by have := hb.1; omega) (by have := hb.2; omega)
  unfold lg_cmp
  simp only [gt_iff_lt, Int64.lt_iff_toInt_lt, ← Int64.toInt_inj, ea, eb]
  split
  · rfl
  · split <;> rfl
section QA
theorem q_iconst (n : Int) : q_A (.iconst n) := by
  intro N h0 sc y pc ls st u bb σ M hN hl hs hσ h
  exact ⟨(q_push_ok (h0 := h0) (bb := bb) hl hs hσ h).1, (q_push_ok (h0 := h0) (bb := bb) hl hs hσ h).2.1⟩
theorem q_bipush (n : Int) : q_A (.bipush n) := by
  intro N h0 sc y pc ls st u bb σ M hN hl hs hσ h
  simp only [q_act] at h
  split at h
  · rename_i hr
    cases h
    refine ⟨?_, hl, List.forall_mem_cons.mpr ⟨⟨by omega, by omega⟩, hs⟩, hσ⟩
    simp only [pm_act]
    rw [show (Int8.ofInt n).toInt32 = q_I n from (by rw [show (Int8.ofInt n).toInt32 = Int32.ofInt (Int8.ofInt n).toInt from rfl, Int8.toInt_ofInt_of_le (by omega) (by omega)])]
    rfl
  · cases h
theorem q_sipush (n : Int) : q_A (.sipush n) := by
  intro N h0 sc y pc ls st u bb σ M hN hl hs hσ h
  simp only [q_act] at h
  split at h
  · rename_i hr
    cases h
    refine ⟨?_, hl, List.forall_mem_cons.mpr ⟨⟨by omega, by omega⟩, hs⟩, hσ⟩
    simp only [pm_act]
    rw [show (Int16.ofInt n).toInt32 = q_I n from (by rw [show (Int16.ofInt n).toInt32 = Int32.ofInt (Int16.ofInt n).toInt from rfl, Int16.toInt_ofInt_of_le (by omega) (by omega)])]
    rfl
  · cases h
theorem q_ldc (idx : Nat) : q_A (.ldc idx) := by
  intro N h0 sc y pc ls st u bb σ M hN hl hs hσ h
  simp only [q_act] at h
  simp only [pm_act]
  split at h
  · rename_i v _ hv
    cases h
    simp only [hv]
    exact ⟨by simp only [q_Nn, List.map_cons, q_v, q_I_toInt], hl, List.forall_mem_cons.mpr ⟨q_R_toInt _, hs⟩, hσ⟩
  · rename_i j hn hj
    cases h
    simp only [hn, hj]
    exact ⟨rfl, hl, List.forall_mem_cons.mpr ⟨Or.inr (by omega), hs⟩, hσ⟩
  · cases h
theorem q_ldc_w (idx : Nat) : q_A (.ldc_w idx) := by
  intro N h0 sc y pc ls st u bb σ M hN hl hs hσ h
  simp only [q_act] at h
  simp only [pm_act]
  split at h
  · rename_i v _ hv
    cases h
    simp only [hv]
    exact ⟨by simp only [q_Nn, List.map_cons, q_v, q_I_toInt], hl, List.forall_mem_cons.mpr ⟨q_R_toInt _, hs⟩, hσ⟩
  · rename_i j hn hj
    cases h
    simp only [hn, hj]
    exact ⟨rfl, hl, List.forall_mem_cons.mpr ⟨Or.inr (by omega), hs⟩, hσ⟩
  · cases h
theorem q_iload (k : Nat) : q_A (.iload k) := by
  intro N h0 sc y pc ls st u bb σ M hN hl hs hσ h
  simp only [q_act] at h
  split at h
  · rename_i x hx
    cases h
    simp only [pm_act, q_lget hx, q_v]
    exact ⟨rfl, hl, List.forall_mem_cons.mpr ⟨q_mem hl hx, hs⟩, hσ⟩
  · cases h
theorem q_iload_n (k : Fin 4) : q_A (.iload_n k) := by
  intro N h0 sc y pc ls st u bb σ M hN hl hs hσ h
  simp only [q_act] at h
  split at h
  · rename_i x hx
    cases h
    simp only [pm_act, q_lget hx, q_v]
    exact ⟨rfl, hl, List.forall_mem_cons.mpr ⟨q_mem hl hx, hs⟩, hσ⟩
  · cases h
theorem q_aload (k : Nat) : q_A (.aload k) := by
  intro N h0 sc y pc ls st u bb σ M hN hl hs hσ h
  simp only [q_act] at h
  split at h
  · rename_i x hx
    cases h
    simp only [pm_act, q_lget hx, q_v]
    exact ⟨rfl, hl, List.forall_mem_cons.mpr ⟨q_mem hl hx, hs⟩, hσ⟩
  · cases h
theorem q_aload_n (k : Fin 4) : q_A (.aload_n k) := by
  intro N h0 sc y pc ls st u bb σ M hN hl hs hσ h
  simp only [q_act] at h
  split at h
  · rename_i x hx
    cases h
    simp only [pm_act, q_lget hx, q_v]
    exact ⟨rfl, hl, List.forall_mem_cons.mpr ⟨q_mem hl hx, hs⟩, hσ⟩
  · cases h
theorem q_istore (k : Nat) : q_A (.istore k) := by
  intro N h0 sc y pc ls st u bb σ M hN hl hs hσ h
  simp only [q_act] at h
  split at h
  · split at h
    · rename_i hk
      cases h
      rw [List.forall_mem_cons] at hs
      simp only [pm_act, List.map_cons, q_v, List.length_map, if_pos hk]
      exact ⟨by simp only [q_Nn, q_lset, q_v], q_set hl hs.1, hs.2, hσ⟩
    · cases h
  · cases h
theorem q_istore_n (k : Fin 4) : q_A (.istore_n k) := by
  intro N h0 sc y pc ls st u bb σ M hN hl hs hσ h
  simp only [q_act] at h
  split at h
  · split at h
    · rename_i hk
      cases h
      rw [List.forall_mem_cons] at hs
      simp only [pm_act, List.map_cons, q_v, List.length_map, if_pos hk]
      exact ⟨by simp only [q_Nn, q_lset, q_v], q_set hl hs.1, hs.2, hσ⟩
    · cases h
  · cases h
theorem q_astore (k : Nat) : q_A (.astore k) := by
  intro N h0 sc y pc ls st u bb σ M hN hl hs hσ h
  simp only [q_act] at h
  split at h
  · split at h
    · rename_i hk
      cases h
      rw [List.forall_mem_cons] at hs
      simp only [pm_act, List.map_cons, q_v, List.length_map, if_pos hk]
      exact ⟨by simp only [q_Nn, q_lset, q_v], q_set hl hs.1, hs.2, hσ⟩
    · cases h
  · cases h
theorem q_astore_n (k : Fin 4) : q_A (.astore_n k) := by
  intro N h0 sc y pc ls st u bb σ M hN hl hs hσ h
  simp only [q_act] at h
  split at h
  · split at h
    · rename_i hk
      cases h
      rw [List.forall_mem_cons] at hs
      simp only [pm_act, List.map_cons, q_v, List.length_map, if_pos hk]
      exact ⟨by simp only [q_Nn, q_lset, q_v], q_set hl hs.1, hs.2, hσ⟩
    · cases h
  · cases h
theorem q_iinc (k : Nat) (n : Int) : q_A (.iinc k n) := by
  intro N h0 sc y pc ls st u bb σ M hN hl hs hσ h
  simp only [q_act] at h
  split at h
  · rename_i x hx
    split at h
    · rename_i hr
      cases h
      simp only [pm_act, q_lget hx, q_v]
      exact ⟨by simp only [q_Nn, q_lset, q_v, q_I, Int32.ofInt_add], q_set hl hr, hs, hσ⟩
    · cases h
  · cases h
theorem q_iadd : q_A (.iadd) := by
  intro N h0 sc y pc ls st u bb σ M hN hl hs hσ h
  simp only [q_act] at h
  split at h
  · rename_i b a st0
    rw [List.forall_mem_cons, List.forall_mem_cons] at hs
    obtain ⟨h1, h2, -⟩ := q_push_ok (h0 := h0) (bb := bb) hl hs.2.2 hσ h
    refine ⟨?_, h2⟩
    rw [← h1]
    simp only [pm_act, List.map_cons, q_v, q_I, Int32.ofInt_add]
  · cases h
theorem q_isub : q_A (.isub) := by
  intro N h0 sc y pc ls st u bb σ M hN hl hs hσ h
  simp only [q_act] at h
  split at h
  · rename_i b a st0
    rw [List.forall_mem_cons, List.forall_mem_cons] at hs
    obtain ⟨h1, h2, -⟩ := q_push_ok (h0 := h0) (bb := bb) hl hs.2.2 hσ h
    refine ⟨?_, h2⟩
    rw [← h1]
    simp only [pm_act, List.map_cons, q_v, q_I, Int32.ofInt_sub]
  · cases h
theorem q_imul : q_A (.imul) := by
  intro N h0 sc y pc ls st u bb σ M hN hl hs hσ h
  simp only [q_act] at h
  split at h
  · rename_i b a st0
    rw [List.forall_mem_cons, List.forall_mem_cons] at hs
    obtain ⟨h1, h2, -⟩ := q_push_ok (h0 := h0) (bb := bb) hl hs.2.2 hσ h
    refine ⟨?_, h2⟩
    rw [← h1]
    simp only [pm_act, List.map_cons, q_v, q_I, Int32.ofInt_mul]
  · cases h
theorem q_idiv : q_A (.idiv) := by
  intro N h0 sc y pc ls st u bb σ M hN hl hs hσ h
  simp only [q_act] at h
  split at h
  · rename_i b a st0
    rw [List.forall_mem_cons, List.forall_mem_cons] at hs
    obtain ⟨hb, ha, hs⟩ := hs
    split at h
    · rename_i hp
      obtain ⟨h1, h2, -⟩ := q_push_ok (h0 := h0) (bb := bb) hl hs hσ h
      refine ⟨?_, h2⟩
      rw [← h1]
      have hb0 : ¬ q_I b = 0 := by rw [q_I0, q_eq hb q_R0]; omega
      simp only [pm_act, List.map_cons, q_v, if_neg hb0, q_div ha hb hp.1 hp.2]
    · cases h
  · cases h
theorem q_irem : q_A (.irem) := by
  intro N h0 sc y pc ls st u bb σ M hN hl hs hσ h
  simp only [q_act] at h
  split at h
  · rename_i b a st0
    rw [List.forall_mem_cons, List.forall_mem_cons] at hs
    obtain ⟨hb, ha, hs⟩ := hs
    split at h
    · rename_i hp
      obtain ⟨h1, h2, -⟩ := q_push_ok (h0 := h0) (bb := bb) hl hs hσ h
      refine ⟨?_, h2⟩
      rw [← h1]
      have hb0 : ¬ q_I b = 0 := by rw [q_I0, q_eq hb q_R0]; omega
      simp only [pm_act, List.map_cons, q_v, if_neg hb0, q_rem ha hb hp.1 hp.2]
    · cases h
  · cases h
theorem q_iand : q_A (.iand) := by
  intro N h0 sc y pc ls st u bb σ M hN hl hs hσ h
  simp only [q_act] at h
  split at h
  · cases h
    rw [List.forall_mem_cons, List.forall_mem_cons] at hs
    exact ⟨by simp only [pm_act, List.map_cons, q_v, q_Nn, q_I_toInt], hl, List.forall_mem_cons.mpr ⟨q_R_toInt _, hs.2.2⟩, hσ⟩
  · cases h
theorem q_ior : q_A (.ior) := by
  intro N h0 sc y pc ls st u bb σ M hN hl hs hσ h
  simp only [q_act] at h
  split at h
  · cases h
    rw [List.forall_mem_cons, List.forall_mem_cons] at hs
    exact ⟨by simp only [pm_act, List.map_cons, q_v, q_Nn, q_I_toInt], hl, List.forall_mem_cons.mpr ⟨q_R_toInt _, hs.2.2⟩, hσ⟩
  · cases h
theorem q_ishl : q_A (.ishl) := by
  intro N h0 sc y pc ls st u bb σ M hN hl hs hσ h
  simp only [q_act] at h
  split at h
  · cases h
    rw [List.forall_mem_cons, List.forall_mem_cons] at hs
    exact ⟨by simp only [pm_act, List.map_cons, q_v, q_Nn, q_I_toInt], hl, List.forall_mem_cons.mpr ⟨q_R_toInt _, hs.2.2⟩, hσ⟩
  · cases h
theorem q_ishr : q_A (.ishr) := by
  intro N h0 sc y pc ls st u bb σ M hN hl hs hσ h
  simp only [q_act] at h
  split at h
  · cases h
    rw [List.forall_mem_cons, List.forall_mem_cons] at hs
    exact ⟨by simp only [pm_act, List.map_cons, q_v, q_Nn, q_I_toInt], hl, List.forall_mem_cons.mpr ⟨q_R_toInt _, hs.2.2⟩, hσ⟩
  · cases h
theorem q_iushr : q_A (.iushr) := by
  intro N h0 sc y pc ls st u bb σ M hN hl hs hσ h
  simp only [q_act] at h
  split at h
  · cases h
    rw [List.forall_mem_cons, List.forall_mem_cons] at hs
    exact ⟨by simp only [pm_act, List.map_cons, q_v, q_Nn, q_I_toInt], hl, List.forall_mem_cons.mpr ⟨q_R_toInt _, hs.2.2⟩, hσ⟩
  · cases h
theorem q_ineg : q_A (.ineg) := by
  intro N h0 sc y pc ls st u bb σ M hN hl hs hσ h
  simp only [q_act] at h
  split at h
  · rename_i a st0
    rw [List.forall_mem_cons] at hs
    obtain ⟨h1, h2, -⟩ := q_push_ok (h0 := h0) (bb := bb) hl hs.2 hσ h
    refine ⟨?_, h2⟩
    rw [← h1]
    simp only [pm_act, List.map_cons, q_v, q_I, Int32.ofInt_neg]
  · cases h
theorem q_i2b : q_A (.i2b) := by
  intro N h0 sc y pc ls st u bb σ M hN hl hs hσ h
  simp only [q_act] at h
  split at h
  · cases h
    rw [List.forall_mem_cons] at hs
    exact ⟨by simp only [pm_act, List.map_cons, q_v, q_Nn, q_I_toInt], hl, List.forall_mem_cons.mpr ⟨q_R_toInt _, hs.2⟩, hσ⟩
  · cases h
theorem q_i2l : q_A (.i2l) := by
  intro N h0 sc y pc ls st u bb σ M hN hl hs hσ h
  simp only [q_act] at h
  split at h
  · rename_i a st0
    cases h
    rw [List.forall_mem_cons] at hs
    exact ⟨by simp only [pm_act, List.map_cons, q_v, q_Nn, q_i64 hs.1], hl, List.forall_mem_cons.mpr ⟨hs.1, hs.2⟩, hσ⟩
  · cases h
theorem q_lcmp : q_A (.lcmp) := by
  intro N h0 sc y pc ls st u bb σ M hN hl hs hσ h
  simp only [q_act] at h
  split at h
  · rename_i b a st0
    cases h
    rw [List.forall_mem_cons, List.forall_mem_cons] at hs
    refine ⟨?_, hl, List.forall_mem_cons.mpr ⟨?_, hs.2.2⟩, hσ⟩
    · simp only [pm_act, List.map_cons, q_v, q_Nn, q_lcmp_ok hs.2.1 hs.1]
    · show q_R _
      split
      · decide
      · split <;> decide
  · cases h
theorem q_dup : q_A (.dup) := by
  intro N h0 sc y pc ls st u bb σ M hN hl hs hσ h
  simp only [q_act] at h
  split at h
  · rename_i v st0
    split at h
    · rename_i hc
      cases h
      simp only [pm_act, List.map_cons, q_cat_ok, if_pos hc]
      exact ⟨rfl, hl, List.forall_mem_cons.mpr ⟨hs v List.mem_cons_self, hs⟩, hσ⟩
    · cases h
  · cases h
theorem q_dup2 : q_A (.dup2) := by
  intro N h0 sc y pc ls st u bb σ M hN hl hs hσ h
  simp only [q_act] at h
  split at h
  · rename_i v w st0
    split at h
    · rename_i hc
      cases h
      simp only [pm_act, List.map_cons, q_cat_ok, if_pos hc]
      exact ⟨rfl, hl, List.forall_mem_cons.mpr ⟨hs v List.mem_cons_self, List.forall_mem_cons.mpr ⟨hs w (List.mem_cons_of_mem _ List.mem_cons_self), hs⟩⟩, hσ⟩
    · cases h
  · cases h
theorem q_pop : q_A (.pop) := by
  intro N h0 sc y pc ls st u bb σ M hN hl hs hσ h
  simp only [q_act] at h
  split at h
  · rename_i v st0
    split at h
    · rename_i hc
      cases h
      simp only [pm_act, List.map_cons, q_cat_ok, if_pos hc]
      exact ⟨rfl, hl, (List.forall_mem_cons.mp hs).2, hσ⟩
    · cases h
  · cases h
theorem q_goto (off : Int) : q_A (.goto off) := by
  intro N h0 sc y pc ls st u bb σ M hN hl hs hσ h
  exact q_go_ok hl hs hσ h
theorem q_ifCond (c : Jvm.ClassFile.Cond) (off : Int) : q_A (.ifCond c off) := by
  intro N h0 sc y pc ls st u bb σ M hN hl hs hσ h
  simp only [q_act] at h
  split at h
  · rename_i x st0
    rw [List.forall_mem_cons] at hs
    split at h
    · rename_i ho
      simp only [pm_act, List.map_cons, q_v, if_pos ho, q_I0, q_cmp_ok hs.1 q_R0]
      split at h
      · rename_i hc
        rw [if_pos hc]
        exact q_go_ok hl hs.2 hσ h
      · rename_i hc
        rw [if_neg hc]
        cases h
        exact ⟨rfl, hl, hs.2, hσ⟩
    · cases h
  · cases h
theorem q_if_icmp (c : Jvm.ClassFile.Cond) (off : Int) : q_A (.if_icmp c off) := by
  intro N h0 sc y pc ls st u bb σ M hN hl hs hσ h
  simp only [q_act] at h
  split at h
  · rename_i b a st0
    rw [List.forall_mem_cons, List.forall_mem_cons] at hs
    split at h
    · rename_i ho
      simp only [pm_act, List.map_cons, q_v, if_pos ho, q_cmp_ok hs.2.1 hs.1]
      split at h
      · rename_i hc
        rw [if_pos hc]
        exact q_go_ok hl hs.2.2 hσ h
      · rename_i hc
        rw [if_neg hc]
        cases h
        exact ⟨rfl, hl, hs.2.2, hσ⟩
    · cases h
  · cases h
theorem q_tableswitch (d lo hi : Int) (offs : Array Int) : q_A (.tableswitch d lo hi offs) := by
  intro N h0 sc y pc ls st u bb σ M hN hl hs hσ h
  simp only [q_act] at h
  split at h
  · rename_i x st0
    rw [List.forall_mem_cons] at hs
    simp only [pm_act, List.map_cons, q_v, q_toI hs.1]
    split at h
    · rename_i hc
      rw [if_pos hc]
      exact q_go_ok hl hs.2 hσ h
    · rename_i hc
      rw [if_neg hc]
      split at h
      · rename_i off ho
        rw [ho]
        exact q_go_ok hl hs.2 hσ h
      · cases h
  · cases h
theorem q_lookupswitch (d : Int) (ps : Array (Int × Int)) : q_A (.lookupswitch d ps) := by
  intro N h0 sc y pc ls st u bb σ M hN hl hs hσ h
  simp only [q_act] at h
  split at h
  · rename_i x st0
    rw [List.forall_mem_cons] at hs
    simp only [pm_act, List.map_cons, q_v, q_toI hs.1]
    split at h
    · rename_i hc
      rw [if_pos hc]
      exact q_go_ok hl hs.2 hσ h
    · cases h
  · cases h
end QA
