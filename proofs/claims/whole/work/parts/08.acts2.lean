section SA
variable {base b : Nat} {sc : Nat × (Nat → Int32)} {tx : Nat → Nat} {D : va_G} {cT : Nat → ClassId} {SX : State → Heap → Prop}

theorem sm_iadd : sm_A base b sc tx D cT SX .iadd := by
  intro y d pc pc' p l e R s m args below meth c H locs Q ls ls' st st' u u' g g' h h' lsR len C I hl hd ha kk
  simp only [pm_ln] at hl
  subst hl
  simp only [pm_act] at ha
  split at ha
  · simp only [Option.some.injEq, Sum.inl.injEq, Prod.mk.injEq] at ha
    obtain ⟨rfl, rfl, rfl, rfl, rfl, rfl⟩ := ha
    exact lv_iadd C.1 C.2.1 hd (kk lsR H locs I)
  · cases ha

theorem sm_isub : sm_A base b sc tx D cT SX .isub := by
  intro y d pc pc' p l e R s m args below meth c H locs Q ls ls' st st' u u' g g' h h' lsR len C I hl hd ha kk
  simp only [pm_ln] at hl
  subst hl
  simp only [pm_act] at ha
  split at ha
  · simp only [Option.some.injEq, Sum.inl.injEq, Prod.mk.injEq] at ha
    obtain ⟨rfl, rfl, rfl, rfl, rfl, rfl⟩ := ha
    exact lv_isub C.1 C.2.1 hd (kk lsR H locs I)
  · cases ha

theorem sm_imul : sm_A base b sc tx D cT SX .imul := by
  intro y d pc pc' p l e R s m args below meth c H locs Q ls ls' st st' u u' g g' h h' lsR len C I hl hd ha kk
  simp only [pm_ln] at hl
  subst hl
  simp only [pm_act] at ha
  split at ha
  · simp only [Option.some.injEq, Sum.inl.injEq, Prod.mk.injEq] at ha
    obtain ⟨rfl, rfl, rfl, rfl, rfl, rfl⟩ := ha
    exact lv_imul C.1 C.2.1 hd (kk lsR H locs I)
  · cases ha

theorem sm_iand : sm_A base b sc tx D cT SX .iand := by
  intro y d pc pc' p l e R s m args below meth c H locs Q ls ls' st st' u u' g g' h h' lsR len C I hl hd ha kk
  simp only [pm_ln] at hl
  subst hl
  simp only [pm_act] at ha
  split at ha
  · simp only [Option.some.injEq, Sum.inl.injEq, Prod.mk.injEq] at ha
    obtain ⟨rfl, rfl, rfl, rfl, rfl, rfl⟩ := ha
    exact lv_iand C.1 C.2.1 hd (kk lsR H locs I)
  · cases ha

theorem sm_ior : sm_A base b sc tx D cT SX .ior := by
  intro y d pc pc' p l e R s m args below meth c H locs Q ls ls' st st' u u' g g' h h' lsR len C I hl hd ha kk
  simp only [pm_ln] at hl
  subst hl
  simp only [pm_act] at ha
  split at ha
  · simp only [Option.some.injEq, Sum.inl.injEq, Prod.mk.injEq] at ha
    obtain ⟨rfl, rfl, rfl, rfl, rfl, rfl⟩ := ha
    exact lv_ior C.1 C.2.1 hd (kk lsR H locs I)
  · cases ha

theorem sm_ishl : sm_A base b sc tx D cT SX .ishl := by
  intro y d pc pc' p l e R s m args below meth c H locs Q ls ls' st st' u u' g g' h h' lsR len C I hl hd ha kk
  simp only [pm_ln] at hl
  subst hl
  simp only [pm_act] at ha
  split at ha
  · simp only [Option.some.injEq, Sum.inl.injEq, Prod.mk.injEq] at ha
    obtain ⟨rfl, rfl, rfl, rfl, rfl, rfl⟩ := ha
    exact lv_ishl C.1 C.2.1 hd (kk lsR H locs I)
  · cases ha

theorem sm_ishr : sm_A base b sc tx D cT SX .ishr := by
  intro y d pc pc' p l e R s m args below meth c H locs Q ls ls' st st' u u' g g' h h' lsR len C I hl hd ha kk
  simp only [pm_ln] at hl
  subst hl
  simp only [pm_act] at ha
  split at ha
  · simp only [Option.some.injEq, Sum.inl.injEq, Prod.mk.injEq] at ha
    obtain ⟨rfl, rfl, rfl, rfl, rfl, rfl⟩ := ha
    exact lv_ishr C.1 C.2.1 hd (kk lsR H locs I)
  · cases ha

theorem sm_ineg : sm_A base b sc tx D cT SX .ineg := by
  intro y d pc pc' p l e R s m args below meth c H locs Q ls ls' st st' u u' g g' h h' lsR len C I hl hd ha kk
  simp only [pm_ln] at hl
  subst hl
  simp only [pm_act] at ha
  split at ha
  · simp only [Option.some.injEq, Sum.inl.injEq, Prod.mk.injEq] at ha
    obtain ⟨rfl, rfl, rfl, rfl, rfl, rfl⟩ := ha
    exact lv_ineg C.1 C.2.1 hd (kk lsR H locs I)
  · cases ha

theorem sm_iushr : sm_A base b sc tx D cT SX .iushr := by
  intro y d pc pc' p l e R s m args below meth c H locs Q ls ls' st st' u u' g g' h h' lsR len C I hl hd ha kk
  simp only [pm_ln] at hl
  subst hl
  simp only [pm_act] at ha
  split at ha
  · simp only [Option.some.injEq, Sum.inl.injEq, Prod.mk.injEq] at ha
    obtain ⟨rfl, rfl, rfl, rfl, rfl, rfl⟩ := ha
    exact lv_iushr C.1 C.2.1 hd rfl (kk lsR H locs I)
  · cases ha

theorem sm_i2b : sm_A base b sc tx D cT SX .i2b := by
  intro y d pc pc' p l e R s m args below meth c H locs Q ls ls' st st' u u' g g' h h' lsR len C I hl hd ha kk
  simp only [pm_ln] at hl
  subst hl
  simp only [pm_act] at ha
  split at ha
  · simp only [Option.some.injEq, Sum.inl.injEq, Prod.mk.injEq] at ha
    obtain ⟨rfl, rfl, rfl, rfl, rfl, rfl⟩ := ha
    exact lv_i2b C.1 C.2.1 hd rfl (kk lsR H locs I)
  · cases ha

theorem sm_i2l : sm_A base b sc tx D cT SX .i2l := by
  intro y d pc pc' p l e R s m args below meth c H locs Q ls ls' st st' u u' g g' h h' lsR len C I hl hd ha kk
  simp only [pm_ln] at hl
  subst hl
  simp only [pm_act] at ha
  split at ha
  · simp only [Option.some.injEq, Sum.inl.injEq, Prod.mk.injEq] at ha
    obtain ⟨rfl, rfl, rfl, rfl, rfl, rfl⟩ := ha
    exact lv_i2l C.1 C.2.1 hd rfl (kk lsR H locs I)
  · cases ha

theorem sm_lcmp : sm_A base b sc tx D cT SX .lcmp := by
  intro y d pc pc' p l e R s m args below meth c H locs Q ls ls' st st' u u' g g' h h' lsR len C I hl hd ha kk
  simp only [pm_ln] at hl
  subst hl
  simp only [pm_act] at ha
  split at ha
  · simp only [Option.some.injEq, Sum.inl.injEq, Prod.mk.injEq] at ha
    obtain ⟨rfl, rfl, rfl, rfl, rfl, rfl⟩ := ha
    exact W.lcmp C.1 C.2.1 hd (kk lsR H locs I)
  · cases ha

theorem sm_idiv : sm_A base b sc tx D cT SX .idiv := by
  intro y d pc pc' p l e R s m args below meth c H locs Q ls ls' st st' u u' g g' h h' lsR len C I hl hd ha kk
  simp only [pm_ln] at hl
  subst hl
  simp only [pm_act] at ha
  split at ha
  · split at ha
    · cases ha
    · rename_i hz
      simp only [Option.some.injEq, Sum.inl.injEq, Prod.mk.injEq] at ha
      obtain ⟨rfl, rfl, rfl, rfl, rfl, rfl⟩ := ha
      exact lv_idiv C.1 C.2.1 hd hz (kk lsR H locs I)
  · cases ha

theorem sm_irem : sm_A base b sc tx D cT SX .irem := by
  intro y d pc pc' p l e R s m args below meth c H locs Q ls ls' st st' u u' g g' h h' lsR len C I hl hd ha kk
  simp only [pm_ln] at hl
  subst hl
  simp only [pm_act] at ha
  split at ha
  · split at ha
    · cases ha
    · rename_i hz
      simp only [Option.some.injEq, Sum.inl.injEq, Prod.mk.injEq] at ha
      obtain ⟨rfl, rfl, rfl, rfl, rfl, rfl⟩ := ha
      exact lv_irem C.1 C.2.1 hd hz (kk lsR H locs I)
  · cases ha

theorem sm_dup : sm_A base b sc tx D cT SX .dup := by
  intro y d pc pc' p l e R s m args below meth c H locs Q ls ls' st st' u u' g g' h h' lsR len C I hl hd ha kk
  simp only [pm_ln] at hl
  subst hl
  simp only [pm_act] at ha
  split at ha
  · split at ha
    · rename_i hz
      simp only [Option.some.injEq, Sum.inl.injEq, Prod.mk.injEq] at ha
      obtain ⟨rfl, rfl, rfl, rfl, rfl, rfl⟩ := ha
      exact lv_dup C.1 C.2.1 hd (by rw [sm_v_cat]; exact hz) (kk lsR H locs I)
    · cases ha
  · cases ha

theorem sm_pop : sm_A base b sc tx D cT SX .pop := by
  intro y d pc pc' p l e R s m args below meth c H locs Q ls ls' st st' u u' g g' h h' lsR len C I hl hd ha kk
  simp only [pm_ln] at hl
  subst hl
  simp only [pm_act] at ha
  split at ha
  · split at ha
    · rename_i hz
      simp only [Option.some.injEq, Sum.inl.injEq, Prod.mk.injEq] at ha
      obtain ⟨rfl, rfl, rfl, rfl, rfl, rfl⟩ := ha
      exact lv_pop C.1 C.2.1 hd (by rw [sm_v_cat]; exact hz) (kk lsR H locs I)
    · cases ha
  · cases ha

theorem sm_dup2 : sm_A base b sc tx D cT SX .dup2 := by
  intro y d pc pc' p l e R s m args below meth c H locs Q ls ls' st st' u u' g g' h h' lsR len C I hl hd ha kk
  simp only [pm_ln] at hl
  subst hl
  simp only [pm_act] at ha
  split at ha
  · split at ha
    · rename_i hz
      simp only [Option.some.injEq, Sum.inl.injEq, Prod.mk.injEq] at ha
      obtain ⟨rfl, rfl, rfl, rfl, rfl, rfl⟩ := ha
      exact lv_dup2_11 C.1 C.2.1 hd (by rw [sm_v_cat]; exact hz.1) (by rw [sm_v_cat]; exact hz.2) (kk lsR H locs I)
    · cases ha
  · cases ha

theorem sm_goto (off : Int) : sm_A base b sc tx D cT SX (.goto off) := by
  intro y d pc pc' p l e R s m args below meth c H locs Q ls ls' st st' u u' g g' h h' lsR len C I hl hd ha kk
  simp only [pm_ln] at hl
  subst hl
  simp only [pm_act] at ha
  obtain ⟨ht, rfl, rfl, rfl, rfl, rfl⟩ := sm_go ha
  exact lv_goto C.1 C.2.1 hd ht (kk lsR H locs I)

theorem sm_ifCond_eq (off : Int) : sm_A base b sc tx D cT SX (.ifCond .eq off) := by
  intro y d pc pc' p l e R s m args below meth c H locs Q ls ls' st st' u u' g g' h h' lsR len C I hl hd ha kk
  simp only [pm_ln] at hl
  subst hl
  simp only [pm_act] at ha
  split at ha
  · split at ha
    · rename_i h0
      split at ha
      · rename_i hz
        simp only [pm_cmp, decide_eq_true_eq] at hz
        obtain ⟨ht, rfl, rfl, rfl, rfl, rfl⟩ := sm_go ha
        exact lv_if_eq C.1 C.2.1 hd ht (fun _ => kk lsR H locs I) (fun q => absurd (by first | exact hz | exact q | exact fun z => hz z) (by first | exact q | exact hz))
      · rename_i hz
        simp only [pm_cmp, decide_eq_true_eq] at hz
        simp only [Option.some.injEq, Sum.inl.injEq, Prod.mk.injEq] at ha
        obtain ⟨rfl, rfl, rfl, rfl, rfl, rfl⟩ := ha
        exact lv_if_eq (tgt := ((pc : Int) + off).toNat) C.1 C.2.1 hd (by omega) (fun q => absurd (by first | exact q | exact hz) hz) (fun _ => kk lsR H locs I)
    · cases ha
  · cases ha

theorem sm_ifCond_ne (off : Int) : sm_A base b sc tx D cT SX (.ifCond .ne off) := by
  intro y d pc pc' p l e R s m args below meth c H locs Q ls ls' st st' u u' g g' h h' lsR len C I hl hd ha kk
  simp only [pm_ln] at hl
  subst hl
  simp only [pm_act] at ha
  split at ha
  · split at ha
    · rename_i h0
      split at ha
      · rename_i hz
        simp only [pm_cmp, decide_eq_true_eq] at hz
        obtain ⟨ht, rfl, rfl, rfl, rfl, rfl⟩ := sm_go ha
        exact lv_if_ne C.1 C.2.1 hd ht (fun _ => kk lsR H locs I) (fun q => absurd q hz)
      · rename_i hz
        simp only [pm_cmp, decide_eq_true_eq] at hz
        simp only [Option.some.injEq, Sum.inl.injEq, Prod.mk.injEq] at ha
        obtain ⟨rfl, rfl, rfl, rfl, rfl, rfl⟩ := ha
        exact lv_if_ne (tgt := ((pc : Int) + off).toNat) C.1 C.2.1 hd (by omega) (fun q => absurd (by first | exact q | exact hz) hz) (fun _ => kk lsR H locs I)
    · cases ha
  · cases ha

theorem sm_ifCond_lt (off : Int) : sm_A base b sc tx D cT SX (.ifCond .lt off) := by
  intro y d pc pc' p l e R s m args below meth c H locs Q ls ls' st st' u u' g g' h h' lsR len C I hl hd ha kk
  simp only [pm_ln] at hl
  subst hl
  simp only [pm_act] at ha
  split at ha
  · split at ha
    · rename_i h0
      split at ha
      · rename_i hz
        simp only [pm_cmp, decide_eq_true_eq] at hz
        obtain ⟨ht, rfl, rfl, rfl, rfl, rfl⟩ := sm_go ha
        exact lv_if_lt C.1 C.2.1 hd ht (fun _ => kk lsR H locs I) (fun q => absurd (by first | exact hz | exact q | exact fun z => hz z) (by first | exact q | exact hz))
      · rename_i hz
        simp only [pm_cmp, decide_eq_true_eq] at hz
        simp only [Option.some.injEq, Sum.inl.injEq, Prod.mk.injEq] at ha
        obtain ⟨rfl, rfl, rfl, rfl, rfl, rfl⟩ := ha
        exact lv_if_lt (tgt := ((pc : Int) + off).toNat) C.1 C.2.1 hd (by omega) (fun q => absurd (by first | exact q | exact hz) hz) (fun _ => kk lsR H locs I)
    · cases ha
  · cases ha

theorem sm_ifCond_ge (off : Int) : sm_A base b sc tx D cT SX (.ifCond .ge off) := by
  intro y d pc pc' p l e R s m args below meth c H locs Q ls ls' st st' u u' g g' h h' lsR len C I hl hd ha kk
  simp only [pm_ln] at hl
  subst hl
  simp only [pm_act] at ha
  split at ha
  · split at ha
    · rename_i h0
      split at ha
      · rename_i hz
        simp only [pm_cmp, decide_eq_true_eq] at hz
        obtain ⟨ht, rfl, rfl, rfl, rfl, rfl⟩ := sm_go ha
        exact lv_if_ge C.1 C.2.1 hd ht (fun _ => kk lsR H locs I) (fun q => absurd (by first | exact hz | exact q | exact fun z => hz z) (by first | exact q | exact hz))
      · rename_i hz
        simp only [pm_cmp, decide_eq_true_eq] at hz
        simp only [Option.some.injEq, Sum.inl.injEq, Prod.mk.injEq] at ha
        obtain ⟨rfl, rfl, rfl, rfl, rfl, rfl⟩ := ha
        exact lv_if_ge (tgt := ((pc : Int) + off).toNat) C.1 C.2.1 hd (by omega) (fun q => absurd (by first | exact q | exact hz) hz) (fun _ => kk lsR H locs I)
    · cases ha
  · cases ha

theorem sm_ifCond_gt (off : Int) : sm_A base b sc tx D cT SX (.ifCond .gt off) := by
  intro y d pc pc' p l e R s m args below meth c H locs Q ls ls' st st' u u' g g' h h' lsR len C I hl hd ha kk
  simp only [pm_ln] at hl
  subst hl
  simp only [pm_act] at ha
  split at ha
  · split at ha
    · rename_i h0
      split at ha
      · rename_i hz
        simp only [pm_cmp, decide_eq_true_eq] at hz
        obtain ⟨ht, rfl, rfl, rfl, rfl, rfl⟩ := sm_go ha
        exact lv_if_gt C.1 C.2.1 hd ht (fun _ => kk lsR H locs I) (fun q => absurd (by first | exact hz | exact q | exact fun z => hz z) (by first | exact q | exact hz))
      · rename_i hz
        simp only [pm_cmp, decide_eq_true_eq] at hz
        simp only [Option.some.injEq, Sum.inl.injEq, Prod.mk.injEq] at ha
        obtain ⟨rfl, rfl, rfl, rfl, rfl, rfl⟩ := ha
        exact lv_if_gt (tgt := ((pc : Int) + off).toNat) C.1 C.2.1 hd (by omega) (fun q => absurd (by first | exact q | exact hz) hz) (fun _ => kk lsR H locs I)
    · cases ha
  · cases ha

theorem sm_ifCond_le (off : Int) : sm_A base b sc tx D cT SX (.ifCond .le off) := by
  intro y d pc pc' p l e R s m args below meth c H locs Q ls ls' st st' u u' g g' h h' lsR len C I hl hd ha kk
  simp only [pm_ln] at hl
  subst hl
  simp only [pm_act] at ha
  split at ha
  · split at ha
    · rename_i h0
      split at ha
      · rename_i hz
        simp only [pm_cmp, decide_eq_true_eq] at hz
        obtain ⟨ht, rfl, rfl, rfl, rfl, rfl⟩ := sm_go ha
        exact lv_if_le C.1 C.2.1 hd ht (fun _ => kk lsR H locs I) (fun q => absurd (by first | exact hz | exact q | exact fun z => hz z) (by first | exact q | exact hz))
      · rename_i hz
        simp only [pm_cmp, decide_eq_true_eq] at hz
        simp only [Option.some.injEq, Sum.inl.injEq, Prod.mk.injEq] at ha
        obtain ⟨rfl, rfl, rfl, rfl, rfl, rfl⟩ := ha
        exact lv_if_le (tgt := ((pc : Int) + off).toNat) C.1 C.2.1 hd (by omega) (fun q => absurd (by first | exact q | exact hz) hz) (fun _ => kk lsR H locs I)
    · cases ha
  · cases ha

theorem sm_if_icmp_eq (off : Int) : sm_A base b sc tx D cT SX (.if_icmp .eq off) := by
  intro y d pc pc' p l e R s m args below meth c H locs Q ls ls' st st' u u' g g' h h' lsR len C I hl hd ha kk
  simp only [pm_ln] at hl
  subst hl
  simp only [pm_act] at ha
  split at ha
  · split at ha
    · rename_i h0
      split at ha
      · rename_i hz
        simp only [pm_cmp, decide_eq_true_eq] at hz
        obtain ⟨ht, rfl, rfl, rfl, rfl, rfl⟩ := sm_go ha
        exact lv_icmp_eq C.1 C.2.1 hd ht (fun _ => kk lsR H locs I) (fun q => absurd (by first | exact hz | exact q | exact fun z => hz z) (by first | exact q | exact hz))
      · rename_i hz
        simp only [pm_cmp, decide_eq_true_eq] at hz
        simp only [Option.some.injEq, Sum.inl.injEq, Prod.mk.injEq] at ha
        obtain ⟨rfl, rfl, rfl, rfl, rfl, rfl⟩ := ha
        exact lv_icmp_eq (tgt := ((pc : Int) + off).toNat) C.1 C.2.1 hd (by omega) (fun q => absurd (by first | exact q | exact hz) hz) (fun _ => kk lsR H locs I)
    · cases ha
  · cases ha

theorem sm_if_icmp_ne (off : Int) : sm_A base b sc tx D cT SX (.if_icmp .ne off) := by
  intro y d pc pc' p l e R s m args below meth c H locs Q ls ls' st st' u u' g g' h h' lsR len C I hl hd ha kk
  simp only [pm_ln] at hl
  subst hl
  simp only [pm_act] at ha
  split at ha
  · split at ha
    · rename_i h0
      split at ha
      · rename_i hz
        simp only [pm_cmp, decide_eq_true_eq] at hz
        obtain ⟨ht, rfl, rfl, rfl, rfl, rfl⟩ := sm_go ha
        exact lv_icmp_ne C.1 C.2.1 hd ht (fun _ => kk lsR H locs I) (fun q => absurd q hz)
      · rename_i hz
        simp only [pm_cmp, decide_eq_true_eq] at hz
        simp only [Option.some.injEq, Sum.inl.injEq, Prod.mk.injEq] at ha
        obtain ⟨rfl, rfl, rfl, rfl, rfl, rfl⟩ := ha
        exact lv_icmp_ne (tgt := ((pc : Int) + off).toNat) C.1 C.2.1 hd (by omega) (fun q => absurd (by first | exact q | exact hz) hz) (fun _ => kk lsR H locs I)
    · cases ha
  · cases ha

theorem sm_if_icmp_lt (off : Int) : sm_A base b sc tx D cT SX (.if_icmp .lt off) := by
  intro y d pc pc' p l e R s m args below meth c H locs Q ls ls' st st' u u' g g' h h' lsR len C I hl hd ha kk
  simp only [pm_ln] at hl
  subst hl
  simp only [pm_act] at ha
  split at ha
  · split at ha
    · rename_i h0
      split at ha
      · rename_i hz
        simp only [pm_cmp, decide_eq_true_eq] at hz
        obtain ⟨ht, rfl, rfl, rfl, rfl, rfl⟩ := sm_go ha
        exact lv_icmp_lt C.1 C.2.1 hd ht (fun _ => kk lsR H locs I) (fun q => absurd (by first | exact hz | exact q | exact fun z => hz z) (by first | exact q | exact hz))
      · rename_i hz
        simp only [pm_cmp, decide_eq_true_eq] at hz
        simp only [Option.some.injEq, Sum.inl.injEq, Prod.mk.injEq] at ha
        obtain ⟨rfl, rfl, rfl, rfl, rfl, rfl⟩ := ha
        exact lv_icmp_lt (tgt := ((pc : Int) + off).toNat) C.1 C.2.1 hd (by omega) (fun q => absurd (by first | exact q | exact hz) hz) (fun _ => kk lsR H locs I)
    · cases ha
  · cases ha

theorem sm_if_icmp_ge (off : Int) : sm_A base b sc tx D cT SX (.if_icmp .ge off) := by
  intro y d pc pc' p l e R s m args below meth c H locs Q ls ls' st st' u u' g g' h h' lsR len C I hl hd ha kk
  simp only [pm_ln] at hl
  subst hl
  simp only [pm_act] at ha
  split at ha
  · split at ha
    · rename_i h0
      split at ha
      · rename_i hz
        simp only [pm_cmp, decide_eq_true_eq] at hz
        obtain ⟨ht, rfl, rfl, rfl, rfl, rfl⟩ := sm_go ha
        exact lv_icmp_ge C.1 C.2.1 hd ht (fun _ => kk lsR H locs I) (fun q => absurd (by first | exact hz | exact q | exact fun z => hz z) (by first | exact q | exact hz))
      · rename_i hz
        simp only [pm_cmp, decide_eq_true_eq] at hz
        simp only [Option.some.injEq, Sum.inl.injEq, Prod.mk.injEq] at ha
        obtain ⟨rfl, rfl, rfl, rfl, rfl, rfl⟩ := ha
        exact lv_icmp_ge (tgt := ((pc : Int) + off).toNat) C.1 C.2.1 hd (by omega) (fun q => absurd (by first | exact q | exact hz) hz) (fun _ => kk lsR H locs I)
    · cases ha
  · cases ha

theorem sm_if_icmp_gt (off : Int) : sm_A base b sc tx D cT SX (.if_icmp .gt off) := by
  intro y d pc pc' p l e R s m args below meth c H locs Q ls ls' st st' u u' g g' h h' lsR len C I hl hd ha kk
  simp only [pm_ln] at hl
  subst hl
  simp only [pm_act] at ha
  split at ha
  · split at ha
    · rename_i h0
      split at ha
      · rename_i hz
        simp only [pm_cmp, decide_eq_true_eq] at hz
        obtain ⟨ht, rfl, rfl, rfl, rfl, rfl⟩ := sm_go ha
        exact lv_icmp_gt C.1 C.2.1 hd ht (fun _ => kk lsR H locs I) (fun q => absurd (by first | exact hz | exact q | exact fun z => hz z) (by first | exact q | exact hz))
      · rename_i hz
        simp only [pm_cmp, decide_eq_true_eq] at hz
        simp only [Option.some.injEq, Sum.inl.injEq, Prod.mk.injEq] at ha
        obtain ⟨rfl, rfl, rfl, rfl, rfl, rfl⟩ := ha
        exact lv_icmp_gt (tgt := ((pc : Int) + off).toNat) C.1 C.2.1 hd (by omega) (fun q => absurd (by first | exact q | exact hz) hz) (fun _ => kk lsR H locs I)
    · cases ha
  · cases ha

theorem sm_if_icmp_le (off : Int) : sm_A base b sc tx D cT SX (.if_icmp .le off) := by
  intro y d pc pc' p l e R s m args below meth c H locs Q ls ls' st st' u u' g g' h h' lsR len C I hl hd ha kk
  simp only [pm_ln] at hl
  subst hl
  simp only [pm_act] at ha
  split at ha
  · split at ha
    · rename_i h0
      split at ha
      · rename_i hz
        simp only [pm_cmp, decide_eq_true_eq] at hz
        obtain ⟨ht, rfl, rfl, rfl, rfl, rfl⟩ := sm_go ha
        exact lv_icmp_le C.1 C.2.1 hd ht (fun _ => kk lsR H locs I) (fun q => absurd (by first | exact hz | exact q | exact fun z => hz z) (by first | exact q | exact hz))
      · rename_i hz
        simp only [pm_cmp, decide_eq_true_eq] at hz
        simp only [Option.some.injEq, Sum.inl.injEq, Prod.mk.injEq] at ha
        obtain ⟨rfl, rfl, rfl, rfl, rfl, rfl⟩ := ha
        exact lv_icmp_le (tgt := ((pc : Int) + off).toNat) C.1 C.2.1 hd (by omega) (fun q => absurd (by first | exact q | exact hz) hz) (fun _ => kk lsR H locs I)
    · cases ha
  · cases ha

theorem sm_tableswitch (d0 lo hi : Int) (offs : Array Int) : sm_A base b sc tx D cT SX (.tableswitch d0 lo hi offs) := by
  intro y d pc pc' p l e R s m args below meth c H locs Q ls ls' st st' u u' g g' h h' lsR len C I hl hd ha kk
  simp only [pm_act] at ha
  split at ha
  · split at ha
    · rename_i hz
      obtain ⟨ht, rfl, rfl, rfl, rfl, rfl⟩ := sm_go ha
      exact lv_tableOut C.1 C.2.1 hd hz ht (kk lsR H locs I)
    · rename_i hz
      split at ha
      · rename_i off ho
        obtain ⟨ht, rfl, rfl, rfl, rfl, rfl⟩ := sm_go ha
        exact lv_tableIn C.1 C.2.1 hd (fun q => hz (Or.inl q)) (fun q => hz (Or.inr q)) ho ht (kk lsR H locs I)
      · cases ha
  · cases ha
theorem sm_lookupswitch (d0 : Int) (ps : Array (Int × Int)) : sm_A base b sc tx D cT SX (.lookupswitch d0 ps) := by
  intro y d pc pc' p l e R s m args below meth c H locs Q ls ls' st st' u u' g g' h h' lsR len C I hl hd ha kk
  simp only [pm_act] at ha
  split at ha
  · split at ha
    · rename_i hz
      obtain ⟨ht, rfl, rfl, rfl, rfl, rfl⟩ := sm_go ha
      exact lv_lookup C.1 C.2.1 hd hz rfl ht (kk lsR H locs I)
    · cases ha
  · cases ha
end SA
