section SG
variable {base b : Nat} {sc : Nat × (Nat → Int32)} {tx : Nat → Nat} {D : va_G} {cT : Nat → ClassId} {SX : State → Heap → Prop}
theorem pm_go_end {t : Int} {ls st : List Value} {u : PU} {g : PG} {h : PH} {z : (Option Value ⊕ Nat) ⊕ (Nat × List Value × List Value)} : ¬ pm_go t ls st u g h = some (.inr z) := by
  unfold pm_go
  split <;> simp
theorem pm_call_end {y k y' pc : Nat} {ls st : List Value} {u : PU} {g : PG} {h : PH} {r0 : Option Value ⊕ Nat} : ¬ pm_call y k y' pc ls st u g h = some (.inr (.inl r0)) := by
  intro ha
  unfold pm_call at ha
  (repeat' split at ha) <;> first
    | cases ha
    | (simp only [Option.bind_eq_some_iff] at ha; obtain ⟨q, -, hq⟩ := ha; (repeat' split at hq) <;> cases hq)
set_option maxHeartbeats 4000000 in
/-- only returns and throws end a method -/
theorem pm_act_end {y pc : Nat} {i : Instr} {ls st : List Value} {u : PU} {g : PG} {h : PH} {r0 : Option Value ⊕ Nat} (ha : pm_act sc y i pc ls st u g h = some (.inr (.inl r0))) : i = .ireturn ∨ i = .return_ ∨ ∃ idx, i = .new idx := by
  unfold pm_act at ha
  split at ha <;> first
    | exact Or.inl rfl
    | exact Or.inr (Or.inl rfl)
    | exact Or.inr (Or.inr ⟨_, rfl⟩)
    | (exfalso; (repeat' split at ha) <;> first | cases ha | exact absurd ha pm_go_end | exact absurd ha pm_call_end)
set_option maxHeartbeats 4000000 in
/-- every act that goes on -/
theorem sm_all (h1 : (∀ idx, sm_A base b sc tx D cT SX (.ldc idx)) ∧ (∀ idx, sm_A base b sc tx D cT SX (.ldc_w idx))) (h2 : ∀ idx, sm_A base b sc tx D cT SX (.invokevirtual idx)) (h3 : ∀ idx k, sm_A base b sc tx D cT SX (.multianewarray idx k)) : ∀ i, sm_A base b sc tx D cT SX i := by
  intro i
  cases i with
  | iconst n => exact sm_iconst n
  | bipush n => exact sm_bipush n
  | sipush n => exact sm_sipush n
  | ldc k => exact h1.1 k
  | ldc_w k => exact h1.2 k
  | iload k => exact sm_iload k
  | iload_n k => exact sm_iload_n k
  | aload k => exact sm_aload k
  | aload_n k => exact sm_aload_n k
  | istore k => exact sm_istore k
  | istore_n k => exact sm_istore_n k
  | astore k => exact sm_astore k
  | astore_n k => exact sm_astore_n k
  | iinc k n => exact sm_iinc k n
  | iadd => exact sm_iadd
  | isub => exact sm_isub
  | imul => exact sm_imul
  | idiv => exact sm_idiv
  | irem => exact sm_irem
  | iand => exact sm_iand
  | ior => exact sm_ior
  | ishl => exact sm_ishl
  | ishr => exact sm_ishr
  | iushr => exact sm_iushr
  | ineg => exact sm_ineg
  | i2b => exact sm_i2b
  | i2l => exact sm_i2l
  | lcmp => exact sm_lcmp
  | dup => exact sm_dup
  | dup2 => exact sm_dup2
  | pop => exact sm_pop
  | goto off => exact sm_goto off
  | ifCond c0 off => cases c0 with
    | eq => exact sm_ifCond_eq off
    | ne => exact sm_ifCond_ne off
    | lt => exact sm_ifCond_lt off
    | ge => exact sm_ifCond_ge off
    | gt => exact sm_ifCond_gt off
    | le => exact sm_ifCond_le off
  | if_icmp c0 off => cases c0 with
    | eq => exact sm_if_icmp_eq off
    | ne => exact sm_if_icmp_ne off
    | lt => exact sm_if_icmp_lt off
    | ge => exact sm_if_icmp_ge off
    | gt => exact sm_if_icmp_gt off
    | le => exact sm_if_icmp_le off
  | tableswitch d lo hi offs => exact sm_tableswitch d lo hi offs
  | lookupswitch d ps => exact sm_lookupswitch d ps
  | getfield k => exact sm_getfield k
  | putfield k => exact sm_putfield k
  | iaload => exact sm_iaload
  | baload => exact sm_baload
  | laload => exact sm_laload
  | aaload => exact sm_aaload
  | iastore => exact sm_iastore
  | bastore => exact sm_bastore
  | lastore => exact sm_lastore
  | arraylength => exact sm_arraylength
  | newarray t => exact sm_newarray t
  | multianewarray k n => exact h3 k n
  | new k => exact sm_new k
  | invokevirtual k => exact h2 k
  | invokespecial k => exact sm_invokespecial k
  | invokestatic k => exact sm_invokestatic k
  | ireturn =>
    intro y d pc pc' p l e R s m args below meth c H locs Q ls ls' st st' u u' g g' h h' lsR len C I hl hd ha kk
    simp only [pm_act] at ha
    (repeat' split at ha) <;> cases ha
  | return_ =>
    intro y d pc pc' p l e R s m args below meth c H locs Q ls ls' st st' u u' g g' h h' lsR len C I hl hd ha kk
    simp only [pm_act] at ha
    (repeat' split at ha) <;> cases ha
  | _ =>
    intro y d pc pc' p l e R s m args below meth c H locs Q ls ls' st st' u u' g g' h h' lsR len C I hl hd ha kk
    simp [pm_act] at ha
end SG
