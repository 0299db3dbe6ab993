set_option maxHeartbeats 4000000 in
theorem q_all : ∀ i, q_A i := by
  intro i
  cases i <;> first
    | exact q_iconst _
    | exact q_bipush _
    | exact q_sipush _
    | exact q_ldc _
    | exact q_ldc_w _
    | exact q_iload _
    | exact q_iload_n _
    | exact q_aload _
    | exact q_aload_n _
    | exact q_istore _
    | exact q_istore_n _
    | exact q_astore _
    | exact q_astore_n _
    | exact q_iinc _ _
    | exact q_iadd
    | exact q_isub
    | exact q_imul
    | exact q_idiv
    | exact q_irem
    | exact q_iand
    | exact q_ior
    | exact q_ishl
    | exact q_ishr
    | exact q_iushr
    | exact q_ineg
    | exact q_i2b
    | exact q_i2l
    | exact q_lcmp
    | exact q_dup
    | exact q_dup2
    | exact q_pop
    | exact q_goto _
    | exact q_ifCond _ _
    | exact q_if_icmp _ _
    | exact q_tableswitch _ _ _ _
    | exact q_lookupswitch _ _
    | exact q_getfield _
    | exact q_putfield _
    | exact q_iaload
    | exact q_baload
    | exact q_laload
    | exact q_aaload
    | exact q_iastore
    | exact q_bastore
    | exact q_lastore
    | exact q_arraylength
    | exact q_new _
    | exact q_invokevirtual _
    | exact q_invokestatic _
    | exact q_ireturn
    | exact q_return_
    | (intro N h0 sc y pc ls st u bb σ M _ _ _ _ h; cases h)
