section K_305_kM0
variable {sc : Nat × (Nat → Int32)} {D : Nat} {ls st : List V2} {u : PU} {bb : Bool} {σ : St} {Q : QP} {x i a' b' x0 x1 x2 x3 x4 x5 x20 x21 x22 x23 x24 : Int} {a b c a0 a1 a2 a3 a4 a20 a21 a22 a23 : Nat} {l0 l1 l2 l3 l4 l5 l6 l7 l8 l9 l10 l11 l12 : V2}
-- 126: RowProverModel.above(II)I
theorem k126_0 : qx sc D 126 0 [vr a, l1, l2] st u bb σ Q ↔ qx sc D 126 1 [vr a, l1, l2] (vr a :: st) u bb σ Q := r_aload_n (k := 0) (by decide +kernel) rfl
theorem k126_1 : qx sc D 126 1 ls st u bb σ Q ↔ qx sc D 126 2 ls (vi 0 :: st) u bb σ Q := r_iconst (by decide +kernel)
theorem k126_2 : qx sc D 126 2 ls (vi x :: vr 136 :: st) u bb σ Q ↔ qx sc D 126 5 ls st u bb (q_up σ 136 0 x) Q := r_putI (idx := 3) (c := 15) (k := 0) (by decide +kernel)
theorem k126_5 : qx sc D 126 5 [vr a, l1, l2] st u bb σ Q ↔ qx sc D 126 6 [vr a, l1, l2] (vr a :: st) u bb σ Q := r_aload_n (k := 0) (by decide +kernel) rfl
theorem k126_6 : qx sc D 126 6 [l0, vi x, l2] st u bb σ Q ↔ qx sc D 126 7 [l0, vi x, l2] (vi x :: st) u bb σ Q := r_iload_n (k := 1) (by decide +kernel) rfl
theorem k126_7 : qx sc (D + 1) 126 7 ls [vi x0, vr 136] (0, 0) bb σ Q ↔ qx sc D 186 0 [vr 136, vi x0] [] (0, 0) bb σ (q_kn sc (D + 1) 126 10 ls [] (0, 0) Q) := r_callv (idx := 511) (n := 1) (m := 2) (by decide +kernel) rfl (Nat.le_of_ble_eq_true rfl) ⟨Nat.le_of_ble_eq_true rfl, Nat.le_of_ble_eq_true rfl, rfl⟩ rfl
theorem k126_10 : qx sc D 126 10 ls (vi x :: st) u bb σ Q ↔ (x = 0 → qx sc D 126 13 ls st u bb σ Q) ∧ (¬ (x = 0) → qx sc D 126 45 ls st u bb σ Q) := r_if_ne (off := 35) (t := 45) (by decide +kernel)
theorem k126_13 : qx sc D 126 13 [vr a, l1, l2] st u bb σ Q ↔ qx sc D 126 14 [vr a, l1, l2] (vr a :: st) u bb σ Q := r_aload_n (k := 0) (by decide +kernel) rfl
theorem k126_14 : qx sc D 126 14 [l0, l1, vi x] st u bb σ Q ↔ qx sc D 126 15 [l0, l1, vi x] (vi x :: st) u bb σ Q := r_iload_n (k := 2) (by decide +kernel) rfl
theorem k126_15 : qx sc (D + 1) 126 15 ls [vi x0, vr 136] (0, 0) bb σ Q ↔ qx sc D 187 0 [vr 136, vi x0] [] (0, 0) bb σ (q_kn sc (D + 1) 126 18 ls [] (0, 0) Q) := r_callv (idx := 514) (n := 1) (m := 2) (by decide +kernel) rfl (Nat.le_of_ble_eq_true rfl) ⟨Nat.le_of_ble_eq_true rfl, Nat.le_of_ble_eq_true rfl, rfl⟩ rfl
theorem k126_18 : qx sc D 126 18 ls (vi x :: st) u bb σ Q ↔ (x = 0 → qx sc D 126 21 ls st u bb σ Q) ∧ (¬ (x = 0) → qx sc D 126 45 ls st u bb σ Q) := r_if_ne (off := 27) (t := 45) (by decide +kernel)
theorem k126_21 : qx sc D 126 21 [vr a, l1, l2] st u bb σ Q ↔ qx sc D 126 22 [vr a, l1, l2] (vr a :: st) u bb σ Q := r_aload_n (k := 0) (by decide +kernel) rfl
theorem k126_22 : qx sc D 126 22 [vr a, l1, l2] st u bb σ Q ↔ qx sc D 126 23 [vr a, l1, l2] (vr a :: st) u bb σ Q := r_aload_n (k := 0) (by decide +kernel) rfl
theorem k126_23 : qx sc D 126 23 ls (vr 136 :: st) u bb σ Q ↔ qx sc D 126 26 ls (vi (σ 136 13) :: st) u bb σ Q := r_getI (idx := 117) (c := 15) (k := 13) (by decide +kernel)
theorem k126_26 : qx sc D 126 26 [l0, vi x, l2] st u bb σ Q ↔ qx sc D 126 27 [l0, vi x, l2] (vi x :: st) u bb σ Q := r_iload_n (k := 1) (by decide +kernel) rfl
theorem k126_27 : qx sc D 126 27 ls (vi b' :: vi a' :: st) u bb σ Q ↔ qx sc D 126 28 ls (vi (q_I a' >>> (q_I b' &&& 31)).toInt :: st) u bb σ Q := r_ishr (by decide +kernel)
theorem k126_28 : qx sc D 126 28 ls st u bb σ Q ↔ qx sc D 126 29 ls (vi 1 :: st) u bb σ Q := r_iconst (by decide +kernel)
theorem k126_29 : qx sc D 126 29 ls (vi b' :: vi a' :: st) u bb σ Q ↔ qx sc D 126 30 ls (vi (q_I a' &&& q_I b').toInt :: st) u bb σ Q := r_iand (by decide +kernel)
theorem k126_30 : qx sc D 126 30 ls (vi x :: st) u bb σ Q ↔ (x = 0 → qx sc D 126 33 ls st u bb σ Q) ∧ (¬ (x = 0) → qx sc D 126 37 ls st u bb σ Q) := r_if_ne (off := 7) (t := 37) (by decide +kernel)
theorem k126_33 : qx sc D 126 33 ls st u bb σ Q ↔ qx sc D 126 34 ls (vi 1 :: st) u bb σ Q := r_iconst (by decide +kernel)
theorem k126_34 : qx sc D 126 34 ls st u bb σ Q ↔ qx sc D 126 38 ls st u bb σ Q := r_goto (off := 4) (by decide +kernel)
theorem k126_37 : qx sc D 126 37 ls st u bb σ Q ↔ qx sc D 126 38 ls (vi 0 :: st) u bb σ Q := r_iconst (by decide +kernel)
theorem k126_38 : qx sc D 126 38 ls st u bb σ Q ↔ qx sc D 126 39 ls (vi 2 :: st) u bb σ Q := r_iconst (by decide +kernel)
theorem k126_39 : qx sc (D + 1) 126 39 ls [vi x1, vi x0, vr 136] (0, 0) bb σ Q ↔ qx sc D 224 0 [vr 136, vi x0, vi x1] [] (0, 0) bb σ (q_kn sc (D + 1) 126 42 ls [] (0, 0) Q) := r_callv (idx := 501) (n := 2) (m := 3) (by decide +kernel) rfl (Nat.le_of_ble_eq_true rfl) ⟨Nat.le_of_ble_eq_true rfl, Nat.le_of_ble_eq_true rfl, rfl⟩ rfl
theorem k126_42 : qx sc D 126 42 ls (vi x :: st) u bb σ Q ↔ (x = 0 → qx sc D 126 47 ls st u bb σ Q) ∧ (¬ (x = 0) → qx sc D 126 45 ls st u bb σ Q) := r_if_eq (off := 5) (t := 47) (by decide +kernel)
theorem k126_45 : qx sc D 126 45 ls st u bb σ Q ↔ qx sc D 126 46 ls (vi 0 :: st) u bb σ Q := r_iconst (by decide +kernel)
theorem k126_46 : qx sc D 126 46 ls [vi x] (0, 0) bb σ Q ↔ Q (.inl (some (vi x))) bb σ := r_ret (by decide +kernel)
theorem k126_47 : qx sc D 126 47 [vr a, l1, l2] st u bb σ Q ↔ qx sc D 126 48 [vr a, l1, l2] (vr a :: st) u bb σ Q := r_aload_n (k := 0) (by decide +kernel) rfl
theorem k126_48 : qx sc D 126 48 [l0, vi x, l2] st u bb σ Q ↔ qx sc D 126 49 [l0, vi x, l2] (vi x :: st) u bb σ Q := r_iload_n (k := 1) (by decide +kernel) rfl
theorem k126_49 : qx sc D 126 49 [l0, l1, vi x] st u bb σ Q ↔ qx sc D 126 50 [l0, l1, vi x] (vi x :: st) u bb σ Q := r_iload_n (k := 2) (by decide +kernel) rfl
theorem k126_50 : qx sc (D + 1) 126 50 ls [vi x1, vi x0, vr 136] (0, 0) bb σ Q ↔ qx sc D 133 0 [vr 136, vi x0, vi x1] [] (0, 0) bb σ (q_kn sc (D + 1) 126 53 ls [] (0, 0) Q) := r_callv (idx := 369) (n := 2) (m := 3) (by decide +kernel) rfl (Nat.le_of_ble_eq_true rfl) ⟨Nat.le_of_ble_eq_true rfl, Nat.le_of_ble_eq_true rfl, rfl⟩ rfl
theorem k126_53 : qx sc (D + 1) 126 53 ls [vi x0] (0, 0) bb σ Q ↔ qx sc D 225 0 [vi x0] [] (0, 0) bb σ (q_kn sc (D + 1) 126 56 ls [] (0, 0) Q) := r_calls (idx := 518) (n := 1) (m := 1) (by decide +kernel) rfl (Nat.le_of_ble_eq_true rfl) ⟨Nat.le_of_ble_eq_true rfl, Nat.le_of_ble_eq_true rfl, rfl⟩ rfl
theorem k126_56 : qx sc D 126 56 ls [vi x] (0, 0) bb σ Q ↔ Q (.inl (some (vi x))) bb σ := r_ret (by decide +kernel)
-- 127: RowProverModel.asks(I)V
theorem k127_0 : qx sc D 127 0 [vr a, l1] st u bb σ Q ↔ qx sc D 127 1 [vr a, l1] (vr a :: st) u bb σ Q := r_aload_n (k := 0) (by decide +kernel) rfl
theorem k127_1 : qx sc (D + 1) 127 1 ls [vr 136] (0, 0) bb σ Q ↔ qx sc D 154 0 [vr 136] [] (0, 0) bb σ (q_kn sc (D + 1) 127 4 ls [] (0, 0) Q) := r_callv (idx := 83) (n := 0) (m := 1) (by decide +kernel) rfl (Nat.le_of_ble_eq_true rfl) ⟨Nat.le_of_ble_eq_true rfl, Nat.le_of_ble_eq_true rfl, rfl⟩ rfl
theorem k127_4 : qx sc D 127 4 ls (vi x :: st) u bb σ Q ↔ (x = 0 → qx sc D 127 7 ls st u bb σ Q) ∧ (¬ (x = 0) → qx sc D 127 19 ls st u bb σ Q) := r_if_ne (off := 15) (t := 19) (by decide +kernel)
theorem k127_7 : qx sc D 127 7 [vr a, l1] st u bb σ Q ↔ qx sc D 127 8 [vr a, l1] (vr a :: st) u bb σ Q := r_aload_n (k := 0) (by decide +kernel) rfl
theorem k127_8 : qx sc D 127 8 [l0, vi x] st u bb σ Q ↔ qx sc D 127 9 [l0, vi x] (vi x :: st) u bb σ Q := r_iload_n (k := 1) (by decide +kernel) rfl
theorem k127_9 : qx sc (D + 1) 127 9 ls [vi x0, vr 136] (0, 0) bb σ Q ↔ qx sc D 219 0 [vr 136, vi x0] [] (0, 0) bb σ (q_kn sc (D + 1) 127 12 ls [] (0, 0) Q) := r_callv (idx := 87) (n := 1) (m := 2) (by decide +kernel) rfl (Nat.le_of_ble_eq_true rfl) ⟨Nat.le_of_ble_eq_true rfl, Nat.le_of_ble_eq_true rfl, rfl⟩ rfl
theorem k127_12 : qx sc D 127 12 ls (vi x :: st) u bb σ Q ↔ (x = 0 → qx sc D 127 15 ls st u bb σ Q) ∧ (¬ (x = 0) → qx sc D 127 19 ls st u bb σ Q) := r_if_ne (off := 7) (t := 19) (by decide +kernel)
theorem k127_15 : qx sc D 127 15 [vr a, l1] st u bb σ Q ↔ qx sc D 127 16 [vr a, l1] (vr a :: st) u bb σ Q := r_aload_n (k := 0) (by decide +kernel) rfl
theorem k127_16 : qx sc (D + 1) 127 16 ls [vr 136] (0, 0) bb σ Q ↔ qx sc D 148 0 [vr 136] [] (0, 0) bb σ (q_kn sc (D + 1) 127 19 ls [] (0, 0) Q) := r_callv (idx := 91) (n := 0) (m := 1) (by decide +kernel) rfl (Nat.le_of_ble_eq_true rfl) ⟨Nat.le_of_ble_eq_true rfl, Nat.le_of_ble_eq_true rfl, rfl⟩ rfl
theorem k127_19 : qx sc D 127 19 ls [] (0, 0) bb σ Q ↔ Q (.inl none) bb σ := r_retV (by decide +kernel)
-- 128: RowProverModel.assign(I)V
theorem k128_0 : qx sc D 128 0 [vr a, l1, l2, l3, l4, l5, l6, l7, l8, l9] st u bb σ Q ↔ qx sc D 128 1 [vr a, l1, l2, l3, l4, l5, l6, l7, l8, l9] (vr a :: st) u bb σ Q := r_aload_n (k := 0) (by decide +kernel) rfl
theorem k128_1 : qx sc (D + 1) 128 1 ls [vr 136] (0, 0) bb σ Q ↔ qx sc D 228 0 [vr 136] [] (0, 0) bb σ (q_kn sc (D + 1) 128 4 ls [] (0, 0) Q) := r_callv (idx := 183) (n := 0) (m := 1) (by decide +kernel) rfl (Nat.le_of_ble_eq_true rfl) ⟨Nat.le_of_ble_eq_true rfl, Nat.le_of_ble_eq_true rfl, rfl⟩ rfl
theorem k128_4 : qx sc D 128 4 [l0, l1, l2, l3, l4, l5, l6, l7, l8, l9] (vi x :: st) u bb σ Q ↔ qx sc D 128 5 [l0, l1, vi x, l3, l4, l5, l6, l7, l8, l9] st u bb σ Q := r_istore_n (k := 2) (by decide +kernel) (Nat.le_of_ble_eq_true rfl)
theorem k128_5 : qx sc D 128 5 [vr a, l1, l2, l3, l4, l5, l6, l7, l8, l9] st u bb σ Q ↔ qx sc D 128 6 [vr a, l1, l2, l3, l4, l5, l6, l7, l8, l9] (vr a :: st) u bb σ Q := r_aload_n (k := 0) (by decide +kernel) rfl
theorem k128_6 : qx sc D 128 6 ls st u bb σ Q ↔ qx sc D 128 8 ls (vi 61 :: st) u bb σ Q := r_bipush (by decide +kernel)
theorem k128_8 : qx sc (D + 1) 128 8 ls [vi x0, vr 136] (0, 0) bb σ Q ↔ qx sc D 127 0 [vr 136, vi x0] [] (0, 0) bb σ (q_kn sc (D + 1) 128 11 ls [] (0, 0) Q) := r_callv (idx := 135) (n := 1) (m := 2) (by decide +kernel) rfl (Nat.le_of_ble_eq_true rfl) ⟨Nat.le_of_ble_eq_true rfl, Nat.le_of_ble_eq_true rfl, rfl⟩ rfl
theorem k128_11 : qx sc D 128 11 [vr a, l1, l2, l3, l4, l5, l6, l7, l8, l9] st u bb σ Q ↔ qx sc D 128 12 [vr a, l1, l2, l3, l4, l5, l6, l7, l8, l9] (vr a :: st) u bb σ Q := r_aload_n (k := 0) (by decide +kernel) rfl
theorem k128_12 : qx sc (D + 1) 128 12 ls [vr 136] (0, 0) bb σ Q ↔ qx sc D 154 0 [vr 136] [] (0, 0) bb σ (q_kn sc (D + 1) 128 15 ls [] (0, 0) Q) := r_callv (idx := 83) (n := 0) (m := 1) (by decide +kernel) rfl (Nat.le_of_ble_eq_true rfl) ⟨Nat.le_of_ble_eq_true rfl, Nat.le_of_ble_eq_true rfl, rfl⟩ rfl
theorem k128_15 : qx sc D 128 15 ls (vi x :: st) u bb σ Q ↔ (x = 0 → qx sc D 128 19 ls st u bb σ Q) ∧ (¬ (x = 0) → qx sc D 128 18 ls st u bb σ Q) := r_if_eq (off := 4) (t := 19) (by decide +kernel)
theorem k128_18 : qx sc D 128 18 ls [] (0, 0) bb σ Q ↔ Q (.inl none) bb σ := r_retV (by decide +kernel)
theorem k128_19 : qx sc D 128 19 [vr a, l1, l2, l3, l4, l5, l6, l7, l8, l9] st u bb σ Q ↔ qx sc D 128 20 [vr a, l1, l2, l3, l4, l5, l6, l7, l8, l9] (vr a :: st) u bb σ Q := r_aload_n (k := 0) (by decide +kernel) rfl
theorem k128_20 : qx sc D 128 20 ls (vr 136 :: st) u bb σ Q ↔ qx sc D 128 23 ls (vr 143 :: st) u bb σ Q := r_getR (idx := 151) (c := 15) (k := 20) (by decide +kernel)
theorem k128_23 : qx sc D 128 23 [l0, vi x, l2, l3, l4, l5, l6, l7, l8, l9] st u bb σ Q ↔ qx sc D 128 24 [l0, vi x, l2, l3, l4, l5, l6, l7, l8, l9] (vi x :: st) u bb σ Q := r_iload_n (k := 1) (by decide +kernel) rfl
theorem k128_24 : qx sc D 128 24 [l0, l1, vi x, l3, l4, l5, l6, l7, l8, l9] st u bb σ Q ↔ qx sc D 128 25 [l0, l1, vi x, l3, l4, l5, l6, l7, l8, l9] (vi x :: st) u bb σ Q := r_iload_n (k := 2) (by decide +kernel) rfl
theorem k128_25 : qx sc D 128 25 ls (vi x :: vi i :: vr a :: st) u bb σ Q ↔ (q_ty a = 0 ∧ 0 ≤ i ∧ i < q_ln a) ∧ qx sc D 128 26 ls st u bb (q_up σ a i x) Q := r_iast (by decide +kernel)
theorem k128_26 : qx sc D 128 26 [vr a, l1, l2, l3, l4, l5, l6, l7, l8, l9] st u bb σ Q ↔ qx sc D 128 27 [vr a, l1, l2, l3, l4, l5, l6, l7, l8, l9] (vr a :: st) u bb σ Q := r_aload_n (k := 0) (by decide +kernel) rfl
theorem k128_27 : qx sc D 128 27 ls st u bb σ Q ↔ qx sc D 128 28 ls (vi 0 :: st) u bb σ Q := r_iconst (by decide +kernel)
theorem k128_28 : qx sc D 128 28 [l0, vi x, l2, l3, l4, l5, l6, l7, l8, l9] st u bb σ Q ↔ qx sc D 128 29 [l0, vi x, l2, l3, l4, l5, l6, l7, l8, l9] (vi x :: st) u bb σ Q := r_iload_n (k := 1) (by decide +kernel) rfl
theorem k128_29 : qx sc D 128 29 ls st u bb σ Q ↔ qx sc D 128 30 ls (vi 0 :: st) u bb σ Q := r_iconst (by decide +kernel)
theorem k128_30 : qx sc (D + 1) 128 30 ls [vi x2, vi x1, vi x0, vr 136] (0, 0) bb σ Q ↔ qx sc D 172 0 [vr 136, vi x0, vi x1, vi x2] [] (0, 0) bb σ (q_kn sc (D + 1) 128 33 ls [] (0, 0) Q) := r_callv (idx := 186) (n := 3) (m := 4) (by decide +kernel) rfl (Nat.le_of_ble_eq_true rfl) ⟨Nat.le_of_ble_eq_true rfl, Nat.le_of_ble_eq_true rfl, rfl⟩ rfl
theorem k128_33 : qx sc D 128 33 [l0, l1, l2, l3, l4, l5, l6, l7, l8, l9] (vi x :: st) u bb σ Q ↔ qx sc D 128 34 [l0, l1, l2, vi x, l4, l5, l6, l7, l8, l9] st u bb σ Q := r_istore_n (k := 3) (by decide +kernel) (Nat.le_of_ble_eq_true rfl)
theorem k128_34 : qx sc D 128 34 ls st u bb σ Q ↔ qx sc D 128 35 ls (vi 0 :: st) u bb σ Q := r_iconst (by decide +kernel)
theorem k128_35 : qx sc D 128 35 [l0, l1, l2, l3, l4, l5, l6, l7, l8, l9] (vi x :: st) u bb σ Q ↔ qx sc D 128 37 [l0, l1, l2, l3, vi x, l5, l6, l7, l8, l9] st u bb σ Q := r_istore (k := 4) (by decide +kernel) (Nat.le_of_ble_eq_true rfl)
theorem k128_37 : qx sc D 128 37 ls st u bb σ Q ↔ qx sc D 128 38 ls (vi (-1) :: st) u bb σ Q := r_iconst (by decide +kernel)
theorem k128_38 : qx sc D 128 38 [l0, l1, l2, l3, l4, l5, l6, l7, l8, l9] (vi x :: st) u bb σ Q ↔ qx sc D 128 40 [l0, l1, l2, l3, l4, vi x, l6, l7, l8, l9] st u bb σ Q := r_istore (k := 5) (by decide +kernel) (Nat.le_of_ble_eq_true rfl)
theorem k128_40 : qx sc D 128 40 ls st u bb σ Q ↔ qx sc D 128 41 ls (vi 0 :: st) u bb σ Q := r_iconst (by decide +kernel)
theorem k128_41 : qx sc D 128 41 [l0, l1, l2, l3, l4, l5, l6, l7, l8, l9] (vi x :: st) u bb σ Q ↔ qx sc D 128 43 [l0, l1, l2, l3, l4, l5, vi x, l7, l8, l9] st u bb σ Q := r_istore (k := 6) (by decide +kernel) (Nat.le_of_ble_eq_true rfl)
theorem k128_43 : qx sc D 128 43 [vr a, l1, l2, l3, l4, l5, l6, l7, l8, l9] st u bb σ Q ↔ qx sc D 128 44 [vr a, l1, l2, l3, l4, l5, l6, l7, l8, l9] (vr a :: st) u bb σ Q := r_aload_n (k := 0) (by decide +kernel) rfl
theorem k128_44 : qx sc (D + 1) 128 44 ls [vr 136] (0, 0) bb σ Q ↔ qx sc D 163 0 [vr 136] [] (0, 0) bb σ (q_kn sc (D + 1) 128 47 ls [] (0, 0) Q) := r_callv (idx := 120) (n := 0) (m := 1) (by decide +kernel) rfl (Nat.le_of_ble_eq_true rfl) ⟨Nat.le_of_ble_eq_true rfl, Nat.le_of_ble_eq_true rfl, rfl⟩ rfl
theorem k128_47 : qx sc D 128 47 ls (vi x :: st) u bb σ Q ↔ (x = 0 → qx sc D 128 61 ls st u bb σ Q) ∧ (¬ (x = 0) → qx sc D 128 50 ls st u bb σ Q) := r_if_eq (off := 14) (t := 61) (by decide +kernel)
theorem k128_50 : qx sc D 128 50 [vr a, l1, l2, l3, l4, l5, l6, l7, l8, l9] st u bb σ Q ↔ qx sc D 128 51 [vr a, l1, l2, l3, l4, l5, l6, l7, l8, l9] (vr a :: st) u bb σ Q := r_aload_n (k := 0) (by decide +kernel) rfl
theorem k128_51 : qx sc D 128 51 ls st u bb σ Q ↔ qx sc D 128 53 ls (vi 99 :: st) u bb σ Q := r_bipush (by decide +kernel)
theorem k128_53 : qx sc (D + 1) 128 53 ls [vi x0, vr 136] (0, 0) bb σ Q ↔ qx sc D 189 0 [vr 136, vi x0, vn] [] (0, 0) bb σ (q_kn sc (D + 1) 128 56 ls [] (0, 0) Q) := r_callv (idx := 131) (n := 1) (m := 3) (by decide +kernel) rfl (Nat.le_of_ble_eq_true rfl) ⟨Nat.le_of_ble_eq_true rfl, Nat.le_of_ble_eq_true rfl, rfl⟩ rfl
theorem k128_56 : qx sc D 128 56 [l0, l1, l2, l3, l4, l5, l6, l7, l8, l9] (vi x :: st) u bb σ Q ↔ qx sc D 128 58 [l0, l1, l2, l3, l4, l5, vi x, l7, l8, l9] st u bb σ Q := r_istore (k := 6) (by decide +kernel) (Nat.le_of_ble_eq_true rfl)
theorem k128_58 : qx sc D 128 58 ls st u bb σ Q ↔ qx sc D 128 194 ls st u bb σ Q := r_goto (off := 136) (by decide +kernel)
theorem k128_61 : qx sc D 128 61 [vr a, l1, l2, l3, l4, l5, l6, l7, l8, l9] st u bb σ Q ↔ qx sc D 128 62 [vr a, l1, l2, l3, l4, l5, l6, l7, l8, l9] (vr a :: st) u bb σ Q := r_aload_n (k := 0) (by decide +kernel) rfl
theorem k128_62 : qx sc D 128 62 ls st u bb σ Q ↔ qx sc D 128 64 ls (vi 45 :: st) u bb σ Q := r_bipush (by decide +kernel)
theorem k128_64 : qx sc (D + 1) 128 64 ls [vi x0, vr 136] (0, 0) bb σ Q ↔ qx sc D 219 0 [vr 136, vi x0] [] (0, 0) bb σ (q_kn sc (D + 1) 128 67 ls [] (0, 0) Q) := r_callv (idx := 87) (n := 1) (m := 2) (by decide +kernel) rfl (Nat.le_of_ble_eq_true rfl) ⟨Nat.le_of_ble_eq_true rfl, Nat.le_of_ble_eq_true rfl, rfl⟩ rfl
theorem k128_67 : qx sc D 128 67 ls (vi x :: st) u bb σ Q ↔ (x = 0 → qx sc D 128 82 ls st u bb σ Q) ∧ (¬ (x = 0) → qx sc D 128 70 ls st u bb σ Q) := r_if_eq (off := 15) (t := 82) (by decide +kernel)
theorem k128_70 : qx sc D 128 70 [vr a, l1, l2, l3, l4, l5, l6, l7, l8, l9] st u bb σ Q ↔ qx sc D 128 71 [vr a, l1, l2, l3, l4, l5, l6, l7, l8, l9] (vr a :: st) u bb σ Q := r_aload_n (k := 0) (by decide +kernel) rfl
theorem k128_71 : qx sc D 128 71 ls st u bb σ Q ↔ qx sc D 128 73 ls (vi 99 :: st) u bb σ Q := r_bipush (by decide +kernel)
theorem k128_73 : qx sc (D + 1) 128 73 ls [vi x0, vr 136] (0, 0) bb σ Q ↔ qx sc D 189 0 [vr 136, vi x0, vn] [] (0, 0) bb σ (q_kn sc (D + 1) 128 76 ls [] (0, 0) Q) := r_callv (idx := 131) (n := 1) (m := 3) (by decide +kernel) rfl (Nat.le_of_ble_eq_true rfl) ⟨Nat.le_of_ble_eq_true rfl, Nat.le_of_ble_eq_true rfl, rfl⟩ rfl
theorem k128_76 : qx sc D 128 76 ls (vi a' :: st) u bb σ Q ↔ q_R (-a') ∧ qx sc D 128 77 ls (vi (-a') :: st) u bb σ Q := r_ineg (by decide +kernel)
theorem k128_77 : qx sc D 128 77 [l0, l1, l2, l3, l4, l5, l6, l7, l8, l9] (vi x :: st) u bb σ Q ↔ qx sc D 128 79 [l0, l1, l2, l3, l4, l5, vi x, l7, l8, l9] st u bb σ Q := r_istore (k := 6) (by decide +kernel) (Nat.le_of_ble_eq_true rfl)
theorem k128_79 : qx sc D 128 79 ls st u bb σ Q ↔ qx sc D 128 194 ls st u bb σ Q := r_goto (off := 115) (by decide +kernel)
theorem k128_82 : qx sc D 128 82 [vr a, l1, l2, l3, l4, l5, l6, l7, l8, l9] st u bb σ Q ↔ qx sc D 128 83 [vr a, l1, l2, l3, l4, l5, l6, l7, l8, l9] (vr a :: st) u bb σ Q := r_aload_n (k := 0) (by decide +kernel) rfl
theorem k128_83 : qx sc D 128 83 ls st u bb σ Q ↔ qx sc D 128 85 ls (vi 35 :: st) u bb σ Q := r_bipush (by decide +kernel)
theorem k128_85 : qx sc (D + 1) 128 85 ls [vi x0, vr 136] (0, 0) bb σ Q ↔ qx sc D 219 0 [vr 136, vi x0] [] (0, 0) bb σ (q_kn sc (D + 1) 128 88 ls [] (0, 0) Q) := r_callv (idx := 87) (n := 1) (m := 2) (by decide +kernel) rfl (Nat.le_of_ble_eq_true rfl) ⟨Nat.le_of_ble_eq_true rfl, Nat.le_of_ble_eq_true rfl, rfl⟩ rfl
theorem k128_88 : qx sc D 128 88 ls (vi x :: st) u bb σ Q ↔ (x = 0 → qx sc D 128 103 ls st u bb σ Q) ∧ (¬ (x = 0) → qx sc D 128 91 ls st u bb σ Q) := r_if_eq (off := 15) (t := 103) (by decide +kernel)
theorem k128_91 : qx sc D 128 91 ls st u bb σ Q ↔ qx sc D 128 92 ls (vi 2 :: st) u bb σ Q := r_iconst (by decide +kernel)
theorem k128_92 : qx sc D 128 92 [l0, l1, l2, l3, l4, l5, l6, l7, l8, l9] (vi x :: st) u bb σ Q ↔ qx sc D 128 94 [l0, l1, l2, l3, vi x, l5, l6, l7, l8, l9] st u bb σ Q := r_istore (k := 4) (by decide +kernel) (Nat.le_of_ble_eq_true rfl)
theorem k128_94 : qx sc D 128 94 [vr a, l1, l2, l3, l4, l5, l6, l7, l8, l9] st u bb σ Q ↔ qx sc D 128 95 [vr a, l1, l2, l3, l4, l5, l6, l7, l8, l9] (vr a :: st) u bb σ Q := r_aload_n (k := 0) (by decide +kernel) rfl
theorem k128_95 : qx sc (D + 1) 128 95 ls [vr 136] (0, 0) bb σ Q ↔ qx sc D 206 0 [vr 136] [] (0, 0) bb σ (q_kn sc (D + 1) 128 98 ls [] (0, 0) Q) := r_callv (idx := 190) (n := 0) (m := 1) (by decide +kernel) rfl (Nat.le_of_ble_eq_true rfl) ⟨Nat.le_of_ble_eq_true rfl, Nat.le_of_ble_eq_true rfl, rfl⟩ rfl
theorem k128_98 : qx sc D 128 98 [l0, l1, l2, l3, l4, l5, l6, l7, l8, l9] (vi x :: st) u bb σ Q ↔ qx sc D 128 100 [l0, l1, l2, l3, l4, vi x, l6, l7, l8, l9] st u bb σ Q := r_istore (k := 5) (by decide +kernel) (Nat.le_of_ble_eq_true rfl)
theorem k128_100 : qx sc D 128 100 ls st u bb σ Q ↔ qx sc D 128 194 ls st u bb σ Q := r_goto (off := 94) (by decide +kernel)
theorem k128_103 : qx sc D 128 103 [vr a, l1, l2, l3, l4, l5, l6, l7, l8, l9] st u bb σ Q ↔ qx sc D 128 104 [vr a, l1, l2, l3, l4, l5, l6, l7, l8, l9] (vr a :: st) u bb σ Q := r_aload_n (k := 0) (by decide +kernel) rfl
theorem k128_104 : qx sc (D + 1) 128 104 ls [vr 136] (0, 0) bb σ Q ↔ qx sc D 164 0 [vr 136] [] (0, 0) bb σ (q_kn sc (D + 1) 128 107 ls [] (0, 0) Q) := r_callv (idx := 114) (n := 0) (m := 1) (by decide +kernel) rfl (Nat.le_of_ble_eq_true rfl) ⟨Nat.le_of_ble_eq_true rfl, Nat.le_of_ble_eq_true rfl, rfl⟩ rfl
theorem k128_107 : qx sc D 128 107 ls (vi x :: st) u bb σ Q ↔ (x = 0 → qx sc D 128 123 ls st u bb σ Q) ∧ (¬ (x = 0) → qx sc D 128 110 ls st u bb σ Q) := r_if_eq (off := 16) (t := 123) (by decide +kernel)
theorem k128_110 : qx sc D 128 110 ls st u bb σ Q ↔ qx sc D 128 111 ls (vi 3 :: st) u bb σ Q := r_iconst (by decide +kernel)
theorem k128_111 : qx sc D 128 111 [l0, l1, l2, l3, l4, l5, l6, l7, l8, l9] (vi x :: st) u bb σ Q ↔ qx sc D 128 113 [l0, l1, l2, l3, vi x, l5, l6, l7, l8, l9] st u bb σ Q := r_istore (k := 4) (by decide +kernel) (Nat.le_of_ble_eq_true rfl)
theorem k128_113 : qx sc D 128 113 [vr a, l1, l2, l3, l4, l5, l6, l7, l8, l9] st u bb σ Q ↔ qx sc D 128 114 [vr a, l1, l2, l3, l4, l5, l6, l7, l8, l9] (vr a :: st) u bb σ Q := r_aload_n (k := 0) (by decide +kernel) rfl
theorem k128_114 : qx sc D 128 114 [l0, vi x, l2, l3, l4, l5, l6, l7, l8, l9] st u bb σ Q ↔ qx sc D 128 115 [l0, vi x, l2, l3, l4, l5, l6, l7, l8, l9] (vi x :: st) u bb σ Q := r_iload_n (k := 1) (by decide +kernel) rfl
theorem k128_115 : qx sc (D + 1) 128 115 ls [vi x0, vr 136] (0, 0) bb σ Q ↔ qx sc D 200 0 [vr 136, vi x0, vn, vn, vn, vn, vn] [] (0, 0) bb σ (q_kn sc (D + 1) 128 118 ls [] (0, 0) Q) := r_callv (idx := 215) (n := 1) (m := 7) (by decide +kernel) rfl (Nat.le_of_ble_eq_true rfl) ⟨Nat.le_of_ble_eq_true rfl, Nat.le_of_ble_eq_true rfl, rfl⟩ rfl
theorem k128_118 : qx sc D 128 118 [l0, l1, l2, l3, l4, l5, l6, l7, l8, l9] (vi x :: st) u bb σ Q ↔ qx sc D 128 120 [l0, l1, l2, l3, l4, vi x, l6, l7, l8, l9] st u bb σ Q := r_istore (k := 5) (by decide +kernel) (Nat.le_of_ble_eq_true rfl)
theorem k128_120 : qx sc D 128 120 ls st u bb σ Q ↔ qx sc D 128 194 ls st u bb σ Q := r_goto (off := 74) (by decide +kernel)
theorem k128_123 : qx sc D 128 123 [vr a, l1, l2, l3, l4, l5, l6, l7, l8, l9] st u bb σ Q ↔ qx sc D 128 124 [vr a, l1, l2, l3, l4, l5, l6, l7, l8, l9] (vr a :: st) u bb σ Q := r_aload_n (k := 0) (by decide +kernel) rfl
theorem k128_124 : qx sc D 128 124 ls st u bb σ Q ↔ qx sc D 128 126 ls (vr (q_tr 11) :: st) u bb σ Q := r_ldcS (idx := 218) (by decide +kernel)
theorem k128_126 : qx sc (D + 1) 128 126 ls [vr a0, vr 136] (0, 0) bb σ Q ↔ qx sc D 221 0 [vr 136, vr a0, vn] [] (0, 0) bb σ (q_kn sc (D + 1) 128 129 ls [] (0, 0) Q) := r_callv (idx := 125) (n := 1) (m := 3) (by decide +kernel) rfl (Nat.le_of_ble_eq_true rfl) ⟨Nat.le_of_ble_eq_true rfl, Nat.le_of_ble_eq_true rfl, rfl⟩ rfl
theorem k128_129 : qx sc D 128 129 ls (vi x :: st) u bb σ Q ↔ (x = 0 → qx sc D 128 145 ls st u bb σ Q) ∧ (¬ (x = 0) → qx sc D 128 132 ls st u bb σ Q) := r_if_eq (off := 16) (t := 145) (by decide +kernel)
theorem k128_132 : qx sc D 128 132 ls st u bb σ Q ↔ qx sc D 128 133 ls (vi 4 :: st) u bb σ Q := r_iconst (by decide +kernel)
theorem k128_133 : qx sc D 128 133 [l0, l1, l2, l3, l4, l5, l6, l7, l8, l9] (vi x :: st) u bb σ Q ↔ qx sc D 128 135 [l0, l1, l2, l3, vi x, l5, l6, l7, l8, l9] st u bb σ Q := r_istore (k := 4) (by decide +kernel) (Nat.le_of_ble_eq_true rfl)
theorem k128_135 : qx sc D 128 135 [vr a, l1, l2, l3, l4, l5, l6, l7, l8, l9] st u bb σ Q ↔ qx sc D 128 136 [vr a, l1, l2, l3, l4, l5, l6, l7, l8, l9] (vr a :: st) u bb σ Q := r_aload_n (k := 0) (by decide +kernel) rfl
theorem k128_136 : qx sc D 128 136 ls st u bb σ Q ↔ qx sc D 128 137 ls (vi 2 :: st) u bb σ Q := r_iconst (by decide +kernel)
theorem k128_137 : qx sc (D + 1) 128 137 ls [vi x0, vr 136] (0, 0) bb σ Q ↔ qx sc D 189 0 [vr 136, vi x0, vn] [] (0, 0) bb σ (q_kn sc (D + 1) 128 140 ls [] (0, 0) Q) := r_callv (idx := 131) (n := 1) (m := 3) (by decide +kernel) rfl (Nat.le_of_ble_eq_true rfl) ⟨Nat.le_of_ble_eq_true rfl, Nat.le_of_ble_eq_true rfl, rfl⟩ rfl
theorem k128_140 : qx sc D 128 140 [l0, l1, l2, l3, l4, l5, l6, l7, l8, l9] (vi x :: st) u bb σ Q ↔ qx sc D 128 142 [l0, l1, l2, l3, l4, l5, vi x, l7, l8, l9] st u bb σ Q := r_istore (k := 6) (by decide +kernel) (Nat.le_of_ble_eq_true rfl)
theorem k128_142 : qx sc D 128 142 ls st u bb σ Q ↔ qx sc D 128 194 ls st u bb σ Q := r_goto (off := 52) (by decide +kernel)
theorem k128_145 : qx sc D 128 145 ls st u bb σ Q ↔ qx sc D 128 146 ls (vi 1 :: st) u bb σ Q := r_iconst (by decide +kernel)
theorem k128_146 : qx sc D 128 146 [l0, l1, l2, l3, l4, l5, l6, l7, l8, l9] (vi x :: st) u bb σ Q ↔ qx sc D 128 148 [l0, l1, l2, l3, vi x, l5, l6, l7, l8, l9] st u bb σ Q := r_istore (k := 4) (by decide +kernel) (Nat.le_of_ble_eq_true rfl)
theorem k128_148 : qx sc D 128 148 [vr a, l1, l2, l3, l4, l5, l6, l7, l8, l9] st u bb σ Q ↔ qx sc D 128 149 [vr a, l1, l2, l3, l4, l5, l6, l7, l8, l9] (vr a :: st) u bb σ Q := r_aload_n (k := 0) (by decide +kernel) rfl
theorem k128_149 : qx sc (D + 1) 128 149 ls [vr 136] (0, 0) bb σ Q ↔ qx sc D 228 0 [vr 136] [] (0, 0) bb σ (q_kn sc (D + 1) 128 152 ls [] (0, 0) Q) := r_callv (idx := 183) (n := 0) (m := 1) (by decide +kernel) rfl (Nat.le_of_ble_eq_true rfl) ⟨Nat.le_of_ble_eq_true rfl, Nat.le_of_ble_eq_true rfl, rfl⟩ rfl
theorem k128_152 : qx sc D 128 152 [l0, l1, l2, l3, l4, l5, l6, l7, l8, l9] (vi x :: st) u bb σ Q ↔ qx sc D 128 154 [l0, l1, l2, l3, l4, vi x, l6, l7, l8, l9] st u bb σ Q := r_istore (k := 5) (by decide +kernel) (Nat.le_of_ble_eq_true rfl)
theorem k128_154 : qx sc D 128 154 [vr a, l1, l2, l3, l4, l5, l6, l7, l8, l9] st u bb σ Q ↔ qx sc D 128 155 [vr a, l1, l2, l3, l4, l5, l6, l7, l8, l9] (vr a :: st) u bb σ Q := r_aload_n (k := 0) (by decide +kernel) rfl
theorem k128_155 : qx sc D 128 155 ls st u bb σ Q ↔ qx sc D 128 157 ls (vi 43 :: st) u bb σ Q := r_bipush (by decide +kernel)
theorem k128_157 : qx sc (D + 1) 128 157 ls [vi x0, vr 136] (0, 0) bb σ Q ↔ qx sc D 219 0 [vr 136, vi x0] [] (0, 0) bb σ (q_kn sc (D + 1) 128 160 ls [] (0, 0) Q) := r_callv (idx := 87) (n := 1) (m := 2) (by decide +kernel) rfl (Nat.le_of_ble_eq_true rfl) ⟨Nat.le_of_ble_eq_true rfl, Nat.le_of_ble_eq_true rfl, rfl⟩ rfl
theorem k128_160 : qx sc D 128 160 ls (vi x :: st) u bb σ Q ↔ (x = 0 → qx sc D 128 172 ls st u bb σ Q) ∧ (¬ (x = 0) → qx sc D 128 163 ls st u bb σ Q) := r_if_eq (off := 12) (t := 172) (by decide +kernel)
theorem k128_163 : qx sc D 128 163 [vr a, l1, l2, l3, l4, l5, l6, l7, l8, l9] st u bb σ Q ↔ qx sc D 128 164 [vr a, l1, l2, l3, l4, l5, l6, l7, l8, l9] (vr a :: st) u bb σ Q := r_aload_n (k := 0) (by decide +kernel) rfl
theorem k128_164 : qx sc D 128 164 ls st u bb σ Q ↔ qx sc D 128 166 ls (vi 99 :: st) u bb σ Q := r_bipush (by decide +kernel)
theorem k128_166 : qx sc (D + 1) 128 166 ls [vi x0, vr 136] (0, 0) bb σ Q ↔ qx sc D 189 0 [vr 136, vi x0, vn] [] (0, 0) bb σ (q_kn sc (D + 1) 128 169 ls [] (0, 0) Q) := r_callv (idx := 131) (n := 1) (m := 3) (by decide +kernel) rfl (Nat.le_of_ble_eq_true rfl) ⟨Nat.le_of_ble_eq_true rfl, Nat.le_of_ble_eq_true rfl, rfl⟩ rfl
theorem k128_169 : qx sc D 128 169 ls st u bb σ Q ↔ qx sc D 128 192 ls st u bb σ Q := r_goto (off := 23) (by decide +kernel)
theorem k128_172 : qx sc D 128 172 [vr a, l1, l2, l3, l4, l5, l6, l7, l8, l9] st u bb σ Q ↔ qx sc D 128 173 [vr a, l1, l2, l3, l4, l5, l6, l7, l8, l9] (vr a :: st) u bb σ Q := r_aload_n (k := 0) (by decide +kernel) rfl
theorem k128_173 : qx sc D 128 173 ls st u bb σ Q ↔ qx sc D 128 175 ls (vi 45 :: st) u bb σ Q := r_bipush (by decide +kernel)
theorem k128_175 : qx sc (D + 1) 128 175 ls [vi x0, vr 136] (0, 0) bb σ Q ↔ qx sc D 219 0 [vr 136, vi x0] [] (0, 0) bb σ (q_kn sc (D + 1) 128 178 ls [] (0, 0) Q) := r_callv (idx := 87) (n := 1) (m := 2) (by decide +kernel) rfl (Nat.le_of_ble_eq_true rfl) ⟨Nat.le_of_ble_eq_true rfl, Nat.le_of_ble_eq_true rfl, rfl⟩ rfl
theorem k128_178 : qx sc D 128 178 ls (vi x :: st) u bb σ Q ↔ (x = 0 → qx sc D 128 191 ls st u bb σ Q) ∧ (¬ (x = 0) → qx sc D 128 181 ls st u bb σ Q) := r_if_eq (off := 13) (t := 191) (by decide +kernel)
theorem k128_181 : qx sc D 128 181 [vr a, l1, l2, l3, l4, l5, l6, l7, l8, l9] st u bb σ Q ↔ qx sc D 128 182 [vr a, l1, l2, l3, l4, l5, l6, l7, l8, l9] (vr a :: st) u bb σ Q := r_aload_n (k := 0) (by decide +kernel) rfl
theorem k128_182 : qx sc D 128 182 ls st u bb σ Q ↔ qx sc D 128 184 ls (vi 99 :: st) u bb σ Q := r_bipush (by decide +kernel)
theorem k128_184 : qx sc (D + 1) 128 184 ls [vi x0, vr 136] (0, 0) bb σ Q ↔ qx sc D 189 0 [vr 136, vi x0, vn] [] (0, 0) bb σ (q_kn sc (D + 1) 128 187 ls [] (0, 0) Q) := r_callv (idx := 131) (n := 1) (m := 3) (by decide +kernel) rfl (Nat.le_of_ble_eq_true rfl) ⟨Nat.le_of_ble_eq_true rfl, Nat.le_of_ble_eq_true rfl, rfl⟩ rfl
theorem k128_187 : qx sc D 128 187 ls (vi a' :: st) u bb σ Q ↔ q_R (-a') ∧ qx sc D 128 188 ls (vi (-a') :: st) u bb σ Q := r_ineg (by decide +kernel)
theorem k128_188 : qx sc D 128 188 ls st u bb σ Q ↔ qx sc D 128 192 ls st u bb σ Q := r_goto (off := 4) (by decide +kernel)
theorem k128_191 : qx sc D 128 191 ls st u bb σ Q ↔ qx sc D 128 192 ls (vi 0 :: st) u bb σ Q := r_iconst (by decide +kernel)
theorem k128_192 : qx sc D 128 192 [l0, l1, l2, l3, l4, l5, l6, l7, l8, l9] (vi x :: st) u bb σ Q ↔ qx sc D 128 194 [l0, l1, l2, l3, l4, l5, vi x, l7, l8, l9] st u bb σ Q := r_istore (k := 6) (by decide +kernel) (Nat.le_of_ble_eq_true rfl)
theorem k128_194 : qx sc D 128 194 [vr a, l1, l2, l3, l4, l5, l6, l7, l8, l9] st u bb σ Q ↔ qx sc D 128 195 [vr a, l1, l2, l3, l4, l5, l6, l7, l8, l9] (vr a :: st) u bb σ Q := r_aload_n (k := 0) (by decide +kernel) rfl
theorem k128_195 : qx sc D 128 195 ls st u bb σ Q ↔ qx sc D 128 197 ls (vi 59 :: st) u bb σ Q := r_bipush (by decide +kernel)
theorem k128_197 : qx sc (D + 1) 128 197 ls [vi x0, vr 136] (0, 0) bb σ Q ↔ qx sc D 127 0 [vr 136, vi x0] [] (0, 0) bb σ (q_kn sc (D + 1) 128 200 ls [] (0, 0) Q) := r_callv (idx := 135) (n := 1) (m := 2) (by decide +kernel) rfl (Nat.le_of_ble_eq_true rfl) ⟨Nat.le_of_ble_eq_true rfl, Nat.le_of_ble_eq_true rfl, rfl⟩ rfl
theorem k128_200 : qx sc D 128 200 [vr a, l1, l2, l3, l4, l5, l6, l7, l8, l9] st u bb σ Q ↔ qx sc D 128 201 [vr a, l1, l2, l3, l4, l5, l6, l7, l8, l9] (vr a :: st) u bb σ Q := r_aload_n (k := 0) (by decide +kernel) rfl
theorem k128_201 : qx sc (D + 1) 128 201 ls [vr 136] (0, 0) bb σ Q ↔ qx sc D 154 0 [vr 136] [] (0, 0) bb σ (q_kn sc (D + 1) 128 204 ls [] (0, 0) Q) := r_callv (idx := 83) (n := 0) (m := 1) (by decide +kernel) rfl (Nat.le_of_ble_eq_true rfl) ⟨Nat.le_of_ble_eq_true rfl, Nat.le_of_ble_eq_true rfl, rfl⟩ rfl
theorem k128_204 : qx sc D 128 204 ls (vi x :: st) u bb σ Q ↔ (x = 0 → qx sc D 128 208 ls st u bb σ Q) ∧ (¬ (x = 0) → qx sc D 128 207 ls st u bb σ Q) := r_if_eq (off := 4) (t := 208) (by decide +kernel)
theorem k128_207 : qx sc D 128 207 ls [] (0, 0) bb σ Q ↔ Q (.inl none) bb σ := r_retV (by decide +kernel)
theorem k128_208 : qx sc D 128 208 [l0, l1, l2, l3, vi x, l5, l6, l7, l8, l9] st u bb σ Q ↔ qx sc D 128 210 [l0, l1, l2, l3, vi x, l5, l6, l7, l8, l9] (vi x :: st) u bb σ Q := r_iload (k := 4) (by decide +kernel) rfl
theorem k128_210 : qx sc D 128 210 ls st u bb σ Q ↔ qx sc D 128 211 ls (vi 1 :: st) u bb σ Q := r_iconst (by decide +kernel)
theorem k128_211 : qx sc D 128 211 ls (vi b' :: vi a' :: st) u bb σ Q ↔ (a' = b' → qx sc D 128 214 ls st u bb σ Q) ∧ (¬ (a' = b') → qx sc D 128 224 ls st u bb σ Q) := r_ic_ne (off := 13) (t := 224) (by decide +kernel)
theorem k128_214 : qx sc D 128 214 [vr a, l1, l2, l3, l4, l5, l6, l7, l8, l9] st u bb σ Q ↔ qx sc D 128 215 [vr a, l1, l2, l3, l4, l5, l6, l7, l8, l9] (vr a :: st) u bb σ Q := r_aload_n (k := 0) (by decide +kernel) rfl
theorem k128_215 : qx sc D 128 215 ls (vr 136 :: st) u bb σ Q ↔ qx sc D 128 218 ls (vr 171 :: st) u bb σ Q := r_getR (idx := 57) (c := 15) (k := 48) (by decide +kernel)
theorem k128_218 : qx sc D 128 218 [l0, l1, l2, l3, l4, vi x, l6, l7, l8, l9] st u bb σ Q ↔ qx sc D 128 220 [l0, l1, l2, l3, l4, vi x, l6, l7, l8, l9] (vi x :: st) u bb σ Q := r_iload (k := 5) (by decide +kernel) rfl
theorem k128_220 : qx sc D 128 220 ls (vi i :: vr a :: st) u bb σ Q ↔ (q_ty a = 0 ∧ 0 ≤ i ∧ i < q_ln a) ∧ qx sc D 128 221 ls (vi (σ a i) :: st) u bb σ Q := r_iald (by decide +kernel)
theorem k128_221 : qx sc D 128 221 ls st u bb σ Q ↔ qx sc D 128 225 ls st u bb σ Q := r_goto (off := 4) (by decide +kernel)
theorem k128_224 : qx sc D 128 224 ls st u bb σ Q ↔ qx sc D 128 225 ls (vi (-1) :: st) u bb σ Q := r_iconst (by decide +kernel)
theorem k128_225 : qx sc D 128 225 [l0, l1, l2, l3, l4, l5, l6, l7, l8, l9] (vi x :: st) u bb σ Q ↔ qx sc D 128 227 [l0, l1, l2, l3, l4, l5, l6, vi x, l8, l9] st u bb σ Q := r_istore (k := 7) (by decide +kernel) (Nat.le_of_ble_eq_true rfl)
theorem k128_227 : qx sc D 128 227 [vr a, l1, l2, l3, l4, l5, l6, l7, l8, l9] st u bb σ Q ↔ qx sc D 128 228 [vr a, l1, l2, l3, l4, l5, l6, l7, l8, l9] (vr a :: st) u bb σ Q := r_aload_n (k := 0) (by decide +kernel) rfl
theorem k128_228 : qx sc D 128 228 [l0, l1, vi x, l3, l4, l5, l6, l7, l8, l9] st u bb σ Q ↔ qx sc D 128 229 [l0, l1, vi x, l3, l4, l5, l6, l7, l8, l9] (vi x :: st) u bb σ Q := r_iload_n (k := 2) (by decide +kernel) rfl
theorem k128_229 : qx sc D 128 229 ls st u bb σ Q ↔ qx sc D 128 230 ls (vi 1 :: st) u bb σ Q := r_iconst (by decide +kernel)
theorem k128_230 : qx sc D 128 230 [l0, vi x, l2, l3, l4, l5, l6, l7, l8, l9] st u bb σ Q ↔ qx sc D 128 231 [l0, vi x, l2, l3, l4, l5, l6, l7, l8, l9] (vi x :: st) u bb σ Q := r_iload_n (k := 1) (by decide +kernel) rfl
theorem k128_231 : qx sc D 128 231 [l0, l1, l2, l3, l4, l5, l6, vi x, l8, l9] st u bb σ Q ↔ qx sc D 128 233 [l0, l1, l2, l3, l4, l5, l6, vi x, l8, l9] (vi x :: st) u bb σ Q := r_iload (k := 7) (by decide +kernel) rfl
theorem k128_233 : qx sc D 128 233 ls st u bb σ Q ↔ qx sc D 128 234 ls (vi (-1) :: st) u bb σ Q := r_iconst (by decide +kernel)
theorem k128_234 : qx sc (D + 1) 128 234 ls [vi x4, vi x3, vi x2, vi x1, vi x0, vr 136] (0, 0) bb σ Q ↔ qx sc D 180 0 [vr 136, vi x0, vi x1, vi x2, vi x3, vi x4, vn] [] (0, 0) bb σ (q_kn sc (D + 1) 128 237 ls [] (0, 0) Q) := r_callv (idx := 211) (n := 5) (m := 7) (by decide +kernel) rfl (Nat.le_of_ble_eq_true rfl) ⟨Nat.le_of_ble_eq_true rfl, Nat.le_of_ble_eq_true rfl, rfl⟩ rfl
theorem k128_237 : qx sc D 128 237 [l0, l1, l2, l3, l4, l5, l6, l7, l8, l9] (vi x :: st) u bb σ Q ↔ qx sc D 128 239 [l0, l1, l2, l3, l4, l5, l6, l7, vi x, l9] st u bb σ Q := r_istore (k := 8) (by decide +kernel) (Nat.le_of_ble_eq_true rfl)
theorem k128_239 : qx sc D 128 239 [vr a, l1, l2, l3, l4, l5, l6, l7, l8, l9] st u bb σ Q ↔ qx sc D 128 240 [vr a, l1, l2, l3, l4, l5, l6, l7, l8, l9] (vr a :: st) u bb σ Q := r_aload_n (k := 0) (by decide +kernel) rfl
theorem k128_240 : qx sc D 128 240 ls (vr 136 :: st) u bb σ Q ↔ qx sc D 128 243 ls (vr 152 :: st) u bb σ Q := r_getR (idx := 48) (c := 15) (k := 29) (by decide +kernel)
theorem k128_243 : qx sc D 128 243 [l0, l1, l2, l3, l4, l5, l6, l7, vi x, l9] st u bb σ Q ↔ qx sc D 128 245 [l0, l1, l2, l3, l4, l5, l6, l7, vi x, l9] (vi x :: st) u bb σ Q := r_iload (k := 8) (by decide +kernel) rfl
theorem k128_245 : qx sc D 128 245 [l0, l1, l2, l3, vi x, l5, l6, l7, l8, l9] st u bb σ Q ↔ qx sc D 128 247 [l0, l1, l2, l3, vi x, l5, l6, l7, l8, l9] (vi x :: st) u bb σ Q := r_iload (k := 4) (by decide +kernel) rfl
theorem k128_247 : qx sc D 128 247 ls (vi x :: vi i :: vr a :: st) u bb σ Q ↔ (q_ty a = 0 ∧ 0 ≤ i ∧ i < q_ln a) ∧ qx sc D 128 248 ls st u bb (q_up σ a i x) Q := r_iast (by decide +kernel)
theorem k128_248 : qx sc D 128 248 [vr a, l1, l2, l3, l4, l5, l6, l7, l8, l9] st u bb σ Q ↔ qx sc D 128 249 [vr a, l1, l2, l3, l4, l5, l6, l7, l8, l9] (vr a :: st) u bb σ Q := r_aload_n (k := 0) (by decide +kernel) rfl
theorem k128_249 : qx sc D 128 249 ls (vr 136 :: st) u bb σ Q ↔ qx sc D 128 252 ls (vr 153 :: st) u bb σ Q := r_getR (idx := 51) (c := 15) (k := 30) (by decide +kernel)
theorem k128_252 : qx sc D 128 252 [l0, l1, l2, l3, l4, l5, l6, l7, vi x, l9] st u bb σ Q ↔ qx sc D 128 254 [l0, l1, l2, l3, l4, l5, l6, l7, vi x, l9] (vi x :: st) u bb σ Q := r_iload (k := 8) (by decide +kernel) rfl
theorem k128_254 : qx sc D 128 254 [l0, l1, l2, l3, l4, vi x, l6, l7, l8, l9] st u bb σ Q ↔ qx sc D 128 256 [l0, l1, l2, l3, l4, vi x, l6, l7, l8, l9] (vi x :: st) u bb σ Q := r_iload (k := 5) (by decide +kernel) rfl
theorem k128_256 : qx sc D 128 256 ls (vi x :: vi i :: vr a :: st) u bb σ Q ↔ (q_ty a = 0 ∧ 0 ≤ i ∧ i < q_ln a) ∧ qx sc D 128 257 ls st u bb (q_up σ a i x) Q := r_iast (by decide +kernel)
theorem k128_257 : qx sc D 128 257 [vr a, l1, l2, l3, l4, l5, l6, l7, l8, l9] st u bb σ Q ↔ qx sc D 128 258 [vr a, l1, l2, l3, l4, l5, l6, l7, l8, l9] (vr a :: st) u bb σ Q := r_aload_n (k := 0) (by decide +kernel) rfl
theorem k128_258 : qx sc D 128 258 ls (vr 136 :: st) u bb σ Q ↔ qx sc D 128 261 ls (vr 154 :: st) u bb σ Q := r_getR (idx := 54) (c := 15) (k := 31) (by decide +kernel)
theorem k128_261 : qx sc D 128 261 [l0, l1, l2, l3, l4, l5, l6, l7, vi x, l9] st u bb σ Q ↔ qx sc D 128 263 [l0, l1, l2, l3, l4, l5, l6, l7, vi x, l9] (vi x :: st) u bb σ Q := r_iload (k := 8) (by decide +kernel) rfl
theorem k128_263 : qx sc D 128 263 [l0, l1, l2, l3, l4, l5, vi x, l7, l8, l9] st u bb σ Q ↔ qx sc D 128 265 [l0, l1, l2, l3, l4, l5, vi x, l7, l8, l9] (vi x :: st) u bb σ Q := r_iload (k := 6) (by decide +kernel) rfl
theorem k128_265 : qx sc D 128 265 ls (vi x :: vi i :: vr a :: st) u bb σ Q ↔ (q_ty a = 0 ∧ 0 ≤ i ∧ i < q_ln a) ∧ qx sc D 128 266 ls st u bb (q_up σ a i x) Q := r_iast (by decide +kernel)
theorem k128_266 : qx sc D 128 266 [vr a, l1, l2, l3, l4, l5, l6, l7, l8, l9] st u bb σ Q ↔ qx sc D 128 267 [vr a, l1, l2, l3, l4, l5, l6, l7, l8, l9] (vr a :: st) u bb σ Q := r_aload_n (k := 0) (by decide +kernel) rfl
theorem k128_267 : qx sc D 128 267 ls st u bb σ Q ↔ qx sc D 128 268 ls (vi 2 :: st) u bb σ Q := r_iconst (by decide +kernel)
theorem k128_268 : qx sc D 128 268 [l0, l1, l2, l3, l4, l5, l6, l7, vi x, l9] st u bb σ Q ↔ qx sc D 128 270 [l0, l1, l2, l3, l4, l5, l6, l7, vi x, l9] (vi x :: st) u bb σ Q := r_iload (k := 8) (by decide +kernel) rfl
theorem k128_270 : qx sc D 128 270 ls st u bb σ Q ↔ qx sc D 128 271 ls (vi 0 :: st) u bb σ Q := r_iconst (by decide +kernel)
theorem k128_271 : qx sc (D + 1) 128 271 ls [vi x2, vi x1, vi x0, vr 136] (0, 0) bb σ Q ↔ qx sc D 172 0 [vr 136, vi x0, vi x1, vi x2] [] (0, 0) bb σ (q_kn sc (D + 1) 128 274 ls [] (0, 0) Q) := r_callv (idx := 186) (n := 3) (m := 4) (by decide +kernel) rfl (Nat.le_of_ble_eq_true rfl) ⟨Nat.le_of_ble_eq_true rfl, Nat.le_of_ble_eq_true rfl, rfl⟩ rfl
theorem k128_274 : qx sc D 128 274 [l0, l1, l2, l3, l4, l5, l6, l7, l8, l9] (vi x :: st) u bb σ Q ↔ qx sc D 128 276 [l0, l1, l2, l3, l4, l5, l6, l7, l8, vi x] st u bb σ Q := r_istore (k := 9) (by decide +kernel) (Nat.le_of_ble_eq_true rfl)
theorem k128_276 : qx sc D 128 276 ls [] (0, 0) bb σ Q ↔ Q (.inl none) bb σ := r_retV (by decide +kernel)
-- 129: RowProverModel.below(I)I
theorem k129_0 : qx sc D 129 0 [vr a, l1] st u bb σ Q ↔ qx sc D 129 1 [vr a, l1] (vr a :: st) u bb σ Q := r_aload_n (k := 0) (by decide +kernel) rfl
theorem k129_1 : qx sc D 129 1 ls st u bb σ Q ↔ qx sc D 129 2 ls (vi 0 :: st) u bb σ Q := r_iconst (by decide +kernel)
theorem k129_2 : qx sc D 129 2 ls (vi x :: vr 136 :: st) u bb σ Q ↔ qx sc D 129 5 ls st u bb (q_up σ 136 0 x) Q := r_putI (idx := 3) (c := 15) (k := 0) (by decide +kernel)
theorem k129_5 : qx sc D 129 5 [vr a, l1] st u bb σ Q ↔ qx sc D 129 6 [vr a, l1] (vr a :: st) u bb σ Q := r_aload_n (k := 0) (by decide +kernel) rfl
theorem k129_6 : qx sc D 129 6 [l0, vi x] st u bb σ Q ↔ qx sc D 129 7 [l0, vi x] (vi x :: st) u bb σ Q := r_iload_n (k := 1) (by decide +kernel) rfl
theorem k129_7 : qx sc (D + 1) 129 7 ls [vi x0, vr 136] (0, 0) bb σ Q ↔ qx sc D 187 0 [vr 136, vi x0] [] (0, 0) bb σ (q_kn sc (D + 1) 129 10 ls [] (0, 0) Q) := r_callv (idx := 514) (n := 1) (m := 2) (by decide +kernel) rfl (Nat.le_of_ble_eq_true rfl) ⟨Nat.le_of_ble_eq_true rfl, Nat.le_of_ble_eq_true rfl, rfl⟩ rfl
theorem k129_10 : qx sc D 129 10 ls (vi x :: st) u bb σ Q ↔ (x = 0 → qx sc D 129 17 ls st u bb σ Q) ∧ (¬ (x = 0) → qx sc D 129 13 ls st u bb σ Q) := r_if_eq (off := 7) (t := 17) (by decide +kernel)
theorem k129_13 : qx sc D 129 13 ls st u bb σ Q ↔ qx sc D 129 14 ls (vi 0 :: st) u bb σ Q := r_iconst (by decide +kernel)
theorem k129_14 : qx sc D 129 14 ls st u bb σ Q ↔ qx sc D 129 26 ls st u bb σ Q := r_goto (off := 12) (by decide +kernel)
theorem k129_17 : qx sc D 129 17 [vr a, l1] st u bb σ Q ↔ qx sc D 129 18 [vr a, l1] (vr a :: st) u bb σ Q := r_aload_n (k := 0) (by decide +kernel) rfl
theorem k129_18 : qx sc D 129 18 ls st u bb σ Q ↔ qx sc D 129 19 ls (vi 3 :: st) u bb σ Q := r_iconst (by decide +kernel)
theorem k129_19 : qx sc D 129 19 [l0, vi x] st u bb σ Q ↔ qx sc D 129 20 [l0, vi x] (vi x :: st) u bb σ Q := r_iload_n (k := 1) (by decide +kernel) rfl
theorem k129_20 : qx sc (D + 1) 129 20 ls [vi x1, vi x0, vr 136] (0, 0) bb σ Q ↔ qx sc D 133 0 [vr 136, vi x0, vi x1] [] (0, 0) bb σ (q_kn sc (D + 1) 129 23 ls [] (0, 0) Q) := r_callv (idx := 369) (n := 2) (m := 3) (by decide +kernel) rfl (Nat.le_of_ble_eq_true rfl) ⟨Nat.le_of_ble_eq_true rfl, Nat.le_of_ble_eq_true rfl, rfl⟩ rfl
theorem k129_23 : qx sc (D + 1) 129 23 ls [vi x0] (0, 0) bb σ Q ↔ qx sc D 225 0 [vi x0] [] (0, 0) bb σ (q_kn sc (D + 1) 129 26 ls [] (0, 0) Q) := r_calls (idx := 518) (n := 1) (m := 1) (by decide +kernel) rfl (Nat.le_of_ble_eq_true rfl) ⟨Nat.le_of_ble_eq_true rfl, Nat.le_of_ble_eq_true rfl, rfl⟩ rfl
theorem k129_26 : qx sc D 129 26 ls [vi x] (0, 0) bb σ Q ↔ Q (.inl (some (vi x))) bb σ := r_ret (by decide +kernel)
-- 130: RowProverModel.blanks()V
theorem k130_0 : qx sc D 130 0 [vr a] st u bb σ Q ↔ qx sc D 130 1 [vr a] (vr a :: st) u bb σ Q := r_aload_n (k := 0) (by decide +kernel) rfl
theorem k130_1 : qx sc D 130 1 ls st u bb σ Q ↔ qx sc D 130 3 ls (vi 9 :: st) u bb σ Q := r_bipush (by decide +kernel)
theorem k130_3 : qx sc D 130 3 ls st u bb σ Q ↔ qx sc D 130 5 ls (vi 10 :: st) u bb σ Q := r_bipush (by decide +kernel)
theorem k130_5 : qx sc (D + 1) 130 5 ls [vi x1, vi x0, vr 136] (0, 0) bb σ Q ↔ qx sc D 159 0 [vr 136, vi x0, vi x1] [] (0, 0) bb σ (q_kn sc (D + 1) 130 8 ls [] (0, 0) Q) := r_callv (idx := 72) (n := 2) (m := 3) (by decide +kernel) rfl (Nat.le_of_ble_eq_true rfl) ⟨Nat.le_of_ble_eq_true rfl, Nat.le_of_ble_eq_true rfl, rfl⟩ rfl
theorem k130_8 : qx sc D 130 8 ls (vi x :: st) u bb σ Q ↔ (x = 0 → qx sc D 130 11 ls st u bb σ Q) ∧ (¬ (x = 0) → qx sc D 130 22 ls st u bb σ Q) := r_if_ne (off := 14) (t := 22) (by decide +kernel)
theorem k130_11 : qx sc D 130 11 [vr a] st u bb σ Q ↔ qx sc D 130 12 [vr a] (vr a :: st) u bb σ Q := r_aload_n (k := 0) (by decide +kernel) rfl
theorem k130_12 : qx sc D 130 12 ls st u bb σ Q ↔ qx sc D 130 14 ls (vi 32 :: st) u bb σ Q := r_bipush (by decide +kernel)
theorem k130_14 : qx sc D 130 14 ls st u bb σ Q ↔ qx sc D 130 16 ls (vi 32 :: st) u bb σ Q := r_bipush (by decide +kernel)
theorem k130_16 : qx sc (D + 1) 130 16 ls [vi x1, vi x0, vr 136] (0, 0) bb σ Q ↔ qx sc D 159 0 [vr 136, vi x0, vi x1] [] (0, 0) bb σ (q_kn sc (D + 1) 130 19 ls [] (0, 0) Q) := r_callv (idx := 72) (n := 2) (m := 3) (by decide +kernel) rfl (Nat.le_of_ble_eq_true rfl) ⟨Nat.le_of_ble_eq_true rfl, Nat.le_of_ble_eq_true rfl, rfl⟩ rfl
theorem k130_19 : qx sc D 130 19 ls (vi x :: st) u bb σ Q ↔ (x = 0 → qx sc D 130 35 ls st u bb σ Q) ∧ (¬ (x = 0) → qx sc D 130 22 ls st u bb σ Q) := r_if_eq (off := 16) (t := 35) (by decide +kernel)
theorem k130_22 : qx sc D 130 22 [vr a] st u bb σ Q ↔ qx sc D 130 23 [vr a] (vr a :: st) u bb σ Q := r_aload_n (k := 0) (by decide +kernel) rfl
theorem k130_23 : qx sc D 130 23 ls (vr a :: st) u bb σ Q ↔ qx sc D 130 24 ls (vr a :: vr a :: st) u bb σ Q := r_dupA (by decide +kernel)
theorem k130_24 : qx sc D 130 24 ls (vr 136 :: st) u bb σ Q ↔ qx sc D 130 27 ls (vi (σ 136 8) :: st) u bb σ Q := r_getI (idx := 63) (c := 15) (k := 8) (by decide +kernel)
theorem k130_27 : qx sc D 130 27 ls st u bb σ Q ↔ qx sc D 130 28 ls (vi 1 :: st) u bb σ Q := r_iconst (by decide +kernel)
theorem k130_28 : qx sc D 130 28 ls (vi b' :: vi a' :: st) u bb σ Q ↔ q_R (a' + b') ∧ qx sc D 130 29 ls (vi (a' + b') :: st) u bb σ Q := r_iadd (by decide +kernel)
theorem k130_29 : qx sc D 130 29 ls (vi x :: vr 136 :: st) u bb σ Q ↔ qx sc D 130 32 ls st u bb (q_up σ 136 8 x) Q := r_putI (idx := 63) (c := 15) (k := 8) (by decide +kernel)
theorem k130_32 : qx sc D 130 32 ls st u bb σ Q ↔ qx sc D 130 0 ls st u bb σ Q := r_goto (off := (-32)) (by decide +kernel)
theorem k130_35 : qx sc D 130 35 [vr a] st u bb σ Q ↔ qx sc D 130 36 [vr a] (vr a :: st) u bb σ Q := r_aload_n (k := 0) (by decide +kernel) rfl
theorem k130_36 : qx sc D 130 36 [vr a] st u bb σ Q ↔ qx sc D 130 37 [vr a] (vr a :: st) u bb σ Q := r_aload_n (k := 0) (by decide +kernel) rfl
theorem k130_37 : qx sc D 130 37 ls (vr 136 :: st) u bb σ Q ↔ qx sc D 130 40 ls (vi (σ 136 8) :: st) u bb σ Q := r_getI (idx := 63) (c := 15) (k := 8) (by decide +kernel)
theorem k130_40 : qx sc D 130 40 ls (vi x :: vr 136 :: st) u bb σ Q ↔ qx sc D 130 43 ls st u bb (q_up σ 136 9 x) Q := r_putI (idx := 76) (c := 15) (k := 9) (by decide +kernel)
theorem k130_43 : qx sc D 130 43 ls [] (0, 0) bb σ Q ↔ Q (.inl none) bb σ := r_retV (by decide +kernel)
-- 131: RowProverModel.block()V
theorem k131_0 : qx sc D 131 0 [vr a] st u bb σ Q ↔ qx sc D 131 1 [vr a] (vr a :: st) u bb σ Q := r_aload_n (k := 0) (by decide +kernel) rfl
theorem k131_1 : qx sc (D + 1) 131 1 ls [vr 136] (0, 0) bb σ Q ↔ qx sc D 154 0 [vr 136] [] (0, 0) bb σ (q_kn sc (D + 1) 131 4 ls [] (0, 0) Q) := r_callv (idx := 83) (n := 0) (m := 1) (by decide +kernel) rfl (Nat.le_of_ble_eq_true rfl) ⟨Nat.le_of_ble_eq_true rfl, Nat.le_of_ble_eq_true rfl, rfl⟩ rfl
theorem k131_4 : qx sc D 131 4 ls (vi x :: st) u bb σ Q ↔ (x = 0 → qx sc D 131 8 ls st u bb σ Q) ∧ (¬ (x = 0) → qx sc D 131 7 ls st u bb σ Q) := r_if_eq (off := 4) (t := 8) (by decide +kernel)
theorem k131_7 : qx sc D 131 7 ls [] (0, 0) bb σ Q ↔ Q (.inl none) bb σ := r_retV (by decide +kernel)
theorem k131_8 : qx sc D 131 8 [vr a] st u bb σ Q ↔ qx sc D 131 9 [vr a] (vr a :: st) u bb σ Q := r_aload_n (k := 0) (by decide +kernel) rfl
theorem k131_9 : qx sc (D + 1) 131 9 ls [vr 136] (0, 0) bb σ Q ↔ qx sc D 130 0 [vr 136] [] (0, 0) bb σ (q_kn sc (D + 1) 131 12 ls [] (0, 0) Q) := r_callv (idx := 79) (n := 0) (m := 1) (by decide +kernel) rfl (Nat.le_of_ble_eq_true rfl) ⟨Nat.le_of_ble_eq_true rfl, Nat.le_of_ble_eq_true rfl, rfl⟩ rfl
theorem k131_12 : qx sc D 131 12 [vr a] st u bb σ Q ↔ qx sc D 131 13 [vr a] (vr a :: st) u bb σ Q := r_aload_n (k := 0) (by decide +kernel) rfl
theorem k131_13 : qx sc D 131 13 ls (vr 136 :: st) u bb σ Q ↔ qx sc D 131 16 ls (vi (σ 136 11) :: st) u bb σ Q := r_getI (idx := 239) (c := 15) (k := 11) (by decide +kernel)
theorem k131_16 : qx sc D 131 16 ls st u bb σ Q ↔ qx sc D 131 17 ls (vi 5 :: st) u bb σ Q := r_iconst (by decide +kernel)
theorem k131_17 : qx sc D 131 17 ls (vi b' :: vi a' :: st) u bb σ Q ↔ (a' = b' → qx sc D 131 20 ls st u bb σ Q) ∧ (¬ (a' = b') → qx sc D 131 36 ls st u bb σ Q) := r_ic_ne (off := 19) (t := 36) (by decide +kernel)
theorem k131_20 : qx sc D 131 20 [vr a] st u bb σ Q ↔ qx sc D 131 21 [vr a] (vr a :: st) u bb σ Q := r_aload_n (k := 0) (by decide +kernel) rfl
theorem k131_21 : qx sc D 131 21 ls st u bb σ Q ↔ qx sc D 131 23 ls (vi 123 :: st) u bb σ Q := r_bipush (by decide +kernel)
theorem k131_23 : qx sc D 131 23 ls st u bb σ Q ↔ qx sc D 131 25 ls (vi 123 :: st) u bb σ Q := r_bipush (by decide +kernel)
theorem k131_25 : qx sc (D + 1) 131 25 ls [vi x1, vi x0, vr 136] (0, 0) bb σ Q ↔ qx sc D 159 0 [vr 136, vi x0, vi x1] [] (0, 0) bb σ (q_kn sc (D + 1) 131 28 ls [] (0, 0) Q) := r_callv (idx := 72) (n := 2) (m := 3) (by decide +kernel) rfl (Nat.le_of_ble_eq_true rfl) ⟨Nat.le_of_ble_eq_true rfl, Nat.le_of_ble_eq_true rfl, rfl⟩ rfl
theorem k131_28 : qx sc D 131 28 ls (vi x :: st) u bb σ Q ↔ (x = 0 → qx sc D 131 36 ls st u bb σ Q) ∧ (¬ (x = 0) → qx sc D 131 31 ls st u bb σ Q) := r_if_eq (off := 8) (t := 36) (by decide +kernel)
theorem k131_31 : qx sc D 131 31 [vr a] st u bb σ Q ↔ qx sc D 131 32 [vr a] (vr a :: st) u bb σ Q := r_aload_n (k := 0) (by decide +kernel) rfl
theorem k131_32 : qx sc (D + 1) 131 32 ls [vr 136] (0, 0) bb σ Q ↔ qx sc D 148 0 [vr 136] [] (0, 0) bb σ (q_kn sc (D + 1) 131 35 ls [] (0, 0) Q) := r_callv (idx := 91) (n := 0) (m := 1) (by decide +kernel) rfl (Nat.le_of_ble_eq_true rfl) ⟨Nat.le_of_ble_eq_true rfl, Nat.le_of_ble_eq_true rfl, rfl⟩ rfl
theorem k131_35 : qx sc D 131 35 ls [] (0, 0) bb σ Q ↔ Q (.inl none) bb σ := r_retV (by decide +kernel)
theorem k131_36 : qx sc D 131 36 [vr a] st u bb σ Q ↔ qx sc D 131 37 [vr a] (vr a :: st) u bb σ Q := r_aload_n (k := 0) (by decide +kernel) rfl
theorem k131_37 : qx sc D 131 37 ls st u bb σ Q ↔ qx sc D 131 39 ls (vi 123 :: st) u bb σ Q := r_bipush (by decide +kernel)
theorem k131_39 : qx sc (D + 1) 131 39 ls [vi x0, vr 136] (0, 0) bb σ Q ↔ qx sc D 127 0 [vr 136, vi x0] [] (0, 0) bb σ (q_kn sc (D + 1) 131 42 ls [] (0, 0) Q) := r_callv (idx := 135) (n := 1) (m := 2) (by decide +kernel) rfl (Nat.le_of_ble_eq_true rfl) ⟨Nat.le_of_ble_eq_true rfl, Nat.le_of_ble_eq_true rfl, rfl⟩ rfl
theorem k131_42 : qx sc D 131 42 [vr a] st u bb σ Q ↔ qx sc D 131 43 [vr a] (vr a :: st) u bb σ Q := r_aload_n (k := 0) (by decide +kernel) rfl
theorem k131_43 : qx sc D 131 43 ls (vr a :: st) u bb σ Q ↔ qx sc D 131 44 ls (vr a :: vr a :: st) u bb σ Q := r_dupA (by decide +kernel)
theorem k131_44 : qx sc D 131 44 ls (vr 136 :: st) u bb σ Q ↔ qx sc D 131 47 ls (vi (σ 136 11) :: st) u bb σ Q := r_getI (idx := 239) (c := 15) (k := 11) (by decide +kernel)
theorem k131_47 : qx sc D 131 47 ls st u bb σ Q ↔ qx sc D 131 48 ls (vi 1 :: st) u bb σ Q := r_iconst (by decide +kernel)
theorem k131_48 : qx sc D 131 48 ls (vi b' :: vi a' :: st) u bb σ Q ↔ q_R (a' + b') ∧ qx sc D 131 49 ls (vi (a' + b') :: st) u bb σ Q := r_iadd (by decide +kernel)
theorem k131_49 : qx sc D 131 49 ls (vi x :: vr 136 :: st) u bb σ Q ↔ qx sc D 131 52 ls st u bb (q_up σ 136 11 x) Q := r_putI (idx := 239) (c := 15) (k := 11) (by decide +kernel)
theorem k131_52 : qx sc D 131 52 [vr a] st u bb σ Q ↔ qx sc D 131 53 [vr a] (vr a :: st) u bb σ Q := r_aload_n (k := 0) (by decide +kernel) rfl
theorem k131_53 : qx sc (D + 1) 131 53 ls [vr 136] (0, 0) bb σ Q ↔ qx sc D 217 0 [vr 136, vn] [] (0, 0) bb σ (q_kn sc (D + 1) 131 56 ls [] (0, 0) Q) := r_callv (idx := 242) (n := 0) (m := 2) (by decide +kernel) rfl (Nat.le_of_ble_eq_true rfl) ⟨Nat.le_of_ble_eq_true rfl, Nat.le_of_ble_eq_true rfl, rfl⟩ rfl
theorem k131_56 : qx sc D 131 56 [vr a] st u bb σ Q ↔ qx sc D 131 57 [vr a] (vr a :: st) u bb σ Q := r_aload_n (k := 0) (by decide +kernel) rfl
theorem k131_57 : qx sc D 131 57 ls st u bb σ Q ↔ qx sc D 131 59 ls (vi 125 :: st) u bb σ Q := r_bipush (by decide +kernel)
theorem k131_59 : qx sc (D + 1) 131 59 ls [vi x0, vr 136] (0, 0) bb σ Q ↔ qx sc D 127 0 [vr 136, vi x0] [] (0, 0) bb σ (q_kn sc (D + 1) 131 62 ls [] (0, 0) Q) := r_callv (idx := 135) (n := 1) (m := 2) (by decide +kernel) rfl (Nat.le_of_ble_eq_true rfl) ⟨Nat.le_of_ble_eq_true rfl, Nat.le_of_ble_eq_true rfl, rfl⟩ rfl
theorem k131_62 : qx sc D 131 62 [vr a] st u bb σ Q ↔ qx sc D 131 63 [vr a] (vr a :: st) u bb σ Q := r_aload_n (k := 0) (by decide +kernel) rfl
theorem k131_63 : qx sc D 131 63 ls (vr a :: st) u bb σ Q ↔ qx sc D 131 64 ls (vr a :: vr a :: st) u bb σ Q := r_dupA (by decide +kernel)
theorem k131_64 : qx sc D 131 64 ls (vr 136 :: st) u bb σ Q ↔ qx sc D 131 67 ls (vi (σ 136 11) :: st) u bb σ Q := r_getI (idx := 239) (c := 15) (k := 11) (by decide +kernel)
theorem k131_67 : qx sc D 131 67 ls st u bb σ Q ↔ qx sc D 131 68 ls (vi 1 :: st) u bb σ Q := r_iconst (by decide +kernel)
theorem k131_68 : qx sc D 131 68 ls (vi b' :: vi a' :: st) u bb σ Q ↔ q_R (a' - b') ∧ qx sc D 131 69 ls (vi (a' - b') :: st) u bb σ Q := r_isub (by decide +kernel)
theorem k131_69 : qx sc D 131 69 ls (vi x :: vr 136 :: st) u bb σ Q ↔ qx sc D 131 72 ls st u bb (q_up σ 136 11 x) Q := r_putI (idx := 239) (c := 15) (k := 11) (by decide +kernel)
theorem k131_72 : qx sc D 131 72 ls [] (0, 0) bb σ Q ↔ Q (.inl none) bb σ := r_retV (by decide +kernel)
-- 132: RowProverModel.both()I
theorem k132_0 : qx sc D 132 0 ls st u bb σ Q ↔ qx sc D 132 1 ls (vi 0 :: st) u bb σ Q := r_iconst (by decide +kernel)
theorem k132_1 : qx sc D 132 1 [l0, l1, l2] (vi x :: st) u bb σ Q ↔ qx sc D 132 2 [l0, vi x, l2] st u bb σ Q := r_istore_n (k := 1) (by decide +kernel) (Nat.le_of_ble_eq_true rfl)
theorem k132_2 : qx sc D 132 2 ls st u bb σ Q ↔ qx sc D 132 3 ls (vi 0 :: st) u bb σ Q := r_iconst (by decide +kernel)
theorem k132_3 : qx sc D 132 3 [l0, l1, l2] (vi x :: st) u bb σ Q ↔ qx sc D 132 4 [l0, l1, vi x] st u bb σ Q := r_istore_n (k := 2) (by decide +kernel) (Nat.le_of_ble_eq_true rfl)
theorem k132_4 : qx sc D 132 4 [l0, l1, vi x] st u bb σ Q ↔ qx sc D 132 5 [l0, l1, vi x] (vi x :: st) u bb σ Q := r_iload_n (k := 2) (by decide +kernel) rfl
theorem k132_5 : qx sc D 132 5 [vr a, l1, l2] st u bb σ Q ↔ qx sc D 132 6 [vr a, l1, l2] (vr a :: st) u bb σ Q := r_aload_n (k := 0) (by decide +kernel) rfl
theorem k132_6 : qx sc D 132 6 ls (vr 136 :: st) u bb σ Q ↔ qx sc D 132 9 ls (vi (σ 136 16) :: st) u bb σ Q := r_getI (idx := 193) (c := 15) (k := 16) (by decide +kernel)
theorem k132_9 : qx sc D 132 9 ls (vi b' :: vi a' :: st) u bb σ Q ↔ (a' < b' → qx sc D 132 12 ls st u bb σ Q) ∧ (¬ (a' < b') → qx sc D 132 44 ls st u bb σ Q) := r_ic_ge (off := 35) (t := 44) (by decide +kernel)
theorem k132_12 : qx sc D 132 12 [l0, vi x, l2] st u bb σ Q ↔ qx sc D 132 13 [l0, vi x, l2] (vi x :: st) u bb σ Q := r_iload_n (k := 1) (by decide +kernel) rfl
theorem k132_13 : qx sc D 132 13 [vr a, l1, l2] st u bb σ Q ↔ qx sc D 132 14 [vr a, l1, l2] (vr a :: st) u bb σ Q := r_aload_n (k := 0) (by decide +kernel) rfl
theorem k132_14 : qx sc D 132 14 ls (vr 136 :: st) u bb σ Q ↔ qx sc D 132 17 ls (vr 178 :: st) u bb σ Q := r_getR (idx := 325) (c := 15) (k := 59) (by decide +kernel)
theorem k132_17 : qx sc D 132 17 [l0, l1, vi x] st u bb σ Q ↔ qx sc D 132 18 [l0, l1, vi x] (vi x :: st) u bb σ Q := r_iload_n (k := 2) (by decide +kernel) rfl
theorem k132_18 : qx sc D 132 18 ls (vi i :: vr a :: st) u bb σ Q ↔ ((q_ty a = 1 ∨ q_ty a = 2) ∧ 0 ≤ i ∧ i < q_ln a) ∧ qx sc D 132 19 ls (vi (σ a i) :: st) u bb σ Q := r_bald (by decide +kernel)
theorem k132_19 : qx sc D 132 19 ls (vi x :: st) u bb σ Q ↔ (x = 0 → qx sc D 132 35 ls st u bb σ Q) ∧ (¬ (x = 0) → qx sc D 132 22 ls st u bb σ Q) := r_if_eq (off := 16) (t := 35) (by decide +kernel)
theorem k132_22 : qx sc D 132 22 [vr a, l1, l2] st u bb σ Q ↔ qx sc D 132 23 [vr a, l1, l2] (vr a :: st) u bb σ Q := r_aload_n (k := 0) (by decide +kernel) rfl
theorem k132_23 : qx sc D 132 23 ls (vr 136 :: st) u bb σ Q ↔ qx sc D 132 26 ls (vr 179 :: st) u bb σ Q := r_getR (idx := 329) (c := 15) (k := 60) (by decide +kernel)
theorem k132_26 : qx sc D 132 26 [l0, l1, vi x] st u bb σ Q ↔ qx sc D 132 27 [l0, l1, vi x] (vi x :: st) u bb σ Q := r_iload_n (k := 2) (by decide +kernel) rfl
theorem k132_27 : qx sc D 132 27 ls (vi i :: vr a :: st) u bb σ Q ↔ ((q_ty a = 1 ∨ q_ty a = 2) ∧ 0 ≤ i ∧ i < q_ln a) ∧ qx sc D 132 28 ls (vi (σ a i) :: st) u bb σ Q := r_bald (by decide +kernel)
theorem k132_28 : qx sc D 132 28 ls (vi x :: st) u bb σ Q ↔ (x = 0 → qx sc D 132 35 ls st u bb σ Q) ∧ (¬ (x = 0) → qx sc D 132 31 ls st u bb σ Q) := r_if_eq (off := 7) (t := 35) (by decide +kernel)
theorem k132_31 : qx sc D 132 31 ls st u bb σ Q ↔ qx sc D 132 32 ls (vi 1 :: st) u bb σ Q := r_iconst (by decide +kernel)
theorem k132_32 : qx sc D 132 32 ls st u bb σ Q ↔ qx sc D 132 36 ls st u bb σ Q := r_goto (off := 4) (by decide +kernel)
theorem k132_35 : qx sc D 132 35 ls st u bb σ Q ↔ qx sc D 132 36 ls (vi 0 :: st) u bb σ Q := r_iconst (by decide +kernel)
theorem k132_36 : qx sc D 132 36 ls (vi b' :: vi a' :: st) u bb σ Q ↔ q_R (a' + b') ∧ qx sc D 132 37 ls (vi (a' + b') :: st) u bb σ Q := r_iadd (by decide +kernel)
theorem k132_37 : qx sc D 132 37 [l0, l1, l2] (vi x :: st) u bb σ Q ↔ qx sc D 132 38 [l0, vi x, l2] st u bb σ Q := r_istore_n (k := 1) (by decide +kernel) (Nat.le_of_ble_eq_true rfl)
theorem k132_38 : qx sc D 132 38 [l0, l1, vi x] st u bb σ Q ↔ q_R (x + 1) ∧ qx sc D 132 41 [l0, l1, vi (x + 1)] st u bb σ Q := r_iinc (k := 2) (n := 1) (by decide +kernel) rfl
theorem k132_41 : qx sc D 132 41 ls st u bb σ Q ↔ qx sc D 132 4 ls st u bb σ Q := r_goto (off := (-37)) (by decide +kernel)
theorem k132_44 : qx sc D 132 44 [l0, vi x, l2] st u bb σ Q ↔ qx sc D 132 45 [l0, vi x, l2] (vi x :: st) u bb σ Q := r_iload_n (k := 1) (by decide +kernel) rfl
theorem k132_45 : qx sc D 132 45 ls [vi x] (0, 0) bb σ Q ↔ Q (.inl (some (vi x))) bb σ := r_ret (by decide +kernel)
-- 133: RowProverModel.boundAt(II)I
theorem k133_0 : qx sc D 133 0 [vr a, l1, l2] st u bb σ Q ↔ qx sc D 133 1 [vr a, l1, l2] (vr a :: st) u bb σ Q := r_aload_n (k := 0) (by decide +kernel) rfl
theorem k133_1 : qx sc D 133 1 ls (vr 136 :: st) u bb σ Q ↔ qx sc D 133 4 ls (vr 173 :: st) u bb σ Q := r_getR (idx := 310) (c := 15) (k := 53) (by decide +kernel)
theorem k133_4 : qx sc D 133 4 ls st u bb σ Q ↔ qx sc D 133 7 ls (vi 700 :: st) u bb σ Q := r_sipush (by decide +kernel)
theorem k133_7 : qx sc D 133 7 [l0, vi x, l2] st u bb σ Q ↔ qx sc D 133 8 [l0, vi x, l2] (vi x :: st) u bb σ Q := r_iload_n (k := 1) (by decide +kernel) rfl
theorem k133_8 : qx sc D 133 8 ls (vi b' :: vi a' :: st) u bb σ Q ↔ q_R (a' * b') ∧ qx sc D 133 9 ls (vi (a' * b') :: st) u bb σ Q := r_imul (by decide +kernel)
theorem k133_9 : qx sc D 133 9 [l0, l1, vi x] st u bb σ Q ↔ qx sc D 133 10 [l0, l1, vi x] (vi x :: st) u bb σ Q := r_iload_n (k := 2) (by decide +kernel) rfl
theorem k133_10 : qx sc D 133 10 ls (vi b' :: vi a' :: st) u bb σ Q ↔ q_R (a' + b') ∧ qx sc D 133 11 ls (vi (a' + b') :: st) u bb σ Q := r_iadd (by decide +kernel)
theorem k133_11 : qx sc D 133 11 ls (vi i :: vr a :: st) u bb σ Q ↔ (q_ty a = 0 ∧ 0 ≤ i ∧ i < q_ln a) ∧ qx sc D 133 12 ls (vi (σ a i) :: st) u bb σ Q := r_iald (by decide +kernel)
theorem k133_12 : qx sc D 133 12 ls [vi x] (0, 0) bb σ Q ↔ Q (.inl (some (vi x))) bb σ := r_ret (by decide +kernel)
-- 134: RowProverModel.bounds(I)V
theorem k134_0 : qx sc D 134 0 ls st u bb σ Q ↔ qx sc D 134 1 ls (vi 0 :: st) u bb σ Q := r_iconst (by decide +kernel)
theorem k134_1 : qx sc D 134 1 [l0, l1, l2, l3, l4] (vi x :: st) u bb σ Q ↔ qx sc D 134 2 [l0, l1, vi x, l3, l4] st u bb σ Q := r_istore_n (k := 2) (by decide +kernel) (Nat.le_of_ble_eq_true rfl)
theorem k134_2 : qx sc D 134 2 [l0, l1, vi x, l3, l4] st u bb σ Q ↔ qx sc D 134 3 [l0, l1, vi x, l3, l4] (vi x :: st) u bb σ Q := r_iload_n (k := 2) (by decide +kernel) rfl
theorem k134_3 : qx sc D 134 3 [vr a, l1, l2, l3, l4] st u bb σ Q ↔ qx sc D 134 4 [vr a, l1, l2, l3, l4] (vr a :: st) u bb σ Q := r_aload_n (k := 0) (by decide +kernel) rfl
theorem k134_4 : qx sc D 134 4 ls (vr 136 :: st) u bb σ Q ↔ qx sc D 134 7 ls (vi (σ 136 15) :: st) u bb σ Q := r_getI (idx := 30) (c := 15) (k := 15) (by decide +kernel)
theorem k134_7 : qx sc D 134 7 ls (vi b' :: vi a' :: st) u bb σ Q ↔ (a' < b' → qx sc D 134 10 ls st u bb σ Q) ∧ (¬ (a' < b') → qx sc D 134 34 ls st u bb σ Q) := r_ic_ge (off := 27) (t := 34) (by decide +kernel)
theorem k134_10 : qx sc D 134 10 [vr a, l1, l2, l3, l4] st u bb σ Q ↔ qx sc D 134 11 [vr a, l1, l2, l3, l4] (vr a :: st) u bb σ Q := r_aload_n (k := 0) (by decide +kernel) rfl
theorem k134_11 : qx sc D 134 11 ls (vr 136 :: st) u bb σ Q ↔ qx sc D 134 14 ls (vr 173 :: st) u bb σ Q := r_getR (idx := 310) (c := 15) (k := 53) (by decide +kernel)
theorem k134_14 : qx sc D 134 14 ls st u bb σ Q ↔ qx sc D 134 17 ls (vi 700 :: st) u bb σ Q := r_sipush (by decide +kernel)
theorem k134_17 : qx sc D 134 17 [l0, vi x, l2, l3, l4] st u bb σ Q ↔ qx sc D 134 18 [l0, vi x, l2, l3, l4] (vi x :: st) u bb σ Q := r_iload_n (k := 1) (by decide +kernel) rfl
theorem k134_18 : qx sc D 134 18 ls (vi b' :: vi a' :: st) u bb σ Q ↔ q_R (a' * b') ∧ qx sc D 134 19 ls (vi (a' * b') :: st) u bb σ Q := r_imul (by decide +kernel)
theorem k134_19 : qx sc D 134 19 [l0, l1, vi x, l3, l4] st u bb σ Q ↔ qx sc D 134 20 [l0, l1, vi x, l3, l4] (vi x :: st) u bb σ Q := r_iload_n (k := 2) (by decide +kernel) rfl
theorem k134_20 : qx sc D 134 20 ls (vi b' :: vi a' :: st) u bb σ Q ↔ q_R (a' + b') ∧ qx sc D 134 21 ls (vi (a' + b') :: st) u bb σ Q := r_iadd (by decide +kernel)
theorem k134_21 : qx sc D 134 21 [vr a, l1, l2, l3, l4] st u bb σ Q ↔ qx sc D 134 22 [vr a, l1, l2, l3, l4] (vr a :: st) u bb σ Q := r_aload_n (k := 0) (by decide +kernel) rfl
theorem k134_22 : qx sc D 134 22 [l0, vi x, l2, l3, l4] st u bb σ Q ↔ qx sc D 134 23 [l0, vi x, l2, l3, l4] (vi x :: st) u bb σ Q := r_iload_n (k := 1) (by decide +kernel) rfl
theorem k134_23 : qx sc (D + 1) 134 23 ls [vi x0, vr 136, vi x20, vr a21] (0, 0) bb σ Q ↔ qx sc D 188 0 [vr 136, vi x0] [] (0, 0) bb σ (q_kn sc (D + 1) 134 26 ls [vi x20, vr a21] (0, 0) Q) := r_callv (idx := 375) (n := 1) (m := 2) (by decide +kernel) rfl (Nat.le_of_ble_eq_true rfl) ⟨Nat.le_of_ble_eq_true rfl, Nat.le_of_ble_eq_true rfl, rfl⟩ rfl
theorem k134_26 : qx sc D 134 26 ls (vi a' :: st) u bb σ Q ↔ q_R (-a') ∧ qx sc D 134 27 ls (vi (-a') :: st) u bb σ Q := r_ineg (by decide +kernel)
theorem k134_27 : qx sc D 134 27 ls (vi x :: vi i :: vr a :: st) u bb σ Q ↔ (q_ty a = 0 ∧ 0 ≤ i ∧ i < q_ln a) ∧ qx sc D 134 28 ls st u bb (q_up σ a i x) Q := r_iast (by decide +kernel)
theorem k134_28 : qx sc D 134 28 [l0, l1, vi x, l3, l4] st u bb σ Q ↔ q_R (x + 1) ∧ qx sc D 134 31 [l0, l1, vi (x + 1), l3, l4] st u bb σ Q := r_iinc (k := 2) (n := 1) (by decide +kernel) rfl
theorem k134_31 : qx sc D 134 31 ls st u bb σ Q ↔ qx sc D 134 2 ls st u bb σ Q := r_goto (off := (-29)) (by decide +kernel)
theorem k134_34 : qx sc D 134 34 ls st u bb σ Q ↔ qx sc D 134 35 ls (vi 1 :: st) u bb σ Q := r_iconst (by decide +kernel)
theorem k134_35 : qx sc D 134 35 [l0, l1, l2, l3, l4] (vi x :: st) u bb σ Q ↔ qx sc D 134 36 [l0, l1, vi x, l3, l4] st u bb σ Q := r_istore_n (k := 2) (by decide +kernel) (Nat.le_of_ble_eq_true rfl)
theorem k134_36 : qx sc D 134 36 [l0, l1, vi x, l3, l4] st u bb σ Q ↔ qx sc D 134 37 [l0, l1, vi x, l3, l4] (vi x :: st) u bb σ Q := r_iload_n (k := 2) (by decide +kernel) rfl
theorem k134_37 : qx sc D 134 37 ls (vi x :: st) u bb σ Q ↔ (x = 0 → qx sc D 134 156 ls st u bb σ Q) ∧ (¬ (x = 0) → qx sc D 134 40 ls st u bb σ Q) := r_if_eq (off := 119) (t := 156) (by decide +kernel)
theorem k134_40 : qx sc D 134 40 ls st u bb σ Q ↔ qx sc D 134 41 ls (vi 0 :: st) u bb σ Q := r_iconst (by decide +kernel)
theorem k134_41 : qx sc D 134 41 [l0, l1, l2, l3, l4] (vi x :: st) u bb σ Q ↔ qx sc D 134 42 [l0, l1, vi x, l3, l4] st u bb σ Q := r_istore_n (k := 2) (by decide +kernel) (Nat.le_of_ble_eq_true rfl)
theorem k134_42 : qx sc D 134 42 ls st u bb σ Q ↔ qx sc D 134 43 ls (vi 0 :: st) u bb σ Q := r_iconst (by decide +kernel)
theorem k134_43 : qx sc D 134 43 [l0, l1, l2, l3, l4] (vi x :: st) u bb σ Q ↔ qx sc D 134 44 [l0, l1, l2, vi x, l4] st u bb σ Q := r_istore_n (k := 3) (by decide +kernel) (Nat.le_of_ble_eq_true rfl)
theorem k134_44 : qx sc D 134 44 [l0, l1, l2, vi x, l4] st u bb σ Q ↔ qx sc D 134 45 [l0, l1, l2, vi x, l4] (vi x :: st) u bb σ Q := r_iload_n (k := 3) (by decide +kernel) rfl
theorem k134_45 : qx sc D 134 45 [vr a, l1, l2, l3, l4] st u bb σ Q ↔ qx sc D 134 46 [vr a, l1, l2, l3, l4] (vr a :: st) u bb σ Q := r_aload_n (k := 0) (by decide +kernel) rfl
theorem k134_46 : qx sc D 134 46 ls (vr 136 :: st) u bb σ Q ↔ qx sc D 134 49 ls (vi (σ 136 15) :: st) u bb σ Q := r_getI (idx := 30) (c := 15) (k := 15) (by decide +kernel)
theorem k134_49 : qx sc D 134 49 ls (vi b' :: vi a' :: st) u bb σ Q ↔ (a' < b' → qx sc D 134 52 ls st u bb σ Q) ∧ (¬ (a' < b') → qx sc D 134 153 ls st u bb σ Q) := r_ic_ge (off := 104) (t := 153) (by decide +kernel)
theorem k134_52 : qx sc D 134 52 [vr a, l1, l2, l3, l4] st u bb σ Q ↔ qx sc D 134 53 [vr a, l1, l2, l3, l4] (vr a :: st) u bb σ Q := r_aload_n (k := 0) (by decide +kernel) rfl
theorem k134_53 : qx sc D 134 53 [l0, vi x, l2, l3, l4] st u bb σ Q ↔ qx sc D 134 54 [l0, vi x, l2, l3, l4] (vi x :: st) u bb σ Q := r_iload_n (k := 1) (by decide +kernel) rfl
theorem k134_54 : qx sc D 134 54 [l0, l1, l2, vi x, l4] st u bb σ Q ↔ qx sc D 134 55 [l0, l1, l2, vi x, l4] (vi x :: st) u bb σ Q := r_iload_n (k := 3) (by decide +kernel) rfl
theorem k134_55 : qx sc (D + 1) 134 55 ls [vi x1, vi x0, vr 136] (0, 0) bb σ Q ↔ qx sc D 141 0 [vr 136, vi x0, vi x1] [] (0, 0) bb σ (q_kn sc (D + 1) 134 58 ls [] (0, 0) Q) := r_callv (idx := 402) (n := 2) (m := 3) (by decide +kernel) rfl (Nat.le_of_ble_eq_true rfl) ⟨Nat.le_of_ble_eq_true rfl, Nat.le_of_ble_eq_true rfl, rfl⟩ rfl
theorem k134_58 : qx sc D 134 58 [l0, l1, l2, l3, l4] (vi x :: st) u bb σ Q ↔ qx sc D 134 60 [l0, l1, l2, l3, vi x] st u bb σ Q := r_istore (k := 4) (by decide +kernel) (Nat.le_of_ble_eq_true rfl)
theorem k134_60 : qx sc D 134 60 [l0, l1, l2, l3, vi x] st u bb σ Q ↔ qx sc D 134 62 [l0, l1, l2, l3, vi x] (vi x :: st) u bb σ Q := r_iload (k := 4) (by decide +kernel) rfl
theorem k134_62 : qx sc D 134 62 ls st u bb σ Q ↔ qx sc D 134 65 ls (vi 20000 :: st) u bb σ Q := r_sipush (by decide +kernel)
theorem k134_65 : qx sc D 134 65 ls (vi b' :: vi a' :: st) u bb σ Q ↔ (b' < a' → qx sc D 134 68 ls st u bb σ Q) ∧ (¬ (b' < a') → qx sc D 134 86 ls st u bb σ Q) := r_ic_le (off := 21) (t := 86) (by decide +kernel)
theorem k134_68 : qx sc D 134 68 [l0, l1, l2, l3, vi x] st u bb σ Q ↔ qx sc D 134 70 [l0, l1, l2, l3, vi x] (vi x :: st) u bb σ Q := r_iload (k := 4) (by decide +kernel) rfl
theorem k134_70 : qx sc D 134 70 ls st u bb σ Q ↔ qx sc D 134 73 ls (vi 268435456 :: st) u bb σ Q := r_ldc_w (idx := 361) (v := 268435456) (by decide +kernel)
theorem k134_73 : qx sc D 134 73 ls (vi b' :: vi a' :: st) u bb σ Q ↔ (a' < b' → qx sc D 134 76 ls st u bb σ Q) ∧ (¬ (a' < b') → qx sc D 134 86 ls st u bb σ Q) := r_ic_ge (off := 13) (t := 86) (by decide +kernel)
theorem k134_76 : qx sc D 134 76 [l0, vi x, l2, l3, l4] st u bb σ Q ↔ qx sc D 134 77 [l0, vi x, l2, l3, l4] (vi x :: st) u bb σ Q := r_iload_n (k := 1) (by decide +kernel) rfl
theorem k134_77 : qx sc D 134 77 ls st u bb σ Q ↔ qx sc D 134 78 ls (vi 3 :: st) u bb σ Q := r_iconst (by decide +kernel)
theorem k134_78 : qx sc D 134 78 ls (vi b' :: vi a' :: st) u bb σ Q ↔ (a' = b' → qx sc D 134 86 ls st u bb σ Q) ∧ (¬ (a' = b') → qx sc D 134 81 ls st u bb σ Q) := r_ic_eq (off := 8) (t := 86) (by decide +kernel)
theorem k134_81 : qx sc D 134 81 ls st u bb σ Q ↔ qx sc D 134 84 ls (vi 268435456 :: st) u bb σ Q := r_ldc_w (idx := 361) (v := 268435456) (by decide +kernel)
theorem k134_84 : qx sc D 134 84 [l0, l1, l2, l3, l4] (vi x :: st) u bb σ Q ↔ qx sc D 134 86 [l0, l1, l2, l3, vi x] st u bb σ Q := r_istore (k := 4) (by decide +kernel) (Nat.le_of_ble_eq_true rfl)
theorem k134_86 : qx sc D 134 86 [l0, l1, l2, l3, vi x] st u bb σ Q ↔ qx sc D 134 88 [l0, l1, l2, l3, vi x] (vi x :: st) u bb σ Q := r_iload (k := 4) (by decide +kernel) rfl
theorem k134_88 : qx sc D 134 88 ls st u bb σ Q ↔ qx sc D 134 91 ls (vi (-20000) :: st) u bb σ Q := r_sipush (by decide +kernel)
theorem k134_91 : qx sc D 134 91 ls (vi b' :: vi a' :: st) u bb σ Q ↔ (a' < b' → qx sc D 134 94 ls st u bb σ Q) ∧ (¬ (a' < b') → qx sc D 134 112 ls st u bb σ Q) := r_ic_ge (off := 21) (t := 112) (by decide +kernel)
theorem k134_94 : qx sc D 134 94 [l0, l1, l2, l3, vi x] st u bb σ Q ↔ qx sc D 134 96 [l0, l1, l2, l3, vi x] (vi x :: st) u bb σ Q := r_iload (k := 4) (by decide +kernel) rfl
theorem k134_96 : qx sc D 134 96 ls st u bb σ Q ↔ qx sc D 134 99 ls (vi (-268435456) :: st) u bb σ Q := r_ldc_w (idx := 362) (v := (-268435456)) (by decide +kernel)
theorem k134_99 : qx sc D 134 99 ls (vi b' :: vi a' :: st) u bb σ Q ↔ (b' < a' → qx sc D 134 102 ls st u bb σ Q) ∧ (¬ (b' < a') → qx sc D 134 112 ls st u bb σ Q) := r_ic_le (off := 13) (t := 112) (by decide +kernel)
theorem k134_102 : qx sc D 134 102 [l0, vi x, l2, l3, l4] st u bb σ Q ↔ qx sc D 134 103 [l0, vi x, l2, l3, l4] (vi x :: st) u bb σ Q := r_iload_n (k := 1) (by decide +kernel) rfl
theorem k134_103 : qx sc D 134 103 ls st u bb σ Q ↔ qx sc D 134 104 ls (vi 3 :: st) u bb σ Q := r_iconst (by decide +kernel)
theorem k134_104 : qx sc D 134 104 ls (vi b' :: vi a' :: st) u bb σ Q ↔ (a' = b' → qx sc D 134 107 ls st u bb σ Q) ∧ (¬ (a' = b') → qx sc D 134 112 ls st u bb σ Q) := r_ic_ne (off := 8) (t := 112) (by decide +kernel)
theorem k134_107 : qx sc D 134 107 ls st u bb σ Q ↔ qx sc D 134 110 ls (vi (-268435456) :: st) u bb σ Q := r_ldc_w (idx := 362) (v := (-268435456)) (by decide +kernel)
theorem k134_110 : qx sc D 134 110 [l0, l1, l2, l3, l4] (vi x :: st) u bb σ Q ↔ qx sc D 134 112 [l0, l1, l2, l3, vi x] st u bb σ Q := r_istore (k := 4) (by decide +kernel) (Nat.le_of_ble_eq_true rfl)
theorem k134_112 : qx sc D 134 112 [l0, l1, vi x, l3, l4] st u bb σ Q ↔ qx sc D 134 113 [l0, l1, vi x, l3, l4] (vi x :: st) u bb σ Q := r_iload_n (k := 2) (by decide +kernel) rfl
theorem k134_113 : qx sc D 134 113 ls (vi x :: st) u bb σ Q ↔ (x = 0 → qx sc D 134 116 ls st u bb σ Q) ∧ (¬ (x = 0) → qx sc D 134 127 ls st u bb σ Q) := r_if_ne (off := 14) (t := 127) (by decide +kernel)
theorem k134_116 : qx sc D 134 116 [l0, l1, l2, l3, vi x] st u bb σ Q ↔ qx sc D 134 118 [l0, l1, l2, l3, vi x] (vi x :: st) u bb σ Q := r_iload (k := 4) (by decide +kernel) rfl
theorem k134_118 : qx sc D 134 118 [vr a, l1, l2, l3, l4] st u bb σ Q ↔ qx sc D 134 119 [vr a, l1, l2, l3, l4] (vr a :: st) u bb σ Q := r_aload_n (k := 0) (by decide +kernel) rfl
theorem k134_119 : qx sc D 134 119 [l0, vi x, l2, l3, l4] st u bb σ Q ↔ qx sc D 134 120 [l0, vi x, l2, l3, l4] (vi x :: st) u bb σ Q := r_iload_n (k := 1) (by decide +kernel) rfl
theorem k134_120 : qx sc D 134 120 [l0, l1, l2, vi x, l4] st u bb σ Q ↔ qx sc D 134 121 [l0, l1, l2, vi x, l4] (vi x :: st) u bb σ Q := r_iload_n (k := 3) (by decide +kernel) rfl
theorem k134_121 : qx sc (D + 1) 134 121 ls [vi x1, vi x0, vr 136, vi x20] (0, 0) bb σ Q ↔ qx sc D 133 0 [vr 136, vi x0, vi x1] [] (0, 0) bb σ (q_kn sc (D + 1) 134 124 ls [vi x20] (0, 0) Q) := r_callv (idx := 369) (n := 2) (m := 3) (by decide +kernel) rfl (Nat.le_of_ble_eq_true rfl) ⟨Nat.le_of_ble_eq_true rfl, Nat.le_of_ble_eq_true rfl, rfl⟩ rfl
theorem k134_124 : qx sc D 134 124 ls (vi b' :: vi a' :: st) u bb σ Q ↔ (a' = b' → qx sc D 134 131 ls st u bb σ Q) ∧ (¬ (a' = b') → qx sc D 134 127 ls st u bb σ Q) := r_ic_eq (off := 7) (t := 131) (by decide +kernel)
theorem k134_127 : qx sc D 134 127 ls st u bb σ Q ↔ qx sc D 134 128 ls (vi 1 :: st) u bb σ Q := r_iconst (by decide +kernel)
theorem k134_128 : qx sc D 134 128 ls st u bb σ Q ↔ qx sc D 134 132 ls st u bb σ Q := r_goto (off := 4) (by decide +kernel)
theorem k134_131 : qx sc D 134 131 ls st u bb σ Q ↔ qx sc D 134 132 ls (vi 0 :: st) u bb σ Q := r_iconst (by decide +kernel)
theorem k134_132 : qx sc D 134 132 [l0, l1, l2, l3, l4] (vi x :: st) u bb σ Q ↔ qx sc D 134 133 [l0, l1, vi x, l3, l4] st u bb σ Q := r_istore_n (k := 2) (by decide +kernel) (Nat.le_of_ble_eq_true rfl)
theorem k134_133 : qx sc D 134 133 [vr a, l1, l2, l3, l4] st u bb σ Q ↔ qx sc D 134 134 [vr a, l1, l2, l3, l4] (vr a :: st) u bb σ Q := r_aload_n (k := 0) (by decide +kernel) rfl
theorem k134_134 : qx sc D 134 134 ls (vr 136 :: st) u bb σ Q ↔ qx sc D 134 137 ls (vr 173 :: st) u bb σ Q := r_getR (idx := 310) (c := 15) (k := 53) (by decide +kernel)
theorem k134_137 : qx sc D 134 137 ls st u bb σ Q ↔ qx sc D 134 140 ls (vi 700 :: st) u bb σ Q := r_sipush (by decide +kernel)
theorem k134_140 : qx sc D 134 140 [l0, vi x, l2, l3, l4] st u bb σ Q ↔ qx sc D 134 141 [l0, vi x, l2, l3, l4] (vi x :: st) u bb σ Q := r_iload_n (k := 1) (by decide +kernel) rfl
theorem k134_141 : qx sc D 134 141 ls (vi b' :: vi a' :: st) u bb σ Q ↔ q_R (a' * b') ∧ qx sc D 134 142 ls (vi (a' * b') :: st) u bb σ Q := r_imul (by decide +kernel)
theorem k134_142 : qx sc D 134 142 [l0, l1, l2, vi x, l4] st u bb σ Q ↔ qx sc D 134 143 [l0, l1, l2, vi x, l4] (vi x :: st) u bb σ Q := r_iload_n (k := 3) (by decide +kernel) rfl
theorem k134_143 : qx sc D 134 143 ls (vi b' :: vi a' :: st) u bb σ Q ↔ q_R (a' + b') ∧ qx sc D 134 144 ls (vi (a' + b') :: st) u bb σ Q := r_iadd (by decide +kernel)
theorem k134_144 : qx sc D 134 144 [l0, l1, l2, l3, vi x] st u bb σ Q ↔ qx sc D 134 146 [l0, l1, l2, l3, vi x] (vi x :: st) u bb σ Q := r_iload (k := 4) (by decide +kernel) rfl
theorem k134_146 : qx sc D 134 146 ls (vi x :: vi i :: vr a :: st) u bb σ Q ↔ (q_ty a = 0 ∧ 0 ≤ i ∧ i < q_ln a) ∧ qx sc D 134 147 ls st u bb (q_up σ a i x) Q := r_iast (by decide +kernel)
theorem k134_147 : qx sc D 134 147 [l0, l1, l2, vi x, l4] st u bb σ Q ↔ q_R (x + 1) ∧ qx sc D 134 150 [l0, l1, l2, vi (x + 1), l4] st u bb σ Q := r_iinc (k := 3) (n := 1) (by decide +kernel) rfl
theorem k134_150 : qx sc D 134 150 ls st u bb σ Q ↔ qx sc D 134 44 ls st u bb σ Q := r_goto (off := (-106)) (by decide +kernel)
theorem k134_153 : qx sc D 134 153 ls st u bb σ Q ↔ qx sc D 134 36 ls st u bb σ Q := r_goto (off := (-117)) (by decide +kernel)
theorem k134_156 : qx sc D 134 156 ls [] (0, 0) bb σ Q ↔ Q (.inl none) bb σ := r_retV (by decide +kernel)
-- 135: RowProverModel.boundsAll(I)V
theorem k135_0 : qx sc D 135 0 [vr a, l1, l2] st u bb σ Q ↔ qx sc D 135 1 [vr a, l1, l2] (vr a :: st) u bb σ Q := r_aload_n (k := 0) (by decide +kernel) rfl
theorem k135_1 : qx sc D 135 1 [l0, vi x, l2] st u bb σ Q ↔ qx sc D 135 2 [l0, vi x, l2] (vi x :: st) u bb σ Q := r_iload_n (k := 1) (by decide +kernel) rfl
theorem k135_2 : qx sc D 135 2 ls (vi x :: vr 136 :: st) u bb σ Q ↔ qx sc D 135 5 ls st u bb (q_up σ 136 54 x) Q := r_putI (idx := 384) (c := 15) (k := 54) (by decide +kernel)
theorem k135_5 : qx sc D 135 5 ls st u bb σ Q ↔ qx sc D 135 6 ls (vi 0 :: st) u bb σ Q := r_iconst (by decide +kernel)
theorem k135_6 : qx sc D 135 6 [l0, l1, l2] (vi x :: st) u bb σ Q ↔ qx sc D 135 7 [l0, l1, vi x] st u bb σ Q := r_istore_n (k := 2) (by decide +kernel) (Nat.le_of_ble_eq_true rfl)
theorem k135_7 : qx sc D 135 7 [l0, l1, vi x] st u bb σ Q ↔ qx sc D 135 8 [l0, l1, vi x] (vi x :: st) u bb σ Q := r_iload_n (k := 2) (by decide +kernel) rfl
theorem k135_8 : qx sc D 135 8 ls st u bb σ Q ↔ qx sc D 135 9 ls (vi 3 :: st) u bb σ Q := r_iconst (by decide +kernel)
theorem k135_9 : qx sc D 135 9 ls (vi b' :: vi a' :: st) u bb σ Q ↔ (b' < a' → qx sc D 135 23 ls st u bb σ Q) ∧ (¬ (b' < a') → qx sc D 135 12 ls st u bb σ Q) := r_ic_gt (off := 14) (t := 23) (by decide +kernel)
theorem k135_12 : qx sc D 135 12 [vr a, l1, l2] st u bb σ Q ↔ qx sc D 135 13 [vr a, l1, l2] (vr a :: st) u bb σ Q := r_aload_n (k := 0) (by decide +kernel) rfl
theorem k135_13 : qx sc D 135 13 [l0, l1, vi x] st u bb σ Q ↔ qx sc D 135 14 [l0, l1, vi x] (vi x :: st) u bb σ Q := r_iload_n (k := 2) (by decide +kernel) rfl
theorem k135_14 : qx sc (D + 1) 135 14 ls [vi x0, vr 136] (0, 0) bb σ Q ↔ qx sc D 134 0 [vr 136, vi x0, vn, vn, vn] [] (0, 0) bb σ (q_kn sc (D + 1) 135 17 ls [] (0, 0) Q) := r_callv (idx := 405) (n := 1) (m := 5) (by decide +kernel) rfl (Nat.le_of_ble_eq_true rfl) ⟨Nat.le_of_ble_eq_true rfl, Nat.le_of_ble_eq_true rfl, rfl⟩ rfl
theorem k135_17 : qx sc D 135 17 [l0, l1, vi x] st u bb σ Q ↔ q_R (x + 1) ∧ qx sc D 135 20 [l0, l1, vi (x + 1)] st u bb σ Q := r_iinc (k := 2) (n := 1) (by decide +kernel) rfl
theorem k135_20 : qx sc D 135 20 ls st u bb σ Q ↔ qx sc D 135 7 ls st u bb σ Q := r_goto (off := (-13)) (by decide +kernel)
theorem k135_23 : qx sc D 135 23 ls [] (0, 0) bb σ Q ↔ Q (.inl none) bb σ := r_retV (by decide +kernel)
-- 136: RowProverModel.chain(IZI)I
theorem k136_0 : qx sc D 136 0 [vr a, l1, l2, l3] st u bb σ Q ↔ qx sc D 136 1 [vr a, l1, l2, l3] (vr a :: st) u bb σ Q := r_aload_n (k := 0) (by decide +kernel) rfl
theorem k136_1 : qx sc D 136 1 ls st u bb σ Q ↔ qx sc D 136 2 ls (vi 0 :: st) u bb σ Q := r_iconst (by decide +kernel)
theorem k136_2 : qx sc D 136 2 ls (vi x :: vr 136 :: st) u bb σ Q ↔ qx sc D 136 5 ls st u bb (q_up σ 136 0 x) Q := r_putI (idx := 3) (c := 15) (k := 0) (by decide +kernel)
theorem k136_5 : qx sc D 136 5 [vr a, l1, l2, l3] st u bb σ Q ↔ qx sc D 136 6 [vr a, l1, l2, l3] (vr a :: st) u bb σ Q := r_aload_n (k := 0) (by decide +kernel) rfl
theorem k136_6 : qx sc D 136 6 [l0, vi x, l2, l3] st u bb σ Q ↔ qx sc D 136 7 [l0, vi x, l2, l3] (vi x :: st) u bb σ Q := r_iload_n (k := 1) (by decide +kernel) rfl
theorem k136_7 : qx sc (D + 1) 136 7 ls [vi x0, vr 136] (0, 0) bb σ Q ↔ qx sc D 184 0 [vr 136, vi x0] [] (0, 0) bb σ (q_kn sc (D + 1) 136 10 ls [] (0, 0) Q) := r_callv (idx := 521) (n := 1) (m := 2) (by decide +kernel) rfl (Nat.le_of_ble_eq_true rfl) ⟨Nat.le_of_ble_eq_true rfl, Nat.le_of_ble_eq_true rfl, rfl⟩ rfl
theorem k136_10 : qx sc D 136 10 ls (vi x :: st) u bb σ Q ↔ (x = 0 → qx sc D 136 13 ls st u bb σ Q) ∧ (¬ (x = 0) → qx sc D 136 56 ls st u bb σ Q) := r_if_ne (off := 46) (t := 56) (by decide +kernel)
theorem k136_13 : qx sc D 136 13 [vr a, l1, l2, l3] st u bb σ Q ↔ qx sc D 136 14 [vr a, l1, l2, l3] (vr a :: st) u bb σ Q := r_aload_n (k := 0) (by decide +kernel) rfl
theorem k136_14 : qx sc D 136 14 [l0, l1, vi x, l3] st u bb σ Q ↔ qx sc D 136 15 [l0, l1, vi x, l3] (vi x :: st) u bb σ Q := r_iload_n (k := 2) (by decide +kernel) rfl
theorem k136_15 : qx sc D 136 15 ls (vi x :: st) u bb σ Q ↔ (x = 0 → qx sc D 136 35 ls st u bb σ Q) ∧ (¬ (x = 0) → qx sc D 136 18 ls st u bb σ Q) := r_if_eq (off := 20) (t := 35) (by decide +kernel)
theorem k136_18 : qx sc D 136 18 [vr a, l1, l2, l3] st u bb σ Q ↔ qx sc D 136 19 [vr a, l1, l2, l3] (vr a :: st) u bb σ Q := r_aload_n (k := 0) (by decide +kernel) rfl
theorem k136_19 : qx sc D 136 19 ls (vr 136 :: st) u bb σ Q ↔ qx sc D 136 22 ls (vr 179 :: st) u bb σ Q := r_getR (idx := 329) (c := 15) (k := 60) (by decide +kernel)
theorem k136_22 : qx sc D 136 22 [l0, vi x, l2, l3] st u bb σ Q ↔ qx sc D 136 23 [l0, vi x, l2, l3] (vi x :: st) u bb σ Q := r_iload_n (k := 1) (by decide +kernel) rfl
theorem k136_23 : qx sc D 136 23 ls (vi i :: vr a :: st) u bb σ Q ↔ ((q_ty a = 1 ∨ q_ty a = 2) ∧ 0 ≤ i ∧ i < q_ln a) ∧ qx sc D 136 24 ls (vi (σ a i) :: st) u bb σ Q := r_bald (by decide +kernel)
theorem k136_24 : qx sc D 136 24 ls (vi x :: st) u bb σ Q ↔ (x = 0 → qx sc D 136 27 ls st u bb σ Q) ∧ (¬ (x = 0) → qx sc D 136 31 ls st u bb σ Q) := r_if_ne (off := 7) (t := 31) (by decide +kernel)
theorem k136_27 : qx sc D 136 27 ls st u bb σ Q ↔ qx sc D 136 28 ls (vi 1 :: st) u bb σ Q := r_iconst (by decide +kernel)
theorem k136_28 : qx sc D 136 28 ls st u bb σ Q ↔ qx sc D 136 49 ls st u bb σ Q := r_goto (off := 21) (by decide +kernel)
theorem k136_31 : qx sc D 136 31 ls st u bb σ Q ↔ qx sc D 136 32 ls (vi 0 :: st) u bb σ Q := r_iconst (by decide +kernel)
theorem k136_32 : qx sc D 136 32 ls st u bb σ Q ↔ qx sc D 136 49 ls st u bb σ Q := r_goto (off := 17) (by decide +kernel)
theorem k136_35 : qx sc D 136 35 [vr a, l1, l2, l3] st u bb σ Q ↔ qx sc D 136 36 [vr a, l1, l2, l3] (vr a :: st) u bb σ Q := r_aload_n (k := 0) (by decide +kernel) rfl
theorem k136_36 : qx sc D 136 36 ls (vr 136 :: st) u bb σ Q ↔ qx sc D 136 39 ls (vr 178 :: st) u bb σ Q := r_getR (idx := 325) (c := 15) (k := 59) (by decide +kernel)
theorem k136_39 : qx sc D 136 39 [l0, vi x, l2, l3] st u bb σ Q ↔ qx sc D 136 40 [l0, vi x, l2, l3] (vi x :: st) u bb σ Q := r_iload_n (k := 1) (by decide +kernel) rfl
theorem k136_40 : qx sc D 136 40 ls (vi i :: vr a :: st) u bb σ Q ↔ ((q_ty a = 1 ∨ q_ty a = 2) ∧ 0 ≤ i ∧ i < q_ln a) ∧ qx sc D 136 41 ls (vi (σ a i) :: st) u bb σ Q := r_bald (by decide +kernel)
theorem k136_41 : qx sc D 136 41 ls (vi x :: st) u bb σ Q ↔ (x = 0 → qx sc D 136 44 ls st u bb σ Q) ∧ (¬ (x = 0) → qx sc D 136 48 ls st u bb σ Q) := r_if_ne (off := 7) (t := 48) (by decide +kernel)
theorem k136_44 : qx sc D 136 44 ls st u bb σ Q ↔ qx sc D 136 45 ls (vi 1 :: st) u bb σ Q := r_iconst (by decide +kernel)
theorem k136_45 : qx sc D 136 45 ls st u bb σ Q ↔ qx sc D 136 49 ls st u bb σ Q := r_goto (off := 4) (by decide +kernel)
theorem k136_48 : qx sc D 136 48 ls st u bb σ Q ↔ qx sc D 136 49 ls (vi 0 :: st) u bb σ Q := r_iconst (by decide +kernel)
theorem k136_49 : qx sc D 136 49 ls st u bb σ Q ↔ qx sc D 136 50 ls (vi 2 :: st) u bb σ Q := r_iconst (by decide +kernel)
theorem k136_50 : qx sc (D + 1) 136 50 ls [vi x1, vi x0, vr 136] (0, 0) bb σ Q ↔ qx sc D 224 0 [vr 136, vi x0, vi x1] [] (0, 0) bb σ (q_kn sc (D + 1) 136 53 ls [] (0, 0) Q) := r_callv (idx := 501) (n := 2) (m := 3) (by decide +kernel) rfl (Nat.le_of_ble_eq_true rfl) ⟨Nat.le_of_ble_eq_true rfl, Nat.le_of_ble_eq_true rfl, rfl⟩ rfl
theorem k136_53 : qx sc D 136 53 ls (vi x :: st) u bb σ Q ↔ (x = 0 → qx sc D 136 58 ls st u bb σ Q) ∧ (¬ (x = 0) → qx sc D 136 56 ls st u bb σ Q) := r_if_eq (off := 5) (t := 58) (by decide +kernel)
theorem k136_56 : qx sc D 136 56 ls st u bb σ Q ↔ qx sc D 136 57 ls (vi 0 :: st) u bb σ Q := r_iconst (by decide +kernel)
theorem k136_57 : qx sc D 136 57 ls [vi x] (0, 0) bb σ Q ↔ Q (.inl (some (vi x))) bb σ := r_ret (by decide +kernel)
theorem k136_58 : qx sc D 136 58 [vr a, l1, l2, l3] st u bb σ Q ↔ qx sc D 136 59 [vr a, l1, l2, l3] (vr a :: st) u bb σ Q := r_aload_n (k := 0) (by decide +kernel) rfl
theorem k136_59 : qx sc D 136 59 [l0, l1, vi x, l3] st u bb σ Q ↔ qx sc D 136 60 [l0, l1, vi x, l3] (vi x :: st) u bb σ Q := r_iload_n (k := 2) (by decide +kernel) rfl
theorem k136_60 : qx sc D 136 60 ls (vi x :: st) u bb σ Q ↔ (x = 0 → qx sc D 136 72 ls st u bb σ Q) ∧ (¬ (x = 0) → qx sc D 136 63 ls st u bb σ Q) := r_if_eq (off := 12) (t := 72) (by decide +kernel)
theorem k136_63 : qx sc D 136 63 [vr a, l1, l2, l3] st u bb σ Q ↔ qx sc D 136 64 [vr a, l1, l2, l3] (vr a :: st) u bb σ Q := r_aload_n (k := 0) (by decide +kernel) rfl
theorem k136_64 : qx sc D 136 64 ls (vr 136 :: st) u bb σ Q ↔ qx sc D 136 67 ls (vr 156 :: st) u bb σ Q := r_getR (idx := 199) (c := 15) (k := 33) (by decide +kernel)
theorem k136_67 : qx sc D 136 67 [l0, vi x, l2, l3] st u bb σ Q ↔ qx sc D 136 68 [l0, vi x, l2, l3] (vi x :: st) u bb σ Q := r_iload_n (k := 1) (by decide +kernel) rfl
theorem k136_68 : qx sc D 136 68 ls (vi i :: vr a :: st) u bb σ Q ↔ (q_ty a = 0 ∧ 0 ≤ i ∧ i < q_ln a) ∧ qx sc D 136 69 ls (vi (σ a i) :: st) u bb σ Q := r_iald (by decide +kernel)
theorem k136_69 : qx sc D 136 69 ls st u bb σ Q ↔ qx sc D 136 73 ls st u bb σ Q := r_goto (off := 4) (by decide +kernel)
theorem k136_72 : qx sc D 136 72 ls st u bb σ Q ↔ qx sc D 136 73 ls (vi 3 :: st) u bb σ Q := r_iconst (by decide +kernel)
theorem k136_73 : qx sc D 136 73 [vr a, l1, l2, l3] st u bb σ Q ↔ qx sc D 136 74 [vr a, l1, l2, l3] (vr a :: st) u bb σ Q := r_aload_n (k := 0) (by decide +kernel) rfl
theorem k136_74 : qx sc D 136 74 ls (vr 136 :: st) u bb σ Q ↔ qx sc D 136 77 ls (vr 157 :: st) u bb σ Q := r_getR (idx := 202) (c := 15) (k := 34) (by decide +kernel)
theorem k136_77 : qx sc D 136 77 [l0, vi x, l2, l3] st u bb σ Q ↔ qx sc D 136 78 [l0, vi x, l2, l3] (vi x :: st) u bb σ Q := r_iload_n (k := 1) (by decide +kernel) rfl
theorem k136_78 : qx sc D 136 78 ls (vi i :: vr a :: st) u bb σ Q ↔ (q_ty a = 0 ∧ 0 ≤ i ∧ i < q_ln a) ∧ qx sc D 136 79 ls (vi (σ a i) :: st) u bb σ Q := r_iald (by decide +kernel)
theorem k136_79 : qx sc (D + 1) 136 79 ls [vi x1, vi x0, vr 136] (0, 0) bb σ Q ↔ qx sc D 173 0 [vr 136, vi x0, vi x1, vn] [] (0, 0) bb σ (q_kn sc (D + 1) 136 82 ls [] (0, 0) Q) := r_callv (idx := 524) (n := 2) (m := 4) (by decide +kernel) rfl (Nat.le_of_ble_eq_true rfl) ⟨Nat.le_of_ble_eq_true rfl, Nat.le_of_ble_eq_true rfl, rfl⟩ rfl
theorem k136_82 : qx sc D 136 82 [l0, l1, l2, vi x] st u bb σ Q ↔ qx sc D 136 83 [l0, l1, l2, vi x] (vi x :: st) u bb σ Q := r_iload_n (k := 3) (by decide +kernel) rfl
theorem k136_83 : qx sc D 136 83 ls st u bb σ Q ↔ qx sc D 136 84 ls (vi 0 :: st) u bb σ Q := r_iconst (by decide +kernel)
theorem k136_84 : qx sc D 136 84 [vr a, l1, l2, l3] st u bb σ Q ↔ qx sc D 136 85 [vr a, l1, l2, l3] (vr a :: st) u bb σ Q := r_aload_n (k := 0) (by decide +kernel) rfl
theorem k136_85 : qx sc D 136 85 ls (vr 136 :: st) u bb σ Q ↔ qx sc D 136 88 ls (vi (σ 136 62) :: st) u bb σ Q := r_getI (idx := 428) (c := 15) (k := 62) (by decide +kernel)
theorem k136_88 : qx sc D 136 88 ls st u bb σ Q ↔ qx sc D 136 89 ls (vi 1 :: st) u bb σ Q := r_iconst (by decide +kernel)
theorem k136_89 : qx sc D 136 89 ls (vi b' :: vi a' :: st) u bb σ Q ↔ q_R (a' - b') ∧ qx sc D 136 90 ls (vi (a' - b') :: st) u bb σ Q := r_isub (by decide +kernel)
theorem k136_90 : qx sc (D + 1) 136 90 ls [vi x2, vi x1, vi x0] (0, 0) bb σ Q ↔ qx sc D 157 0 [vi x0, vi x1, vi x2] [] (0, 0) bb σ (q_kn sc (D + 1) 136 93 ls [] (0, 0) Q) := r_calls (idx := 498) (n := 3) (m := 3) (by decide +kernel) rfl (Nat.le_of_ble_eq_true rfl) ⟨Nat.le_of_ble_eq_true rfl, Nat.le_of_ble_eq_true rfl, rfl⟩ rfl
theorem k136_93 : qx sc D 136 93 ls (vi x :: st) u bb σ Q ↔ (x = 0 → qx sc D 136 105 ls st u bb σ Q) ∧ (¬ (x = 0) → qx sc D 136 96 ls st u bb σ Q) := r_if_eq (off := 12) (t := 105) (by decide +kernel)
theorem k136_96 : qx sc D 136 96 [vr a, l1, l2, l3] st u bb σ Q ↔ qx sc D 136 97 [vr a, l1, l2, l3] (vr a :: st) u bb σ Q := r_aload_n (k := 0) (by decide +kernel) rfl
theorem k136_97 : qx sc D 136 97 ls (vr 136 :: st) u bb σ Q ↔ qx sc D 136 100 ls (vr 180 :: st) u bb σ Q := r_getR (idx := 332) (c := 15) (k := 61) (by decide +kernel)
theorem k136_100 : qx sc D 136 100 [l0, l1, l2, vi x] st u bb σ Q ↔ qx sc D 136 101 [l0, l1, l2, vi x] (vi x :: st) u bb σ Q := r_iload_n (k := 3) (by decide +kernel) rfl
theorem k136_101 : qx sc D 136 101 ls (vi i :: vr a :: st) u bb σ Q ↔ (q_ty a = 0 ∧ 0 ≤ i ∧ i < q_ln a) ∧ qx sc D 136 102 ls (vi (σ a i) :: st) u bb σ Q := r_iald (by decide +kernel)
theorem k136_102 : qx sc D 136 102 ls st u bb σ Q ↔ qx sc D 136 106 ls st u bb σ Q := r_goto (off := 4) (by decide +kernel)
theorem k136_105 : qx sc D 136 105 ls st u bb σ Q ↔ qx sc D 136 106 ls (vi (-1) :: st) u bb σ Q := r_iconst (by decide +kernel)
theorem k136_106 : qx sc D 136 106 ls [vi x] (0, 0) bb σ Q ↔ Q (.inl (some (vi x))) bb σ := r_ret (by decide +kernel)
-- 137: RowProverModel.check(II)I
theorem k137_0 : qx sc D 137 0 [vr a, l1, l2] st u bb σ Q ↔ qx sc D 137 1 [vr a, l1, l2] (vr a :: st) u bb σ Q := r_aload_n (k := 0) (by decide +kernel) rfl
theorem k137_1 : qx sc D 137 1 ls st u bb σ Q ↔ qx sc D 137 2 ls (vi 0 :: st) u bb σ Q := r_iconst (by decide +kernel)
theorem k137_2 : qx sc D 137 2 ls (vi x :: vr 136 :: st) u bb σ Q ↔ qx sc D 137 5 ls st u bb (q_up σ 136 0 x) Q := r_putI (idx := 3) (c := 15) (k := 0) (by decide +kernel)
theorem k137_5 : qx sc D 137 5 [vr a, l1, l2] st u bb σ Q ↔ qx sc D 137 6 [vr a, l1, l2] (vr a :: st) u bb σ Q := r_aload_n (k := 0) (by decide +kernel) rfl
theorem k137_6 : qx sc D 137 6 [l0, vi x, l2] st u bb σ Q ↔ qx sc D 137 7 [l0, vi x, l2] (vi x :: st) u bb σ Q := r_iload_n (k := 1) (by decide +kernel) rfl
theorem k137_7 : qx sc (D + 1) 137 7 ls [vi x0, vr 136] (0, 0) bb σ Q ↔ qx sc D 184 0 [vr 136, vi x0] [] (0, 0) bb σ (q_kn sc (D + 1) 137 10 ls [] (0, 0) Q) := r_callv (idx := 521) (n := 1) (m := 2) (by decide +kernel) rfl (Nat.le_of_ble_eq_true rfl) ⟨Nat.le_of_ble_eq_true rfl, Nat.le_of_ble_eq_true rfl, rfl⟩ rfl
theorem k137_10 : qx sc D 137 10 ls (vi x :: st) u bb σ Q ↔ (x = 0 → qx sc D 137 13 ls st u bb σ Q) ∧ (¬ (x = 0) → qx sc D 137 36 ls st u bb σ Q) := r_if_ne (off := 26) (t := 36) (by decide +kernel)
theorem k137_13 : qx sc D 137 13 [vr a, l1, l2] st u bb σ Q ↔ qx sc D 137 14 [vr a, l1, l2] (vr a :: st) u bb σ Q := r_aload_n (k := 0) (by decide +kernel) rfl
theorem k137_14 : qx sc D 137 14 [l0, l1, vi x] st u bb σ Q ↔ qx sc D 137 15 [l0, l1, vi x] (vi x :: st) u bb σ Q := r_iload_n (k := 2) (by decide +kernel) rfl
theorem k137_15 : qx sc D 137 15 ls st u bb σ Q ↔ qx sc D 137 16 ls (vi 0 :: st) u bb σ Q := r_iconst (by decide +kernel)
theorem k137_16 : qx sc D 137 16 ls st u bb σ Q ↔ qx sc D 137 18 ls (vi 8 :: st) u bb σ Q := r_bipush (by decide +kernel)
theorem k137_18 : qx sc (D + 1) 137 18 ls [vi x2, vi x1, vi x0, vr a20] (0, 0) bb σ Q ↔ qx sc D 157 0 [vi x0, vi x1, vi x2] [] (0, 0) bb σ (q_kn sc (D + 1) 137 21 ls [vr a20] (0, 0) Q) := r_calls (idx := 498) (n := 3) (m := 3) (by decide +kernel) rfl (Nat.le_of_ble_eq_true rfl) ⟨Nat.le_of_ble_eq_true rfl, Nat.le_of_ble_eq_true rfl, rfl⟩ rfl
theorem k137_21 : qx sc D 137 21 ls (vi x :: st) u bb σ Q ↔ (x = 0 → qx sc D 137 24 ls st u bb σ Q) ∧ (¬ (x = 0) → qx sc D 137 28 ls st u bb σ Q) := r_if_ne (off := 7) (t := 28) (by decide +kernel)
theorem k137_24 : qx sc D 137 24 ls st u bb σ Q ↔ qx sc D 137 25 ls (vi 1 :: st) u bb σ Q := r_iconst (by decide +kernel)
theorem k137_25 : qx sc D 137 25 ls st u bb σ Q ↔ qx sc D 137 29 ls st u bb σ Q := r_goto (off := 4) (by decide +kernel)
theorem k137_28 : qx sc D 137 28 ls st u bb σ Q ↔ qx sc D 137 29 ls (vi 0 :: st) u bb σ Q := r_iconst (by decide +kernel)
theorem k137_29 : qx sc D 137 29 ls st u bb σ Q ↔ qx sc D 137 30 ls (vi 2 :: st) u bb σ Q := r_iconst (by decide +kernel)
theorem k137_30 : qx sc (D + 1) 137 30 ls [vi x1, vi x0, vr 136] (0, 0) bb σ Q ↔ qx sc D 224 0 [vr 136, vi x0, vi x1] [] (0, 0) bb σ (q_kn sc (D + 1) 137 33 ls [] (0, 0) Q) := r_callv (idx := 501) (n := 2) (m := 3) (by decide +kernel) rfl (Nat.le_of_ble_eq_true rfl) ⟨Nat.le_of_ble_eq_true rfl, Nat.le_of_ble_eq_true rfl, rfl⟩ rfl
theorem k137_33 : qx sc D 137 33 ls (vi x :: st) u bb σ Q ↔ (x = 0 → qx sc D 137 38 ls st u bb σ Q) ∧ (¬ (x = 0) → qx sc D 137 36 ls st u bb σ Q) := r_if_eq (off := 5) (t := 38) (by decide +kernel)
theorem k137_36 : qx sc D 137 36 ls st u bb σ Q ↔ qx sc D 137 37 ls (vi 0 :: st) u bb σ Q := r_iconst (by decide +kernel)
theorem k137_37 : qx sc D 137 37 ls [vi x] (0, 0) bb σ Q ↔ Q (.inl (some (vi x))) bb σ := r_ret (by decide +kernel)
theorem k137_38 : qx sc D 137 38 [l0, l1, vi x] st u bb σ Q ↔ qx sc D 137 39 [l0, l1, vi x] (vi x :: st) u bb σ Q := r_iload_n (k := 2) (by decide +kernel) rfl
theorem k137_39 : qx sc D 137 39 ls (vi x :: st) u bb σ Q ↔ qx sc D 137 (if x < 0 ∨ 7 < x then 161 else [84, 91, 98, 105, 120, 135, 142, 149].getD (x - 0).toNat 0) ls st u bb σ Q := r_tsw (d := 122) (lo := 0) (hi := 7) (offs := #[45, 52, 59, 66, 81, 96, 103, 110]) (dt := 161) (tg := [84, 91, 98, 105, 120, 135, 142, 149]) (by decide +kernel)
theorem k137_84 : qx sc D 137 84 [vr a, l1, l2] st u bb σ Q ↔ qx sc D 137 85 [vr a, l1, l2] (vr a :: st) u bb σ Q := r_aload_n (k := 0) (by decide +kernel) rfl
theorem k137_85 : qx sc D 137 85 ls (vr 136 :: st) u bb σ Q ↔ qx sc D 137 88 ls (vr 155 :: st) u bb σ Q := r_getR (idx := 196) (c := 15) (k := 32) (by decide +kernel)
theorem k137_88 : qx sc D 137 88 [l0, vi x, l2] st u bb σ Q ↔ qx sc D 137 89 [l0, vi x, l2] (vi x :: st) u bb σ Q := r_iload_n (k := 1) (by decide +kernel) rfl
theorem k137_89 : qx sc D 137 89 ls (vi i :: vr a :: st) u bb σ Q ↔ (q_ty a = 0 ∧ 0 ≤ i ∧ i < q_ln a) ∧ qx sc D 137 90 ls (vi (σ a i) :: st) u bb σ Q := r_iald (by decide +kernel)
theorem k137_90 : qx sc D 137 90 ls [vi x] (0, 0) bb σ Q ↔ Q (.inl (some (vi x))) bb σ := r_ret (by decide +kernel)
theorem k137_91 : qx sc D 137 91 [vr a, l1, l2] st u bb σ Q ↔ qx sc D 137 92 [vr a, l1, l2] (vr a :: st) u bb σ Q := r_aload_n (k := 0) (by decide +kernel) rfl
theorem k137_92 : qx sc D 137 92 ls (vr 136 :: st) u bb σ Q ↔ qx sc D 137 95 ls (vr 156 :: st) u bb σ Q := r_getR (idx := 199) (c := 15) (k := 33) (by decide +kernel)
theorem k137_95 : qx sc D 137 95 [l0, vi x, l2] st u bb σ Q ↔ qx sc D 137 96 [l0, vi x, l2] (vi x :: st) u bb σ Q := r_iload_n (k := 1) (by decide +kernel) rfl
theorem k137_96 : qx sc D 137 96 ls (vi i :: vr a :: st) u bb σ Q ↔ (q_ty a = 0 ∧ 0 ≤ i ∧ i < q_ln a) ∧ qx sc D 137 97 ls (vi (σ a i) :: st) u bb σ Q := r_iald (by decide +kernel)
theorem k137_97 : qx sc D 137 97 ls [vi x] (0, 0) bb σ Q ↔ Q (.inl (some (vi x))) bb σ := r_ret (by decide +kernel)
theorem k137_98 : qx sc D 137 98 [vr a, l1, l2] st u bb σ Q ↔ qx sc D 137 99 [vr a, l1, l2] (vr a :: st) u bb σ Q := r_aload_n (k := 0) (by decide +kernel) rfl
theorem k137_99 : qx sc D 137 99 ls (vr 136 :: st) u bb σ Q ↔ qx sc D 137 102 ls (vr 157 :: st) u bb σ Q := r_getR (idx := 202) (c := 15) (k := 34) (by decide +kernel)
theorem k137_102 : qx sc D 137 102 [l0, vi x, l2] st u bb σ Q ↔ qx sc D 137 103 [l0, vi x, l2] (vi x :: st) u bb σ Q := r_iload_n (k := 1) (by decide +kernel) rfl
theorem k137_103 : qx sc D 137 103 ls (vi i :: vr a :: st) u bb σ Q ↔ (q_ty a = 0 ∧ 0 ≤ i ∧ i < q_ln a) ∧ qx sc D 137 104 ls (vi (σ a i) :: st) u bb σ Q := r_iald (by decide +kernel)
theorem k137_104 : qx sc D 137 104 ls [vi x] (0, 0) bb σ Q ↔ Q (.inl (some (vi x))) bb σ := r_ret (by decide +kernel)
theorem k137_105 : qx sc D 137 105 [vr a, l1, l2] st u bb σ Q ↔ qx sc D 137 106 [vr a, l1, l2] (vr a :: st) u bb σ Q := r_aload_n (k := 0) (by decide +kernel) rfl
theorem k137_106 : qx sc D 137 106 ls (vr 136 :: st) u bb σ Q ↔ qx sc D 137 109 ls (vr 178 :: st) u bb σ Q := r_getR (idx := 325) (c := 15) (k := 59) (by decide +kernel)
theorem k137_109 : qx sc D 137 109 [l0, vi x, l2] st u bb σ Q ↔ qx sc D 137 110 [l0, vi x, l2] (vi x :: st) u bb σ Q := r_iload_n (k := 1) (by decide +kernel) rfl
theorem k137_110 : qx sc D 137 110 ls (vi i :: vr a :: st) u bb σ Q ↔ ((q_ty a = 1 ∨ q_ty a = 2) ∧ 0 ≤ i ∧ i < q_ln a) ∧ qx sc D 137 111 ls (vi (σ a i) :: st) u bb σ Q := r_bald (by decide +kernel)
theorem k137_111 : qx sc D 137 111 ls (vi x :: st) u bb σ Q ↔ (x = 0 → qx sc D 137 118 ls st u bb σ Q) ∧ (¬ (x = 0) → qx sc D 137 114 ls st u bb σ Q) := r_if_eq (off := 7) (t := 118) (by decide +kernel)
theorem k137_114 : qx sc D 137 114 ls st u bb σ Q ↔ qx sc D 137 115 ls (vi 1 :: st) u bb σ Q := r_iconst (by decide +kernel)
theorem k137_115 : qx sc D 137 115 ls st u bb σ Q ↔ qx sc D 137 119 ls st u bb σ Q := r_goto (off := 4) (by decide +kernel)
theorem k137_118 : qx sc D 137 118 ls st u bb σ Q ↔ qx sc D 137 119 ls (vi 0 :: st) u bb σ Q := r_iconst (by decide +kernel)
theorem k137_119 : qx sc D 137 119 ls [vi x] (0, 0) bb σ Q ↔ Q (.inl (some (vi x))) bb σ := r_ret (by decide +kernel)
theorem k137_120 : qx sc D 137 120 [vr a, l1, l2] st u bb σ Q ↔ qx sc D 137 121 [vr a, l1, l2] (vr a :: st) u bb σ Q := r_aload_n (k := 0) (by decide +kernel) rfl
theorem k137_121 : qx sc D 137 121 ls (vr 136 :: st) u bb σ Q ↔ qx sc D 137 124 ls (vr 179 :: st) u bb σ Q := r_getR (idx := 329) (c := 15) (k := 60) (by decide +kernel)
theorem k137_124 : qx sc D 137 124 [l0, vi x, l2] st u bb σ Q ↔ qx sc D 137 125 [l0, vi x, l2] (vi x :: st) u bb σ Q := r_iload_n (k := 1) (by decide +kernel) rfl
theorem k137_125 : qx sc D 137 125 ls (vi i :: vr a :: st) u bb σ Q ↔ ((q_ty a = 1 ∨ q_ty a = 2) ∧ 0 ≤ i ∧ i < q_ln a) ∧ qx sc D 137 126 ls (vi (σ a i) :: st) u bb σ Q := r_bald (by decide +kernel)
theorem k137_126 : qx sc D 137 126 ls (vi x :: st) u bb σ Q ↔ (x = 0 → qx sc D 137 133 ls st u bb σ Q) ∧ (¬ (x = 0) → qx sc D 137 129 ls st u bb σ Q) := r_if_eq (off := 7) (t := 133) (by decide +kernel)
theorem k137_129 : qx sc D 137 129 ls st u bb σ Q ↔ qx sc D 137 130 ls (vi 1 :: st) u bb σ Q := r_iconst (by decide +kernel)
theorem k137_130 : qx sc D 137 130 ls st u bb σ Q ↔ qx sc D 137 134 ls st u bb σ Q := r_goto (off := 4) (by decide +kernel)
theorem k137_133 : qx sc D 137 133 ls st u bb σ Q ↔ qx sc D 137 134 ls (vi 0 :: st) u bb σ Q := r_iconst (by decide +kernel)
theorem k137_134 : qx sc D 137 134 ls [vi x] (0, 0) bb σ Q ↔ Q (.inl (some (vi x))) bb σ := r_ret (by decide +kernel)
theorem k137_135 : qx sc D 137 135 [vr a, l1, l2] st u bb σ Q ↔ qx sc D 137 136 [vr a, l1, l2] (vr a :: st) u bb σ Q := r_aload_n (k := 0) (by decide +kernel) rfl
theorem k137_136 : qx sc D 137 136 ls (vr 136 :: st) u bb σ Q ↔ qx sc D 137 139 ls (vr 176 :: st) u bb σ Q := r_getR (idx := 319) (c := 15) (k := 57) (by decide +kernel)
theorem k137_139 : qx sc D 137 139 [l0, vi x, l2] st u bb σ Q ↔ qx sc D 137 140 [l0, vi x, l2] (vi x :: st) u bb σ Q := r_iload_n (k := 1) (by decide +kernel) rfl
theorem k137_140 : qx sc D 137 140 ls (vi i :: vr a :: st) u bb σ Q ↔ (q_ty a = 0 ∧ 0 ≤ i ∧ i < q_ln a) ∧ qx sc D 137 141 ls (vi (σ a i) :: st) u bb σ Q := r_iald (by decide +kernel)
theorem k137_141 : qx sc D 137 141 ls [vi x] (0, 0) bb σ Q ↔ Q (.inl (some (vi x))) bb σ := r_ret (by decide +kernel)
theorem k137_142 : qx sc D 137 142 [vr a, l1, l2] st u bb σ Q ↔ qx sc D 137 143 [vr a, l1, l2] (vr a :: st) u bb σ Q := r_aload_n (k := 0) (by decide +kernel) rfl
theorem k137_143 : qx sc D 137 143 ls (vr 136 :: st) u bb σ Q ↔ qx sc D 137 146 ls (vr 177 :: st) u bb σ Q := r_getR (idx := 322) (c := 15) (k := 58) (by decide +kernel)
theorem k137_146 : qx sc D 137 146 [l0, vi x, l2] st u bb σ Q ↔ qx sc D 137 147 [l0, vi x, l2] (vi x :: st) u bb σ Q := r_iload_n (k := 1) (by decide +kernel) rfl
theorem k137_147 : qx sc D 137 147 ls (vi i :: vr a :: st) u bb σ Q ↔ (q_ty a = 0 ∧ 0 ≤ i ∧ i < q_ln a) ∧ qx sc D 137 148 ls (vi (σ a i) :: st) u bb σ Q := r_iald (by decide +kernel)
theorem k137_148 : qx sc D 137 148 ls [vi x] (0, 0) bb σ Q ↔ Q (.inl (some (vi x))) bb σ := r_ret (by decide +kernel)
theorem k137_149 : qx sc D 137 149 [vr a, l1, l2] st u bb σ Q ↔ qx sc D 137 150 [vr a, l1, l2] (vr a :: st) u bb σ Q := r_aload_n (k := 0) (by decide +kernel) rfl
theorem k137_150 : qx sc D 137 150 ls (vr 136 :: st) u bb σ Q ↔ qx sc D 137 153 ls (vr 174 :: st) u bb σ Q := r_getR (idx := 313) (c := 15) (k := 55) (by decide +kernel)
theorem k137_153 : qx sc D 137 153 [vr a, l1, l2] st u bb σ Q ↔ qx sc D 137 154 [vr a, l1, l2] (vr a :: st) u bb σ Q := r_aload_n (k := 0) (by decide +kernel) rfl
theorem k137_154 : qx sc D 137 154 ls (vr 136 :: st) u bb σ Q ↔ qx sc D 137 157 ls (vr 157 :: st) u bb σ Q := r_getR (idx := 202) (c := 15) (k := 34) (by decide +kernel)
theorem k137_157 : qx sc D 137 157 [l0, vi x, l2] st u bb σ Q ↔ qx sc D 137 158 [l0, vi x, l2] (vi x :: st) u bb σ Q := r_iload_n (k := 1) (by decide +kernel) rfl
theorem k137_158 : qx sc D 137 158 ls (vi i :: vr a :: st) u bb σ Q ↔ (q_ty a = 0 ∧ 0 ≤ i ∧ i < q_ln a) ∧ qx sc D 137 159 ls (vi (σ a i) :: st) u bb σ Q := r_iald (by decide +kernel)
theorem k137_159 : qx sc D 137 159 ls (vi i :: vr a :: st) u bb σ Q ↔ (q_ty a = 0 ∧ 0 ≤ i ∧ i < q_ln a) ∧ qx sc D 137 160 ls (vi (σ a i) :: st) u bb σ Q := r_iald (by decide +kernel)
theorem k137_160 : qx sc D 137 160 ls [vi x] (0, 0) bb σ Q ↔ Q (.inl (some (vi x))) bb σ := r_ret (by decide +kernel)
theorem k137_161 : qx sc D 137 161 [vr a, l1, l2] st u bb σ Q ↔ qx sc D 137 162 [vr a, l1, l2] (vr a :: st) u bb σ Q := r_aload_n (k := 0) (by decide +kernel) rfl
theorem k137_162 : qx sc D 137 162 ls (vr 136 :: st) u bb σ Q ↔ qx sc D 137 165 ls (vr 175 :: st) u bb σ Q := r_getR (idx := 316) (c := 15) (k := 56) (by decide +kernel)
theorem k137_165 : qx sc D 137 165 [vr a, l1, l2] st u bb σ Q ↔ qx sc D 137 166 [vr a, l1, l2] (vr a :: st) u bb σ Q := r_aload_n (k := 0) (by decide +kernel) rfl
theorem k137_166 : qx sc D 137 166 ls (vr 136 :: st) u bb σ Q ↔ qx sc D 137 169 ls (vr 157 :: st) u bb σ Q := r_getR (idx := 202) (c := 15) (k := 34) (by decide +kernel)
theorem k137_169 : qx sc D 137 169 [l0, vi x, l2] st u bb σ Q ↔ qx sc D 137 170 [l0, vi x, l2] (vi x :: st) u bb σ Q := r_iload_n (k := 1) (by decide +kernel) rfl
theorem k137_170 : qx sc D 137 170 ls (vi i :: vr a :: st) u bb σ Q ↔ (q_ty a = 0 ∧ 0 ≤ i ∧ i < q_ln a) ∧ qx sc D 137 171 ls (vi (σ a i) :: st) u bb σ Q := r_iald (by decide +kernel)
theorem k137_171 : qx sc D 137 171 ls (vi i :: vr a :: st) u bb σ Q ↔ (q_ty a = 0 ∧ 0 ≤ i ∧ i < q_ln a) ∧ qx sc D 137 172 ls (vi (σ a i) :: st) u bb σ Q := r_iald (by decide +kernel)
theorem k137_172 : qx sc D 137 172 ls [vi x] (0, 0) bb σ Q ↔ Q (.inl (some (vi x))) bb σ := r_ret (by decide +kernel)
-- 138: RowProverModel.checkBy(I)I
theorem k138_0 : qx sc D 138 0 ls st u bb σ Q ↔ qx sc D 138 1 ls (vi 0 :: st) u bb σ Q := r_iconst (by decide +kernel)
theorem k138_1 : qx sc D 138 1 [l0, l1, l2] (vi x :: st) u bb σ Q ↔ qx sc D 138 2 [l0, l1, vi x] st u bb σ Q := r_istore_n (k := 2) (by decide +kernel) (Nat.le_of_ble_eq_true rfl)
theorem k138_2 : qx sc D 138 2 [l0, l1, vi x] st u bb σ Q ↔ qx sc D 138 3 [l0, l1, vi x] (vi x :: st) u bb σ Q := r_iload_n (k := 2) (by decide +kernel) rfl
theorem k138_3 : qx sc D 138 3 [vr a, l1, l2] st u bb σ Q ↔ qx sc D 138 4 [vr a, l1, l2] (vr a :: st) u bb σ Q := r_aload_n (k := 0) (by decide +kernel) rfl
theorem k138_4 : qx sc D 138 4 ls (vr 136 :: st) u bb σ Q ↔ qx sc D 138 7 ls (vi (σ 136 16) :: st) u bb σ Q := r_getI (idx := 193) (c := 15) (k := 16) (by decide +kernel)
theorem k138_7 : qx sc D 138 7 ls (vi b' :: vi a' :: st) u bb σ Q ↔ (a' < b' → qx sc D 138 10 ls st u bb σ Q) ∧ (¬ (a' < b') → qx sc D 138 28 ls st u bb σ Q) := r_ic_ge (off := 21) (t := 28) (by decide +kernel)
theorem k138_10 : qx sc D 138 10 [vr a, l1, l2] st u bb σ Q ↔ qx sc D 138 11 [vr a, l1, l2] (vr a :: st) u bb σ Q := r_aload_n (k := 0) (by decide +kernel) rfl
theorem k138_11 : qx sc D 138 11 ls (vr 136 :: st) u bb σ Q ↔ qx sc D 138 14 ls (vr 158 :: st) u bb σ Q := r_getR (idx := 208) (c := 15) (k := 35) (by decide +kernel)
theorem k138_14 : qx sc D 138 14 [l0, l1, vi x] st u bb σ Q ↔ qx sc D 138 15 [l0, l1, vi x] (vi x :: st) u bb σ Q := r_iload_n (k := 2) (by decide +kernel) rfl
theorem k138_15 : qx sc D 138 15 ls (vi i :: vr a :: st) u bb σ Q ↔ (q_ty a = 0 ∧ 0 ≤ i ∧ i < q_ln a) ∧ qx sc D 138 16 ls (vi (σ a i) :: st) u bb σ Q := r_iald (by decide +kernel)
theorem k138_16 : qx sc D 138 16 [l0, vi x, l2] st u bb σ Q ↔ qx sc D 138 17 [l0, vi x, l2] (vi x :: st) u bb σ Q := r_iload_n (k := 1) (by decide +kernel) rfl
theorem k138_17 : qx sc D 138 17 ls (vi b' :: vi a' :: st) u bb σ Q ↔ (a' = b' → qx sc D 138 20 ls st u bb σ Q) ∧ (¬ (a' = b') → qx sc D 138 22 ls st u bb σ Q) := r_ic_ne (off := 5) (t := 22) (by decide +kernel)
theorem k138_20 : qx sc D 138 20 [l0, l1, vi x] st u bb σ Q ↔ qx sc D 138 21 [l0, l1, vi x] (vi x :: st) u bb σ Q := r_iload_n (k := 2) (by decide +kernel) rfl
theorem k138_21 : qx sc D 138 21 ls [vi x] (0, 0) bb σ Q ↔ Q (.inl (some (vi x))) bb σ := r_ret (by decide +kernel)
theorem k138_22 : qx sc D 138 22 [l0, l1, vi x] st u bb σ Q ↔ q_R (x + 1) ∧ qx sc D 138 25 [l0, l1, vi (x + 1)] st u bb σ Q := r_iinc (k := 2) (n := 1) (by decide +kernel) rfl
theorem k138_25 : qx sc D 138 25 ls st u bb σ Q ↔ qx sc D 138 2 ls st u bb σ Q := r_goto (off := (-23)) (by decide +kernel)
theorem k138_28 : qx sc D 138 28 ls st u bb σ Q ↔ qx sc D 138 29 ls (vi (-1) :: st) u bb σ Q := r_iconst (by decide +kernel)
theorem k138_29 : qx sc D 138 29 ls [vi x] (0, 0) bb σ Q ↔ Q (.inl (some (vi x))) bb σ := r_ret (by decide +kernel)
-- 139: RowProverModel.choice(I)V
theorem k139_0 : qx sc D 139 0 [vr a, l1, l2, l3, l4, l5, l6, l7, l8, l9, l10, l11, l12] st u bb σ Q ↔ qx sc D 139 1 [vr a, l1, l2, l3, l4, l5, l6, l7, l8, l9, l10, l11, l12] (vr a :: st) u bb σ Q := r_aload_n (k := 0) (by decide +kernel) rfl
theorem k139_1 : qx sc D 139 1 [l0, vi x, l2, l3, l4, l5, l6, l7, l8, l9, l10, l11, l12] st u bb σ Q ↔ qx sc D 139 2 [l0, vi x, l2, l3, l4, l5, l6, l7, l8, l9, l10, l11, l12] (vi x :: st) u bb σ Q := r_iload_n (k := 1) (by decide +kernel) rfl
theorem k139_2 : qx sc (D + 1) 139 2 ls [vi x0, vr 136] (0, 0) bb σ Q ↔ qx sc D 222 0 [vr 136, vi x0] [] (0, 0) bb σ (q_kn sc (D + 1) 139 5 ls [] (0, 0) Q) := r_callv (idx := 251) (n := 1) (m := 2) (by decide +kernel) rfl (Nat.le_of_ble_eq_true rfl) ⟨Nat.le_of_ble_eq_true rfl, Nat.le_of_ble_eq_true rfl, rfl⟩ rfl
theorem k139_5 : qx sc D 139 5 [vr a, l1, l2, l3, l4, l5, l6, l7, l8, l9, l10, l11, l12] st u bb σ Q ↔ qx sc D 139 6 [vr a, l1, l2, l3, l4, l5, l6, l7, l8, l9, l10, l11, l12] (vr a :: st) u bb σ Q := r_aload_n (k := 0) (by decide +kernel) rfl
theorem k139_6 : qx sc (D + 1) 139 6 ls [vr 136] (0, 0) bb σ Q ↔ qx sc D 154 0 [vr 136] [] (0, 0) bb σ (q_kn sc (D + 1) 139 9 ls [] (0, 0) Q) := r_callv (idx := 83) (n := 0) (m := 1) (by decide +kernel) rfl (Nat.le_of_ble_eq_true rfl) ⟨Nat.le_of_ble_eq_true rfl, Nat.le_of_ble_eq_true rfl, rfl⟩ rfl
theorem k139_9 : qx sc D 139 9 ls (vi x :: st) u bb σ Q ↔ (x = 0 → qx sc D 139 13 ls st u bb σ Q) ∧ (¬ (x = 0) → qx sc D 139 12 ls st u bb σ Q) := r_if_eq (off := 4) (t := 13) (by decide +kernel)
theorem k139_12 : qx sc D 139 12 ls [] (0, 0) bb σ Q ↔ Q (.inl none) bb σ := r_retV (by decide +kernel)
theorem k139_13 : qx sc D 139 13 [vr a, l1, l2, l3, l4, l5, l6, l7, l8, l9, l10, l11, l12] st u bb σ Q ↔ qx sc D 139 14 [vr a, l1, l2, l3, l4, l5, l6, l7, l8, l9, l10, l11, l12] (vr a :: st) u bb σ Q := r_aload_n (k := 0) (by decide +kernel) rfl
theorem k139_14 : qx sc D 139 14 [l0, vi x, l2, l3, l4, l5, l6, l7, l8, l9, l10, l11, l12] st u bb σ Q ↔ qx sc D 139 15 [l0, vi x, l2, l3, l4, l5, l6, l7, l8, l9, l10, l11, l12] (vi x :: st) u bb σ Q := r_iload_n (k := 1) (by decide +kernel) rfl
theorem k139_15 : qx sc (D + 1) 139 15 ls [vi x0, vr 136] (0, 0) bb σ Q ↔ qx sc D 177 0 [vr 136, vi x0, vn] [] (0, 0) bb σ (q_kn sc (D + 1) 139 18 ls [] (0, 0) Q) := r_callv (idx := 254) (n := 1) (m := 3) (by decide +kernel) rfl (Nat.le_of_ble_eq_true rfl) ⟨Nat.le_of_ble_eq_true rfl, Nat.le_of_ble_eq_true rfl, rfl⟩ rfl
theorem k139_18 : qx sc D 139 18 [vr a, l1, l2, l3, l4, l5, l6, l7, l8, l9, l10, l11, l12] st u bb σ Q ↔ qx sc D 139 19 [vr a, l1, l2, l3, l4, l5, l6, l7, l8, l9, l10, l11, l12] (vr a :: st) u bb σ Q := r_aload_n (k := 0) (by decide +kernel) rfl
theorem k139_19 : qx sc D 139 19 ls st u bb σ Q ↔ qx sc D 139 20 ls (vi 0 :: st) u bb σ Q := r_iconst (by decide +kernel)
theorem k139_20 : qx sc D 139 20 [l0, vi x, l2, l3, l4, l5, l6, l7, l8, l9, l10, l11, l12] st u bb σ Q ↔ qx sc D 139 21 [l0, vi x, l2, l3, l4, l5, l6, l7, l8, l9, l10, l11, l12] (vi x :: st) u bb σ Q := r_iload_n (k := 1) (by decide +kernel) rfl
theorem k139_21 : qx sc D 139 21 ls st u bb σ Q ↔ qx sc D 139 22 ls (vi 0 :: st) u bb σ Q := r_iconst (by decide +kernel)
theorem k139_22 : qx sc (D + 1) 139 22 ls [vi x2, vi x1, vi x0, vr 136] (0, 0) bb σ Q ↔ qx sc D 172 0 [vr 136, vi x0, vi x1, vi x2] [] (0, 0) bb σ (q_kn sc (D + 1) 139 25 ls [] (0, 0) Q) := r_callv (idx := 186) (n := 3) (m := 4) (by decide +kernel) rfl (Nat.le_of_ble_eq_true rfl) ⟨Nat.le_of_ble_eq_true rfl, Nat.le_of_ble_eq_true rfl, rfl⟩ rfl
theorem k139_25 : qx sc D 139 25 [l0, l1, l2, l3, l4, l5, l6, l7, l8, l9, l10, l11, l12] (vi x :: st) u bb σ Q ↔ qx sc D 139 26 [l0, l1, vi x, l3, l4, l5, l6, l7, l8, l9, l10, l11, l12] st u bb σ Q := r_istore_n (k := 2) (by decide +kernel) (Nat.le_of_ble_eq_true rfl)
theorem k139_26 : qx sc D 139 26 [vr a, l1, l2, l3, l4, l5, l6, l7, l8, l9, l10, l11, l12] st u bb σ Q ↔ qx sc D 139 27 [vr a, l1, l2, l3, l4, l5, l6, l7, l8, l9, l10, l11, l12] (vr a :: st) u bb σ Q := r_aload_n (k := 0) (by decide +kernel) rfl
theorem k139_27 : qx sc D 139 27 ls st u bb σ Q ↔ qx sc D 139 28 ls (vi 5 :: st) u bb σ Q := r_iconst (by decide +kernel)
theorem k139_28 : qx sc D 139 28 [l0, vi x, l2, l3, l4, l5, l6, l7, l8, l9, l10, l11, l12] st u bb σ Q ↔ qx sc D 139 29 [l0, vi x, l2, l3, l4, l5, l6, l7, l8, l9, l10, l11, l12] (vi x :: st) u bb σ Q := r_iload_n (k := 1) (by decide +kernel) rfl
theorem k139_29 : qx sc D 139 29 ls st u bb σ Q ↔ qx sc D 139 30 ls (vi 0 :: st) u bb σ Q := r_iconst (by decide +kernel)
theorem k139_30 : qx sc (D + 1) 139 30 ls [vi x2, vi x1, vi x0, vr 136] (0, 0) bb σ Q ↔ qx sc D 172 0 [vr 136, vi x0, vi x1, vi x2] [] (0, 0) bb σ (q_kn sc (D + 1) 139 33 ls [] (0, 0) Q) := r_callv (idx := 186) (n := 3) (m := 4) (by decide +kernel) rfl (Nat.le_of_ble_eq_true rfl) ⟨Nat.le_of_ble_eq_true rfl, Nat.le_of_ble_eq_true rfl, rfl⟩ rfl
theorem k139_33 : qx sc D 139 33 [l0, l1, l2, l3, l4, l5, l6, l7, l8, l9, l10, l11, l12] (vi x :: st) u bb σ Q ↔ qx sc D 139 34 [l0, l1, l2, vi x, l4, l5, l6, l7, l8, l9, l10, l11, l12] st u bb σ Q := r_istore_n (k := 3) (by decide +kernel) (Nat.le_of_ble_eq_true rfl)
theorem k139_34 : qx sc D 139 34 [vr a, l1, l2, l3, l4, l5, l6, l7, l8, l9, l10, l11, l12] st u bb σ Q ↔ qx sc D 139 35 [vr a, l1, l2, l3, l4, l5, l6, l7, l8, l9, l10, l11, l12] (vr a :: st) u bb σ Q := r_aload_n (k := 0) (by decide +kernel) rfl
theorem k139_35 : qx sc (D + 1) 139 35 ls [vr 136] (0, 0) bb σ Q ↔ qx sc D 170 0 [vr 136, vn, vn] [] (0, 0) bb σ (q_kn sc (D + 1) 139 38 ls [] (0, 0) Q) := r_callv (idx := 257) (n := 0) (m := 3) (by decide +kernel) rfl (Nat.le_of_ble_eq_true rfl) ⟨Nat.le_of_ble_eq_true rfl, Nat.le_of_ble_eq_true rfl, rfl⟩ rfl
theorem k139_38 : qx sc D 139 38 [l0, l1, l2, l3, l4, l5, l6, l7, l8, l9, l10, l11, l12] (vi x :: st) u bb σ Q ↔ qx sc D 139 40 [l0, l1, l2, l3, vi x, l5, l6, l7, l8, l9, l10, l11, l12] st u bb σ Q := r_istore (k := 4) (by decide +kernel) (Nat.le_of_ble_eq_true rfl)
theorem k139_40 : qx sc D 139 40 [vr a, l1, l2, l3, l4, l5, l6, l7, l8, l9, l10, l11, l12] st u bb σ Q ↔ qx sc D 139 41 [vr a, l1, l2, l3, l4, l5, l6, l7, l8, l9, l10, l11, l12] (vr a :: st) u bb σ Q := r_aload_n (k := 0) (by decide +kernel) rfl
theorem k139_41 : qx sc D 139 41 ls (vr 136 :: st) u bb σ Q ↔ qx sc D 139 44 ls (vi (σ 136 14) :: st) u bb σ Q := r_getI (idx := 148) (c := 15) (k := 14) (by decide +kernel)
theorem k139_44 : qx sc D 139 44 [l0, l1, l2, l3, l4, l5, l6, l7, l8, l9, l10, l11, l12] (vi x :: st) u bb σ Q ↔ qx sc D 139 46 [l0, l1, l2, l3, l4, vi x, l6, l7, l8, l9, l10, l11, l12] st u bb σ Q := r_istore (k := 5) (by decide +kernel) (Nat.le_of_ble_eq_true rfl)
theorem k139_46 : qx sc D 139 46 [vr a, l1, l2, l3, l4, l5, l6, l7, l8, l9, l10, l11, l12] st u bb σ Q ↔ qx sc D 139 47 [vr a, l1, l2, l3, l4, l5, l6, l7, l8, l9, l10, l11, l12] (vr a :: st) u bb σ Q := r_aload_n (k := 0) (by decide +kernel) rfl
theorem k139_47 : qx sc D 139 47 [l0, vi x, l2, l3, l4, l5, l6, l7, l8, l9, l10, l11, l12] st u bb σ Q ↔ qx sc D 139 48 [l0, vi x, l2, l3, l4, l5, l6, l7, l8, l9, l10, l11, l12] (vi x :: st) u bb σ Q := r_iload_n (k := 1) (by decide +kernel) rfl
theorem k139_48 : qx sc D 139 48 ls st u bb σ Q ↔ qx sc D 139 49 ls (vi 3 :: st) u bb σ Q := r_iconst (by decide +kernel)
theorem k139_49 : qx sc (D + 1) 139 49 ls [vi x1, vi x0, vr 136] (0, 0) bb σ Q ↔ qx sc D 181 0 [vr 136, vi x0, vi x1, vn, vn, vn] [] (0, 0) bb σ (q_kn sc (D + 1) 139 52 ls [] (0, 0) Q) := r_callv (idx := 260) (n := 2) (m := 6) (by decide +kernel) rfl (Nat.le_of_ble_eq_true rfl) ⟨Nat.le_of_ble_eq_true rfl, Nat.le_of_ble_eq_true rfl, rfl⟩ rfl
theorem k139_52 : qx sc D 139 52 [vr a, l1, l2, l3, l4, l5, l6, l7, l8, l9, l10, l11, l12] st u bb σ Q ↔ qx sc D 139 53 [vr a, l1, l2, l3, l4, l5, l6, l7, l8, l9, l10, l11, l12] (vr a :: st) u bb σ Q := r_aload_n (k := 0) (by decide +kernel) rfl
theorem k139_53 : qx sc (D + 1) 139 53 ls [vr 136] (0, 0) bb σ Q ↔ qx sc D 131 0 [vr 136] [] (0, 0) bb σ (q_kn sc (D + 1) 139 56 ls [] (0, 0) Q) := r_callv (idx := 263) (n := 0) (m := 1) (by decide +kernel) rfl (Nat.le_of_ble_eq_true rfl) ⟨Nat.le_of_ble_eq_true rfl, Nat.le_of_ble_eq_true rfl, rfl⟩ rfl
theorem k139_56 : qx sc D 139 56 [vr a, l1, l2, l3, l4, l5, l6, l7, l8, l9, l10, l11, l12] st u bb σ Q ↔ qx sc D 139 57 [vr a, l1, l2, l3, l4, l5, l6, l7, l8, l9, l10, l11, l12] (vr a :: st) u bb σ Q := r_aload_n (k := 0) (by decide +kernel) rfl
theorem k139_57 : qx sc (D + 1) 139 57 ls [vr 136] (0, 0) bb σ Q ↔ qx sc D 170 0 [vr 136, vn, vn] [] (0, 0) bb σ (q_kn sc (D + 1) 139 60 ls [] (0, 0) Q) := r_callv (idx := 257) (n := 0) (m := 3) (by decide +kernel) rfl (Nat.le_of_ble_eq_true rfl) ⟨Nat.le_of_ble_eq_true rfl, Nat.le_of_ble_eq_true rfl, rfl⟩ rfl
theorem k139_60 : qx sc D 139 60 [l0, l1, l2, l3, l4, l5, l6, l7, l8, l9, l10, l11, l12] (vi x :: st) u bb σ Q ↔ qx sc D 139 62 [l0, l1, l2, l3, l4, l5, vi x, l7, l8, l9, l10, l11, l12] st u bb σ Q := r_istore (k := 6) (by decide +kernel) (Nat.le_of_ble_eq_true rfl)
theorem k139_62 : qx sc D 139 62 [vr a, l1, l2, l3, l4, l5, l6, l7, l8, l9, l10, l11, l12] st u bb σ Q ↔ qx sc D 139 63 [vr a, l1, l2, l3, l4, l5, l6, l7, l8, l9, l10, l11, l12] (vr a :: st) u bb σ Q := r_aload_n (k := 0) (by decide +kernel) rfl
theorem k139_63 : qx sc D 139 63 ls st u bb σ Q ↔ qx sc D 139 65 ls (vi 7 :: st) u bb σ Q := r_bipush (by decide +kernel)
theorem k139_65 : qx sc D 139 65 ls st u bb σ Q ↔ qx sc D 139 66 ls (vi 0 :: st) u bb σ Q := r_iconst (by decide +kernel)
theorem k139_66 : qx sc D 139 66 ls st u bb σ Q ↔ qx sc D 139 67 ls (vi 0 :: st) u bb σ Q := r_iconst (by decide +kernel)
theorem k139_67 : qx sc (D + 1) 139 67 ls [vi x2, vi x1, vi x0, vr 136] (0, 0) bb σ Q ↔ qx sc D 172 0 [vr 136, vi x0, vi x1, vi x2] [] (0, 0) bb σ (q_kn sc (D + 1) 139 70 ls [] (0, 0) Q) := r_callv (idx := 186) (n := 3) (m := 4) (by decide +kernel) rfl (Nat.le_of_ble_eq_true rfl) ⟨Nat.le_of_ble_eq_true rfl, Nat.le_of_ble_eq_true rfl, rfl⟩ rfl
theorem k139_70 : qx sc D 139 70 [l0, l1, l2, l3, l4, l5, l6, l7, l8, l9, l10, l11, l12] (vi x :: st) u bb σ Q ↔ qx sc D 139 72 [l0, l1, l2, l3, l4, l5, l6, vi x, l8, l9, l10, l11, l12] st u bb σ Q := r_istore (k := 7) (by decide +kernel) (Nat.le_of_ble_eq_true rfl)
theorem k139_72 : qx sc D 139 72 [vr a, l1, l2, l3, l4, l5, l6, l7, l8, l9, l10, l11, l12] st u bb σ Q ↔ qx sc D 139 73 [vr a, l1, l2, l3, l4, l5, l6, l7, l8, l9, l10, l11, l12] (vr a :: st) u bb σ Q := r_aload_n (k := 0) (by decide +kernel) rfl
theorem k139_73 : qx sc D 139 73 ls (vr 136 :: st) u bb σ Q ↔ qx sc D 139 76 ls (vr 170 :: st) u bb σ Q := r_getR (idx := 27) (c := 15) (k := 47) (by decide +kernel)
theorem k139_76 : qx sc D 139 76 [l0, l1, l2, vi x, l4, l5, l6, l7, l8, l9, l10, l11, l12] st u bb σ Q ↔ qx sc D 139 77 [l0, l1, l2, vi x, l4, l5, l6, l7, l8, l9, l10, l11, l12] (vi x :: st) u bb σ Q := r_iload_n (k := 3) (by decide +kernel) rfl
theorem k139_77 : qx sc D 139 77 [vr a, l1, l2, l3, l4, l5, l6, l7, l8, l9, l10, l11, l12] st u bb σ Q ↔ qx sc D 139 78 [vr a, l1, l2, l3, l4, l5, l6, l7, l8, l9, l10, l11, l12] (vr a :: st) u bb σ Q := r_aload_n (k := 0) (by decide +kernel) rfl
theorem k139_78 : qx sc D 139 78 ls (vr 136 :: st) u bb σ Q ↔ qx sc D 139 81 ls (vi (σ 136 18) :: st) u bb σ Q := r_getI (idx := 21) (c := 15) (k := 18) (by decide +kernel)
theorem k139_81 : qx sc D 139 81 ls (vi x :: vi i :: vr a :: st) u bb σ Q ↔ (q_ty a = 0 ∧ 0 ≤ i ∧ i < q_ln a) ∧ qx sc D 139 82 ls st u bb (q_up σ a i x) Q := r_iast (by decide +kernel)
theorem k139_82 : qx sc D 139 82 [vr a, l1, l2, l3, l4, l5, l6, l7, l8, l9, l10, l11, l12] st u bb σ Q ↔ qx sc D 139 83 [vr a, l1, l2, l3, l4, l5, l6, l7, l8, l9, l10, l11, l12] (vr a :: st) u bb σ Q := r_aload_n (k := 0) (by decide +kernel) rfl
theorem k139_83 : qx sc D 139 83 [l0, l1, l2, l3, vi x, l5, l6, l7, l8, l9, l10, l11, l12] st u bb σ Q ↔ qx sc D 139 85 [l0, l1, l2, l3, vi x, l5, l6, l7, l8, l9, l10, l11, l12] (vi x :: st) u bb σ Q := r_iload (k := 4) (by decide +kernel) rfl
theorem k139_85 : qx sc (D + 1) 139 85 ls [vi x0, vr 136] (0, 0) bb σ Q ↔ qx sc D 220 0 [vr 136, vi x0, vn] [] (0, 0) bb σ (q_kn sc (D + 1) 139 88 ls [] (0, 0) Q) := r_callv (idx := 266) (n := 1) (m := 3) (by decide +kernel) rfl (Nat.le_of_ble_eq_true rfl) ⟨Nat.le_of_ble_eq_true rfl, Nat.le_of_ble_eq_true rfl, rfl⟩ rfl
theorem k139_88 : qx sc D 139 88 [vr a, l1, l2, l3, l4, l5, l6, l7, l8, l9, l10, l11, l12] st u bb σ Q ↔ qx sc D 139 89 [vr a, l1, l2, l3, l4, l5, l6, l7, l8, l9, l10, l11, l12] (vr a :: st) u bb σ Q := r_aload_n (k := 0) (by decide +kernel) rfl
theorem k139_89 : qx sc D 139 89 [l0, vi x, l2, l3, l4, l5, l6, l7, l8, l9, l10, l11, l12] st u bb σ Q ↔ qx sc D 139 90 [l0, vi x, l2, l3, l4, l5, l6, l7, l8, l9, l10, l11, l12] (vi x :: st) u bb σ Q := r_iload_n (k := 1) (by decide +kernel) rfl
theorem k139_90 : qx sc D 139 90 ls st u bb σ Q ↔ qx sc D 139 91 ls (vi 4 :: st) u bb σ Q := r_iconst (by decide +kernel)
theorem k139_91 : qx sc (D + 1) 139 91 ls [vi x1, vi x0, vr 136] (0, 0) bb σ Q ↔ qx sc D 181 0 [vr 136, vi x0, vi x1, vn, vn, vn] [] (0, 0) bb σ (q_kn sc (D + 1) 139 94 ls [] (0, 0) Q) := r_callv (idx := 260) (n := 2) (m := 6) (by decide +kernel) rfl (Nat.le_of_ble_eq_true rfl) ⟨Nat.le_of_ble_eq_true rfl, Nat.le_of_ble_eq_true rfl, rfl⟩ rfl
theorem k139_94 : qx sc D 139 94 [vr a, l1, l2, l3, l4, l5, l6, l7, l8, l9, l10, l11, l12] st u bb σ Q ↔ qx sc D 139 95 [vr a, l1, l2, l3, l4, l5, l6, l7, l8, l9, l10, l11, l12] (vr a :: st) u bb σ Q := r_aload_n (k := 0) (by decide +kernel) rfl
theorem k139_95 : qx sc (D + 1) 139 95 ls [vr 136] (0, 0) bb σ Q ↔ qx sc D 154 0 [vr 136] [] (0, 0) bb σ (q_kn sc (D + 1) 139 98 ls [] (0, 0) Q) := r_callv (idx := 83) (n := 0) (m := 1) (by decide +kernel) rfl (Nat.le_of_ble_eq_true rfl) ⟨Nat.le_of_ble_eq_true rfl, Nat.le_of_ble_eq_true rfl, rfl⟩ rfl
theorem k139_98 : qx sc D 139 98 ls (vi x :: st) u bb σ Q ↔ (x = 0 → qx sc D 139 101 ls st u bb σ Q) ∧ (¬ (x = 0) → qx sc D 139 115 ls st u bb σ Q) := r_if_ne (off := 17) (t := 115) (by decide +kernel)
theorem k139_101 : qx sc D 139 101 [vr a, l1, l2, l3, l4, l5, l6, l7, l8, l9, l10, l11, l12] st u bb σ Q ↔ qx sc D 139 102 [vr a, l1, l2, l3, l4, l5, l6, l7, l8, l9, l10, l11, l12] (vr a :: st) u bb σ Q := r_aload_n (k := 0) (by decide +kernel) rfl
theorem k139_102 : qx sc D 139 102 ls st u bb σ Q ↔ qx sc D 139 105 ls (vr (q_tr 10) :: st) u bb σ Q := r_ldcSw (idx := 269) (by decide +kernel)
theorem k139_105 : qx sc (D + 1) 139 105 ls [vr a0, vr 136] (0, 0) bb σ Q ↔ qx sc D 221 0 [vr 136, vr a0, vn] [] (0, 0) bb σ (q_kn sc (D + 1) 139 108 ls [] (0, 0) Q) := r_callv (idx := 125) (n := 1) (m := 3) (by decide +kernel) rfl (Nat.le_of_ble_eq_true rfl) ⟨Nat.le_of_ble_eq_true rfl, Nat.le_of_ble_eq_true rfl, rfl⟩ rfl
theorem k139_108 : qx sc D 139 108 ls (vi x :: st) u bb σ Q ↔ (x = 0 → qx sc D 139 115 ls st u bb σ Q) ∧ (¬ (x = 0) → qx sc D 139 111 ls st u bb σ Q) := r_if_eq (off := 7) (t := 115) (by decide +kernel)
theorem k139_111 : qx sc D 139 111 [vr a, l1, l2, l3, l4, l5, l6, l7, l8, l9, l10, l11, l12] st u bb σ Q ↔ qx sc D 139 112 [vr a, l1, l2, l3, l4, l5, l6, l7, l8, l9, l10, l11, l12] (vr a :: st) u bb σ Q := r_aload_n (k := 0) (by decide +kernel) rfl
theorem k139_112 : qx sc (D + 1) 139 112 ls [vr 136] (0, 0) bb σ Q ↔ qx sc D 131 0 [vr 136] [] (0, 0) bb σ (q_kn sc (D + 1) 139 115 ls [] (0, 0) Q) := r_callv (idx := 263) (n := 0) (m := 1) (by decide +kernel) rfl (Nat.le_of_ble_eq_true rfl) ⟨Nat.le_of_ble_eq_true rfl, Nat.le_of_ble_eq_true rfl, rfl⟩ rfl
theorem k139_115 : qx sc D 139 115 [vr a, l1, l2, l3, l4, l5, l6, l7, l8, l9, l10, l11, l12] st u bb σ Q ↔ qx sc D 139 116 [vr a, l1, l2, l3, l4, l5, l6, l7, l8, l9, l10, l11, l12] (vr a :: st) u bb σ Q := r_aload_n (k := 0) (by decide +kernel) rfl
theorem k139_116 : qx sc (D + 1) 139 116 ls [vr 136] (0, 0) bb σ Q ↔ qx sc D 170 0 [vr 136, vn, vn] [] (0, 0) bb σ (q_kn sc (D + 1) 139 119 ls [] (0, 0) Q) := r_callv (idx := 257) (n := 0) (m := 3) (by decide +kernel) rfl (Nat.le_of_ble_eq_true rfl) ⟨Nat.le_of_ble_eq_true rfl, Nat.le_of_ble_eq_true rfl, rfl⟩ rfl
theorem k139_119 : qx sc D 139 119 [l0, l1, l2, l3, l4, l5, l6, l7, l8, l9, l10, l11, l12] (vi x :: st) u bb σ Q ↔ qx sc D 139 121 [l0, l1, l2, l3, l4, l5, l6, l7, vi x, l9, l10, l11, l12] st u bb σ Q := r_istore (k := 8) (by decide +kernel) (Nat.le_of_ble_eq_true rfl)
theorem k139_121 : qx sc D 139 121 [vr a, l1, l2, l3, l4, l5, l6, l7, l8, l9, l10, l11, l12] st u bb σ Q ↔ qx sc D 139 122 [vr a, l1, l2, l3, l4, l5, l6, l7, l8, l9, l10, l11, l12] (vr a :: st) u bb σ Q := r_aload_n (k := 0) (by decide +kernel) rfl
theorem k139_122 : qx sc D 139 122 ls (vr 136 :: st) u bb σ Q ↔ qx sc D 139 125 ls (vr 169 :: st) u bb σ Q := r_getR (idx := 24) (c := 15) (k := 46) (by decide +kernel)
theorem k139_125 : qx sc D 139 125 [l0, l1, l2, l3, l4, l5, l6, vi x, l8, l9, l10, l11, l12] st u bb σ Q ↔ qx sc D 139 127 [l0, l1, l2, l3, l4, l5, l6, vi x, l8, l9, l10, l11, l12] (vi x :: st) u bb σ Q := r_iload (k := 7) (by decide +kernel) rfl
theorem k139_127 : qx sc D 139 127 [vr a, l1, l2, l3, l4, l5, l6, l7, l8, l9, l10, l11, l12] st u bb σ Q ↔ qx sc D 139 128 [vr a, l1, l2, l3, l4, l5, l6, l7, l8, l9, l10, l11, l12] (vr a :: st) u bb σ Q := r_aload_n (k := 0) (by decide +kernel) rfl
theorem k139_128 : qx sc D 139 128 ls (vr 136 :: st) u bb σ Q ↔ qx sc D 139 131 ls (vi (σ 136 18) :: st) u bb σ Q := r_getI (idx := 21) (c := 15) (k := 18) (by decide +kernel)
theorem k139_131 : qx sc D 139 131 ls (vi x :: vi i :: vr a :: st) u bb σ Q ↔ (q_ty a = 0 ∧ 0 ≤ i ∧ i < q_ln a) ∧ qx sc D 139 132 ls st u bb (q_up σ a i x) Q := r_iast (by decide +kernel)
theorem k139_132 : qx sc D 139 132 [vr a, l1, l2, l3, l4, l5, l6, l7, l8, l9, l10, l11, l12] st u bb σ Q ↔ qx sc D 139 133 [vr a, l1, l2, l3, l4, l5, l6, l7, l8, l9, l10, l11, l12] (vr a :: st) u bb σ Q := r_aload_n (k := 0) (by decide +kernel) rfl
theorem k139_133 : qx sc D 139 133 [l0, l1, l2, l3, vi x, l5, l6, l7, l8, l9, l10, l11, l12] st u bb σ Q ↔ qx sc D 139 135 [l0, l1, l2, l3, vi x, l5, l6, l7, l8, l9, l10, l11, l12] (vi x :: st) u bb σ Q := r_iload (k := 4) (by decide +kernel) rfl
theorem k139_135 : qx sc (D + 1) 139 135 ls [vi x0, vr 136] (0, 0) bb σ Q ↔ qx sc D 220 0 [vr 136, vi x0, vn] [] (0, 0) bb σ (q_kn sc (D + 1) 139 138 ls [] (0, 0) Q) := r_callv (idx := 266) (n := 1) (m := 3) (by decide +kernel) rfl (Nat.le_of_ble_eq_true rfl) ⟨Nat.le_of_ble_eq_true rfl, Nat.le_of_ble_eq_true rfl, rfl⟩ rfl
theorem k139_138 : qx sc D 139 138 [vr a, l1, l2, l3, l4, l5, l6, l7, l8, l9, l10, l11, l12] st u bb σ Q ↔ qx sc D 139 139 [vr a, l1, l2, l3, l4, l5, l6, l7, l8, l9, l10, l11, l12] (vr a :: st) u bb σ Q := r_aload_n (k := 0) (by decide +kernel) rfl
theorem k139_139 : qx sc D 139 139 [l0, l1, l2, l3, l4, vi x, l6, l7, l8, l9, l10, l11, l12] st u bb σ Q ↔ qx sc D 139 141 [l0, l1, l2, l3, l4, vi x, l6, l7, l8, l9, l10, l11, l12] (vi x :: st) u bb σ Q := r_iload (k := 5) (by decide +kernel) rfl
theorem k139_141 : qx sc D 139 141 [vr a, l1, l2, l3, l4, l5, l6, l7, l8, l9, l10, l11, l12] st u bb σ Q ↔ qx sc D 139 142 [vr a, l1, l2, l3, l4, l5, l6, l7, l8, l9, l10, l11, l12] (vr a :: st) u bb σ Q := r_aload_n (k := 0) (by decide +kernel) rfl
theorem k139_142 : qx sc D 139 142 ls (vr 136 :: st) u bb σ Q ↔ qx sc D 139 145 ls (vi (σ 136 14) :: st) u bb σ Q := r_getI (idx := 148) (c := 15) (k := 14) (by decide +kernel)
theorem k139_145 : qx sc (D + 1) 139 145 ls [vi x1, vi x0, vr 136] (0, 0) bb σ Q ↔ qx sc D 226 0 [vr 136, vi x0, vi x1, vn, vn] [] (0, 0) bb σ (q_kn sc (D + 1) 139 148 ls [] (0, 0) Q) := r_callv (idx := 271) (n := 2) (m := 5) (by decide +kernel) rfl (Nat.le_of_ble_eq_true rfl) ⟨Nat.le_of_ble_eq_true rfl, Nat.le_of_ble_eq_true rfl, rfl⟩ rfl
theorem k139_148 : qx sc D 139 148 [l0, l1, l2, l3, l4, l5, l6, l7, l8, l9, l10, l11, l12] (vi x :: st) u bb σ Q ↔ qx sc D 139 150 [l0, l1, l2, l3, l4, l5, l6, l7, l8, vi x, l10, l11, l12] st u bb σ Q := r_istore (k := 9) (by decide +kernel) (Nat.le_of_ble_eq_true rfl)
theorem k139_150 : qx sc D 139 150 ls st u bb σ Q ↔ qx sc D 139 151 ls (vi 0 :: st) u bb σ Q := r_iconst (by decide +kernel)
theorem k139_151 : qx sc D 139 151 [l0, l1, l2, l3, l4, l5, l6, l7, l8, l9, l10, l11, l12] (vi x :: st) u bb σ Q ↔ qx sc D 139 153 [l0, l1, l2, l3, l4, l5, l6, l7, l8, l9, vi x, l11, l12] st u bb σ Q := r_istore (k := 10) (by decide +kernel) (Nat.le_of_ble_eq_true rfl)
theorem k139_153 : qx sc D 139 153 [l0, l1, l2, l3, l4, l5, l6, l7, l8, l9, vi x, l11, l12] st u bb σ Q ↔ qx sc D 139 155 [l0, l1, l2, l3, l4, l5, l6, l7, l8, l9, vi x, l11, l12] (vi x :: st) u bb σ Q := r_iload (k := 10) (by decide +kernel) rfl
theorem k139_155 : qx sc D 139 155 ls st u bb σ Q ↔ qx sc D 139 157 ls (vi 8 :: st) u bb σ Q := r_bipush (by decide +kernel)
theorem k139_157 : qx sc D 139 157 ls (vi b' :: vi a' :: st) u bb σ Q ↔ (a' < b' → qx sc D 139 160 ls st u bb σ Q) ∧ (¬ (a' < b') → qx sc D 139 227 ls st u bb σ Q) := r_ic_ge (off := 70) (t := 227) (by decide +kernel)
theorem k139_160 : qx sc D 139 160 [vr a, l1, l2, l3, l4, l5, l6, l7, l8, l9, l10, l11, l12] st u bb σ Q ↔ qx sc D 139 161 [vr a, l1, l2, l3, l4, l5, l6, l7, l8, l9, l10, l11, l12] (vr a :: st) u bb σ Q := r_aload_n (k := 0) (by decide +kernel) rfl
theorem k139_161 : qx sc (D + 1) 139 161 ls [vr 136] (0, 0) bb σ Q ↔ qx sc D 154 0 [vr 136] [] (0, 0) bb σ (q_kn sc (D + 1) 139 164 ls [] (0, 0) Q) := r_callv (idx := 83) (n := 0) (m := 1) (by decide +kernel) rfl (Nat.le_of_ble_eq_true rfl) ⟨Nat.le_of_ble_eq_true rfl, Nat.le_of_ble_eq_true rfl, rfl⟩ rfl
theorem k139_164 : qx sc D 139 164 ls (vi x :: st) u bb σ Q ↔ (x = 0 → qx sc D 139 167 ls st u bb σ Q) ∧ (¬ (x = 0) → qx sc D 139 227 ls st u bb σ Q) := r_if_ne (off := 63) (t := 227) (by decide +kernel)
theorem k139_167 : qx sc D 139 167 [l0, l1, l2, l3, l4, l5, l6, l7, l8, vi x, l10, l11, l12] st u bb σ Q ↔ qx sc D 139 169 [l0, l1, l2, l3, l4, l5, l6, l7, l8, vi x, l10, l11, l12] (vi x :: st) u bb σ Q := r_iload (k := 9) (by decide +kernel) rfl
theorem k139_169 : qx sc D 139 169 [l0, l1, l2, l3, l4, l5, l6, l7, l8, l9, vi x, l11, l12] st u bb σ Q ↔ qx sc D 139 171 [l0, l1, l2, l3, l4, l5, l6, l7, l8, l9, vi x, l11, l12] (vi x :: st) u bb σ Q := r_iload (k := 10) (by decide +kernel) rfl
theorem k139_171 : qx sc D 139 171 ls (vi b' :: vi a' :: st) u bb σ Q ↔ qx sc D 139 172 ls (vi (q_I a' >>> (q_I b' &&& 31)).toInt :: st) u bb σ Q := r_ishr (by decide +kernel)
theorem k139_172 : qx sc D 139 172 ls st u bb σ Q ↔ qx sc D 139 173 ls (vi 1 :: st) u bb σ Q := r_iconst (by decide +kernel)
theorem k139_173 : qx sc D 139 173 ls (vi b' :: vi a' :: st) u bb σ Q ↔ qx sc D 139 174 ls (vi (q_I a' &&& q_I b').toInt :: st) u bb σ Q := r_iand (by decide +kernel)
theorem k139_174 : qx sc D 139 174 ls (vi x :: st) u bb σ Q ↔ (x = 0 → qx sc D 139 177 ls st u bb σ Q) ∧ (¬ (x = 0) → qx sc D 139 180 ls st u bb σ Q) := r_if_ne (off := 6) (t := 180) (by decide +kernel)
theorem k139_177 : qx sc D 139 177 ls st u bb σ Q ↔ qx sc D 139 221 ls st u bb σ Q := r_goto (off := 44) (by decide +kernel)
theorem k139_180 : qx sc D 139 180 [vr a, l1, l2, l3, l4, l5, l6, l7, l8, l9, l10, l11, l12] st u bb σ Q ↔ qx sc D 139 181 [vr a, l1, l2, l3, l4, l5, l6, l7, l8, l9, l10, l11, l12] (vr a :: st) u bb σ Q := r_aload_n (k := 0) (by decide +kernel) rfl
theorem k139_181 : qx sc D 139 181 [l0, l1, l2, l3, l4, l5, l6, l7, l8, l9, vi x, l11, l12] st u bb σ Q ↔ qx sc D 139 183 [l0, l1, l2, l3, l4, l5, l6, l7, l8, l9, vi x, l11, l12] (vi x :: st) u bb σ Q := r_iload (k := 10) (by decide +kernel) rfl
theorem k139_183 : qx sc D 139 183 ls st u bb σ Q ↔ qx sc D 139 184 ls (vi 5 :: st) u bb σ Q := r_iconst (by decide +kernel)
theorem k139_184 : qx sc D 139 184 [l0, vi x, l2, l3, l4, l5, l6, l7, l8, l9, l10, l11, l12] st u bb σ Q ↔ qx sc D 139 185 [l0, vi x, l2, l3, l4, l5, l6, l7, l8, l9, l10, l11, l12] (vi x :: st) u bb σ Q := r_iload_n (k := 1) (by decide +kernel) rfl
theorem k139_185 : qx sc D 139 185 [vr a, l1, l2, l3, l4, l5, l6, l7, l8, l9, l10, l11, l12] st u bb σ Q ↔ qx sc D 139 186 [vr a, l1, l2, l3, l4, l5, l6, l7, l8, l9, l10, l11, l12] (vr a :: st) u bb σ Q := r_aload_n (k := 0) (by decide +kernel) rfl
theorem k139_186 : qx sc D 139 186 ls (vr 136 :: st) u bb σ Q ↔ qx sc D 139 189 ls (vr 172 :: st) u bb σ Q := r_getR (idx := 248) (c := 15) (k := 50) (by decide +kernel)
theorem k139_189 : qx sc D 139 189 [l0, l1, l2, l3, l4, l5, vi x, l7, l8, l9, l10, l11, l12] st u bb σ Q ↔ qx sc D 139 191 [l0, l1, l2, l3, l4, l5, vi x, l7, l8, l9, l10, l11, l12] (vi x :: st) u bb σ Q := r_iload (k := 6) (by decide +kernel) rfl
theorem k139_191 : qx sc D 139 191 [l0, l1, l2, l3, l4, l5, l6, l7, l8, l9, vi x, l11, l12] st u bb σ Q ↔ qx sc D 139 193 [l0, l1, l2, l3, l4, l5, l6, l7, l8, l9, vi x, l11, l12] (vi x :: st) u bb σ Q := r_iload (k := 10) (by decide +kernel) rfl
theorem k139_193 : qx sc D 139 193 ls (vi b' :: vi a' :: st) u bb σ Q ↔ q_R (a' + b') ∧ qx sc D 139 194 ls (vi (a' + b') :: st) u bb σ Q := r_iadd (by decide +kernel)
theorem k139_194 : qx sc D 139 194 ls (vi i :: vr a :: st) u bb σ Q ↔ (q_ty a = 0 ∧ 0 ≤ i ∧ i < q_ln a) ∧ qx sc D 139 195 ls (vi (σ a i) :: st) u bb σ Q := r_iald (by decide +kernel)
theorem k139_195 : qx sc D 139 195 [vr a, l1, l2, l3, l4, l5, l6, l7, l8, l9, l10, l11, l12] st u bb σ Q ↔ qx sc D 139 196 [vr a, l1, l2, l3, l4, l5, l6, l7, l8, l9, l10, l11, l12] (vr a :: st) u bb σ Q := r_aload_n (k := 0) (by decide +kernel) rfl
theorem k139_196 : qx sc D 139 196 ls (vr 136 :: st) u bb σ Q ↔ qx sc D 139 199 ls (vr 172 :: st) u bb σ Q := r_getR (idx := 248) (c := 15) (k := 50) (by decide +kernel)
theorem k139_199 : qx sc D 139 199 [l0, l1, l2, l3, l4, l5, l6, l7, vi x, l9, l10, l11, l12] st u bb σ Q ↔ qx sc D 139 201 [l0, l1, l2, l3, l4, l5, l6, l7, vi x, l9, l10, l11, l12] (vi x :: st) u bb σ Q := r_iload (k := 8) (by decide +kernel) rfl
theorem k139_201 : qx sc D 139 201 [l0, l1, l2, l3, l4, l5, l6, l7, l8, l9, vi x, l11, l12] st u bb σ Q ↔ qx sc D 139 203 [l0, l1, l2, l3, l4, l5, l6, l7, l8, l9, vi x, l11, l12] (vi x :: st) u bb σ Q := r_iload (k := 10) (by decide +kernel) rfl
theorem k139_203 : qx sc D 139 203 ls (vi b' :: vi a' :: st) u bb σ Q ↔ q_R (a' + b') ∧ qx sc D 139 204 ls (vi (a' + b') :: st) u bb σ Q := r_iadd (by decide +kernel)
theorem k139_204 : qx sc D 139 204 ls (vi i :: vr a :: st) u bb σ Q ↔ (q_ty a = 0 ∧ 0 ≤ i ∧ i < q_ln a) ∧ qx sc D 139 205 ls (vi (σ a i) :: st) u bb σ Q := r_iald (by decide +kernel)
theorem k139_205 : qx sc (D + 1) 139 205 ls [vi x4, vi x3, vi x2, vi x1, vi x0, vr 136] (0, 0) bb σ Q ↔ qx sc D 180 0 [vr 136, vi x0, vi x1, vi x2, vi x3, vi x4, vn] [] (0, 0) bb σ (q_kn sc (D + 1) 139 208 ls [] (0, 0) Q) := r_callv (idx := 211) (n := 5) (m := 7) (by decide +kernel) rfl (Nat.le_of_ble_eq_true rfl) ⟨Nat.le_of_ble_eq_true rfl, Nat.le_of_ble_eq_true rfl, rfl⟩ rfl
theorem k139_208 : qx sc D 139 208 [l0, l1, l2, l3, l4, l5, l6, l7, l8, l9, l10, l11, l12] (vi x :: st) u bb σ Q ↔ qx sc D 139 210 [l0, l1, l2, l3, l4, l5, l6, l7, l8, l9, l10, vi x, l12] st u bb σ Q := r_istore (k := 11) (by decide +kernel) (Nat.le_of_ble_eq_true rfl)
theorem k139_210 : qx sc D 139 210 [vr a, l1, l2, l3, l4, l5, l6, l7, l8, l9, l10, l11, l12] st u bb σ Q ↔ qx sc D 139 211 [vr a, l1, l2, l3, l4, l5, l6, l7, l8, l9, l10, l11, l12] (vr a :: st) u bb σ Q := r_aload_n (k := 0) (by decide +kernel) rfl
theorem k139_211 : qx sc D 139 211 ls st u bb σ Q ↔ qx sc D 139 213 ls (vi 6 :: st) u bb σ Q := r_bipush (by decide +kernel)
theorem k139_213 : qx sc D 139 213 [l0, l1, l2, l3, l4, l5, l6, l7, l8, l9, l10, vi x, l12] st u bb σ Q ↔ qx sc D 139 215 [l0, l1, l2, l3, l4, l5, l6, l7, l8, l9, l10, vi x, l12] (vi x :: st) u bb σ Q := r_iload (k := 11) (by decide +kernel) rfl
theorem k139_215 : qx sc D 139 215 ls st u bb σ Q ↔ qx sc D 139 216 ls (vi 0 :: st) u bb σ Q := r_iconst (by decide +kernel)
theorem k139_216 : qx sc (D + 1) 139 216 ls [vi x2, vi x1, vi x0, vr 136] (0, 0) bb σ Q ↔ qx sc D 172 0 [vr 136, vi x0, vi x1, vi x2] [] (0, 0) bb σ (q_kn sc (D + 1) 139 219 ls [] (0, 0) Q) := r_callv (idx := 186) (n := 3) (m := 4) (by decide +kernel) rfl (Nat.le_of_ble_eq_true rfl) ⟨Nat.le_of_ble_eq_true rfl, Nat.le_of_ble_eq_true rfl, rfl⟩ rfl
theorem k139_219 : qx sc D 139 219 [l0, l1, l2, l3, l4, l5, l6, l7, l8, l9, l10, l11, l12] (vi x :: st) u bb σ Q ↔ qx sc D 139 221 [l0, l1, l2, l3, l4, l5, l6, l7, l8, l9, l10, l11, vi x] st u bb σ Q := r_istore (k := 12) (by decide +kernel) (Nat.le_of_ble_eq_true rfl)
theorem k139_221 : qx sc D 139 221 [l0, l1, l2, l3, l4, l5, l6, l7, l8, l9, vi x, l11, l12] st u bb σ Q ↔ q_R (x + 1) ∧ qx sc D 139 224 [l0, l1, l2, l3, l4, l5, l6, l7, l8, l9, vi (x + 1), l11, l12] st u bb σ Q := r_iinc (k := 10) (n := 1) (by decide +kernel) rfl
theorem k139_224 : qx sc D 139 224 ls st u bb σ Q ↔ qx sc D 139 153 ls st u bb σ Q := r_goto (off := (-71)) (by decide +kernel)
theorem k139_227 : qx sc D 139 227 [vr a, l1, l2, l3, l4, l5, l6, l7, l8, l9, l10, l11, l12] st u bb σ Q ↔ qx sc D 139 228 [vr a, l1, l2, l3, l4, l5, l6, l7, l8, l9, l10, l11, l12] (vr a :: st) u bb σ Q := r_aload_n (k := 0) (by decide +kernel) rfl
theorem k139_228 : qx sc D 139 228 [l0, l1, l2, l3, vi x, l5, l6, l7, l8, l9, l10, l11, l12] st u bb σ Q ↔ qx sc D 139 230 [l0, l1, l2, l3, vi x, l5, l6, l7, l8, l9, l10, l11, l12] (vi x :: st) u bb σ Q := r_iload (k := 4) (by decide +kernel) rfl
theorem k139_230 : qx sc D 139 230 ls (vi x :: vr 136 :: st) u bb σ Q ↔ qx sc D 139 233 ls st u bb (q_up σ 136 51 x) Q := r_putI (idx := 245) (c := 15) (k := 51) (by decide +kernel)
theorem k139_233 : qx sc D 139 233 ls [] (0, 0) bb σ Q ↔ Q (.inl none) bb σ := r_retV (by decide +kernel)
-- 140: RowProverModel.closer(III)I
theorem k140_0 : qx sc D 140 0 [l0, vi x, l2, l3] st u bb σ Q ↔ qx sc D 140 1 [l0, vi x, l2, l3] (vi x :: st) u bb σ Q := r_iload_n (k := 1) (by decide +kernel) rfl
theorem k140_1 : qx sc D 140 1 ls st u bb σ Q ↔ qx sc D 140 2 ls (vi 3 :: st) u bb σ Q := r_iconst (by decide +kernel)
theorem k140_2 : qx sc D 140 2 ls (vi b' :: vi a' :: st) u bb σ Q ↔ (a' = b' → qx sc D 140 5 ls st u bb σ Q) ∧ (¬ (a' = b') → qx sc D 140 18 ls st u bb σ Q) := r_ic_ne (off := 16) (t := 18) (by decide +kernel)
theorem k140_5 : qx sc D 140 5 [l0, l1, vi x, l3] st u bb σ Q ↔ qx sc D 140 6 [l0, l1, vi x, l3] (vi x :: st) u bb σ Q := r_iload_n (k := 2) (by decide +kernel) rfl
theorem k140_6 : qx sc D 140 6 [l0, l1, l2, vi x] st u bb σ Q ↔ qx sc D 140 7 [l0, l1, l2, vi x] (vi x :: st) u bb σ Q := r_iload_n (k := 3) (by decide +kernel) rfl
theorem k140_7 : qx sc D 140 7 ls (vi b' :: vi a' :: st) u bb σ Q ↔ (b' < a' → qx sc D 140 10 ls st u bb σ Q) ∧ (¬ (b' < a') → qx sc D 140 14 ls st u bb σ Q) := r_ic_le (off := 7) (t := 14) (by decide +kernel)
theorem k140_10 : qx sc D 140 10 [l0, l1, vi x, l3] st u bb σ Q ↔ qx sc D 140 11 [l0, l1, vi x, l3] (vi x :: st) u bb σ Q := r_iload_n (k := 2) (by decide +kernel) rfl
theorem k140_11 : qx sc D 140 11 ls st u bb σ Q ↔ qx sc D 140 28 ls st u bb σ Q := r_goto (off := 17) (by decide +kernel)
theorem k140_14 : qx sc D 140 14 [l0, l1, l2, vi x] st u bb σ Q ↔ qx sc D 140 15 [l0, l1, l2, vi x] (vi x :: st) u bb σ Q := r_iload_n (k := 3) (by decide +kernel) rfl
theorem k140_15 : qx sc D 140 15 ls st u bb σ Q ↔ qx sc D 140 28 ls st u bb σ Q := r_goto (off := 13) (by decide +kernel)
theorem k140_18 : qx sc D 140 18 [l0, l1, vi x, l3] st u bb σ Q ↔ qx sc D 140 19 [l0, l1, vi x, l3] (vi x :: st) u bb σ Q := r_iload_n (k := 2) (by decide +kernel) rfl
theorem k140_19 : qx sc D 140 19 [l0, l1, l2, vi x] st u bb σ Q ↔ qx sc D 140 20 [l0, l1, l2, vi x] (vi x :: st) u bb σ Q := r_iload_n (k := 3) (by decide +kernel) rfl
theorem k140_20 : qx sc D 140 20 ls (vi b' :: vi a' :: st) u bb σ Q ↔ (a' < b' → qx sc D 140 23 ls st u bb σ Q) ∧ (¬ (a' < b') → qx sc D 140 27 ls st u bb σ Q) := r_ic_ge (off := 7) (t := 27) (by decide +kernel)
theorem k140_23 : qx sc D 140 23 [l0, l1, vi x, l3] st u bb σ Q ↔ qx sc D 140 24 [l0, l1, vi x, l3] (vi x :: st) u bb σ Q := r_iload_n (k := 2) (by decide +kernel) rfl
theorem k140_24 : qx sc D 140 24 ls st u bb σ Q ↔ qx sc D 140 28 ls st u bb σ Q := r_goto (off := 4) (by decide +kernel)
theorem k140_27 : qx sc D 140 27 [l0, l1, l2, vi x] st u bb σ Q ↔ qx sc D 140 28 [l0, l1, l2, vi x] (vi x :: st) u bb σ Q := r_iload_n (k := 3) (by decide +kernel) rfl
theorem k140_28 : qx sc D 140 28 ls [vi x] (0, 0) bb σ Q ↔ Q (.inl (some (vi x))) bb σ := r_ret (by decide +kernel)
-- 141: RowProverModel.comesTo(II)I
theorem k141_0 : qx sc D 141 0 [vr a, l1, l2] st u bb σ Q ↔ qx sc D 141 1 [vr a, l1, l2] (vr a :: st) u bb σ Q := r_aload_n (k := 0) (by decide +kernel) rfl
theorem k141_1 : qx sc D 141 1 ls (vr 136 :: st) u bb σ Q ↔ qx sc D 141 4 ls (vr 148 :: st) u bb σ Q := r_getR (idx := 36) (c := 15) (k := 25) (by decide +kernel)
theorem k141_4 : qx sc D 141 4 [l0, l1, vi x] st u bb σ Q ↔ qx sc D 141 5 [l0, l1, vi x] (vi x :: st) u bb σ Q := r_iload_n (k := 2) (by decide +kernel) rfl
theorem k141_5 : qx sc D 141 5 ls (vi i :: vr a :: st) u bb σ Q ↔ (q_ty a = 0 ∧ 0 ≤ i ∧ i < q_ln a) ∧ qx sc D 141 6 ls (vi (σ a i) :: st) u bb σ Q := r_iald (by decide +kernel)
theorem k141_6 : qx sc D 141 6 ls (vi x :: st) u bb σ Q ↔ qx sc D 141 (if x < 0 ∨ 4 < x then 100 else [40, 47, 54, 77, 77].getD (x - 0).toNat 0) ls st u bb σ Q := r_tsw (d := 94) (lo := 0) (hi := 4) (offs := #[34, 41, 48, 71, 71]) (dt := 100) (tg := [40, 47, 54, 77, 77]) (by decide +kernel)
theorem k141_40 : qx sc D 141 40 [vr a, l1, l2] st u bb σ Q ↔ qx sc D 141 41 [vr a, l1, l2] (vr a :: st) u bb σ Q := r_aload_n (k := 0) (by decide +kernel) rfl
theorem k141_41 : qx sc D 141 41 [l0, vi x, l2] st u bb σ Q ↔ qx sc D 141 42 [l0, vi x, l2] (vi x :: st) u bb σ Q := r_iload_n (k := 1) (by decide +kernel) rfl
theorem k141_42 : qx sc D 141 42 ls st u bb σ Q ↔ qx sc D 141 43 ls (vi 0 :: st) u bb σ Q := r_iconst (by decide +kernel)
theorem k141_43 : qx sc (D + 1) 141 43 ls [vi x1, vi x0, vr 136] (0, 0) bb σ Q ↔ qx sc D 192 0 [vr 136, vi x0, vi x1] [] (0, 0) bb σ (q_kn sc (D + 1) 141 46 ls [] (0, 0) Q) := r_callv (idx := 363) (n := 2) (m := 3) (by decide +kernel) rfl (Nat.le_of_ble_eq_true rfl) ⟨Nat.le_of_ble_eq_true rfl, Nat.le_of_ble_eq_true rfl, rfl⟩ rfl
theorem k141_46 : qx sc D 141 46 ls [vi x] (0, 0) bb σ Q ↔ Q (.inl (some (vi x))) bb σ := r_ret (by decide +kernel)
theorem k141_47 : qx sc D 141 47 [vr a, l1, l2] st u bb σ Q ↔ qx sc D 141 48 [vr a, l1, l2] (vr a :: st) u bb σ Q := r_aload_n (k := 0) (by decide +kernel) rfl
theorem k141_48 : qx sc D 141 48 [l0, vi x, l2] st u bb σ Q ↔ qx sc D 141 49 [l0, vi x, l2] (vi x :: st) u bb σ Q := r_iload_n (k := 1) (by decide +kernel) rfl
theorem k141_49 : qx sc D 141 49 [l0, l1, vi x] st u bb σ Q ↔ qx sc D 141 50 [l0, l1, vi x] (vi x :: st) u bb σ Q := r_iload_n (k := 2) (by decide +kernel) rfl
theorem k141_50 : qx sc (D + 1) 141 50 ls [vi x1, vi x0, vr 136] (0, 0) bb σ Q ↔ qx sc D 195 0 [vr 136, vi x0, vi x1] [] (0, 0) bb σ (q_kn sc (D + 1) 141 53 ls [] (0, 0) Q) := r_callv (idx := 387) (n := 2) (m := 3) (by decide +kernel) rfl (Nat.le_of_ble_eq_true rfl) ⟨Nat.le_of_ble_eq_true rfl, Nat.le_of_ble_eq_true rfl, rfl⟩ rfl
theorem k141_53 : qx sc D 141 53 ls [vi x] (0, 0) bb σ Q ↔ Q (.inl (some (vi x))) bb σ := r_ret (by decide +kernel)
theorem k141_54 : qx sc D 141 54 [vr a, l1, l2] st u bb σ Q ↔ qx sc D 141 55 [vr a, l1, l2] (vr a :: st) u bb σ Q := r_aload_n (k := 0) (by decide +kernel) rfl
theorem k141_55 : qx sc D 141 55 [l0, vi x, l2] st u bb σ Q ↔ qx sc D 141 56 [l0, vi x, l2] (vi x :: st) u bb σ Q := r_iload_n (k := 1) (by decide +kernel) rfl
theorem k141_56 : qx sc D 141 56 [vr a, l1, l2] st u bb σ Q ↔ qx sc D 141 57 [vr a, l1, l2] (vr a :: st) u bb σ Q := r_aload_n (k := 0) (by decide +kernel) rfl
theorem k141_57 : qx sc D 141 57 [l0, vi x, l2] st u bb σ Q ↔ qx sc D 141 58 [l0, vi x, l2] (vi x :: st) u bb σ Q := r_iload_n (k := 1) (by decide +kernel) rfl
theorem k141_58 : qx sc D 141 58 [vr a, l1, l2] st u bb σ Q ↔ qx sc D 141 59 [vr a, l1, l2] (vr a :: st) u bb σ Q := r_aload_n (k := 0) (by decide +kernel) rfl
theorem k141_59 : qx sc D 141 59 ls (vr 136 :: st) u bb σ Q ↔ qx sc D 141 62 ls (vr 150 :: st) u bb σ Q := r_getR (idx := 42) (c := 15) (k := 27) (by decide +kernel)
theorem k141_62 : qx sc D 141 62 [l0, l1, vi x] st u bb σ Q ↔ qx sc D 141 63 [l0, l1, vi x] (vi x :: st) u bb σ Q := r_iload_n (k := 2) (by decide +kernel) rfl
theorem k141_63 : qx sc D 141 63 ls (vi i :: vr a :: st) u bb σ Q ↔ (q_ty a = 0 ∧ 0 ≤ i ∧ i < q_ln a) ∧ qx sc D 141 64 ls (vi (σ a i) :: st) u bb σ Q := r_iald (by decide +kernel)
theorem k141_64 : qx sc (D + 1) 141 64 ls [vi x1, vi x0, vr 136, vi x20, vr a21] (0, 0) bb σ Q ↔ qx sc D 133 0 [vr 136, vi x0, vi x1] [] (0, 0) bb σ (q_kn sc (D + 1) 141 67 ls [vi x20, vr a21] (0, 0) Q) := r_callv (idx := 369) (n := 2) (m := 3) (by decide +kernel) rfl (Nat.le_of_ble_eq_true rfl) ⟨Nat.le_of_ble_eq_true rfl, Nat.le_of_ble_eq_true rfl, rfl⟩ rfl
theorem k141_67 : qx sc D 141 67 [vr a, l1, l2] st u bb σ Q ↔ qx sc D 141 68 [vr a, l1, l2] (vr a :: st) u bb σ Q := r_aload_n (k := 0) (by decide +kernel) rfl
theorem k141_68 : qx sc D 141 68 [l0, vi x, l2] st u bb σ Q ↔ qx sc D 141 69 [l0, vi x, l2] (vi x :: st) u bb σ Q := r_iload_n (k := 1) (by decide +kernel) rfl
theorem k141_69 : qx sc D 141 69 [l0, l1, vi x] st u bb σ Q ↔ qx sc D 141 70 [l0, l1, vi x] (vi x :: st) u bb σ Q := r_iload_n (k := 2) (by decide +kernel) rfl
theorem k141_70 : qx sc (D + 1) 141 70 ls [vi x1, vi x0, vr 136, vi x20, vi x21, vr a22] (0, 0) bb σ Q ↔ qx sc D 190 0 [vr 136, vi x0, vi x1, vn] [] (0, 0) bb σ (q_kn sc (D + 1) 141 73 ls [vi x20, vi x21, vr a22] (0, 0) Q) := r_callv (idx := 390) (n := 2) (m := 4) (by decide +kernel) rfl (Nat.le_of_ble_eq_true rfl) ⟨Nat.le_of_ble_eq_true rfl, Nat.le_of_ble_eq_true rfl, rfl⟩ rfl
theorem k141_73 : qx sc (D + 1) 141 73 ls [vi x2, vi x1, vi x0, vr 136] (0, 0) bb σ Q ↔ qx sc D 140 0 [vr 136, vi x0, vi x1, vi x2] [] (0, 0) bb σ (q_kn sc (D + 1) 141 76 ls [] (0, 0) Q) := r_callv (idx := 393) (n := 3) (m := 4) (by decide +kernel) rfl (Nat.le_of_ble_eq_true rfl) ⟨Nat.le_of_ble_eq_true rfl, Nat.le_of_ble_eq_true rfl, rfl⟩ rfl
theorem k141_76 : qx sc D 141 76 ls [vi x] (0, 0) bb σ Q ↔ Q (.inl (some (vi x))) bb σ := r_ret (by decide +kernel)
theorem k141_77 : qx sc D 141 77 [vr a, l1, l2] st u bb σ Q ↔ qx sc D 141 78 [vr a, l1, l2] (vr a :: st) u bb σ Q := r_aload_n (k := 0) (by decide +kernel) rfl
theorem k141_78 : qx sc D 141 78 [l0, vi x, l2] st u bb σ Q ↔ qx sc D 141 79 [l0, vi x, l2] (vi x :: st) u bb σ Q := r_iload_n (k := 1) (by decide +kernel) rfl
theorem k141_79 : qx sc D 141 79 [vr a, l1, l2] st u bb σ Q ↔ qx sc D 141 80 [vr a, l1, l2] (vr a :: st) u bb σ Q := r_aload_n (k := 0) (by decide +kernel) rfl
theorem k141_80 : qx sc D 141 80 [l0, vi x, l2] st u bb σ Q ↔ qx sc D 141 81 [l0, vi x, l2] (vi x :: st) u bb σ Q := r_iload_n (k := 1) (by decide +kernel) rfl
theorem k141_81 : qx sc D 141 81 [vr a, l1, l2] st u bb σ Q ↔ qx sc D 141 82 [vr a, l1, l2] (vr a :: st) u bb σ Q := r_aload_n (k := 0) (by decide +kernel) rfl
theorem k141_82 : qx sc D 141 82 ls (vr 136 :: st) u bb σ Q ↔ qx sc D 141 85 ls (vr 150 :: st) u bb σ Q := r_getR (idx := 42) (c := 15) (k := 27) (by decide +kernel)
theorem k141_85 : qx sc D 141 85 [l0, l1, vi x] st u bb σ Q ↔ qx sc D 141 86 [l0, l1, vi x] (vi x :: st) u bb σ Q := r_iload_n (k := 2) (by decide +kernel) rfl
theorem k141_86 : qx sc D 141 86 ls (vi i :: vr a :: st) u bb σ Q ↔ (q_ty a = 0 ∧ 0 ≤ i ∧ i < q_ln a) ∧ qx sc D 141 87 ls (vi (σ a i) :: st) u bb σ Q := r_iald (by decide +kernel)
theorem k141_87 : qx sc (D + 1) 141 87 ls [vi x1, vi x0, vr 136, vi x20, vr a21] (0, 0) bb σ Q ↔ qx sc D 133 0 [vr 136, vi x0, vi x1] [] (0, 0) bb σ (q_kn sc (D + 1) 141 90 ls [vi x20, vr a21] (0, 0) Q) := r_callv (idx := 369) (n := 2) (m := 3) (by decide +kernel) rfl (Nat.le_of_ble_eq_true rfl) ⟨Nat.le_of_ble_eq_true rfl, Nat.le_of_ble_eq_true rfl, rfl⟩ rfl
theorem k141_90 : qx sc D 141 90 [vr a, l1, l2] st u bb σ Q ↔ qx sc D 141 91 [vr a, l1, l2] (vr a :: st) u bb σ Q := r_aload_n (k := 0) (by decide +kernel) rfl
theorem k141_91 : qx sc D 141 91 [l0, vi x, l2] st u bb σ Q ↔ qx sc D 141 92 [l0, vi x, l2] (vi x :: st) u bb σ Q := r_iload_n (k := 1) (by decide +kernel) rfl
theorem k141_92 : qx sc D 141 92 [l0, l1, vi x] st u bb σ Q ↔ qx sc D 141 93 [l0, l1, vi x] (vi x :: st) u bb σ Q := r_iload_n (k := 2) (by decide +kernel) rfl
theorem k141_93 : qx sc (D + 1) 141 93 ls [vi x1, vi x0, vr 136, vi x20, vi x21, vr a22] (0, 0) bb σ Q ↔ qx sc D 194 0 [vr 136, vi x0, vi x1, vn, vn, vn, vn, vn, vn, vn] [] (0, 0) bb σ (q_kn sc (D + 1) 141 96 ls [vi x20, vi x21, vr a22] (0, 0) Q) := r_callv (idx := 396) (n := 2) (m := 10) (by decide +kernel) rfl (Nat.le_of_ble_eq_true rfl) ⟨Nat.le_of_ble_eq_true rfl, Nat.le_of_ble_eq_true rfl, rfl⟩ rfl
theorem k141_96 : qx sc (D + 1) 141 96 ls [vi x2, vi x1, vi x0, vr 136] (0, 0) bb σ Q ↔ qx sc D 140 0 [vr 136, vi x0, vi x1, vi x2] [] (0, 0) bb σ (q_kn sc (D + 1) 141 99 ls [] (0, 0) Q) := r_callv (idx := 393) (n := 3) (m := 4) (by decide +kernel) rfl (Nat.le_of_ble_eq_true rfl) ⟨Nat.le_of_ble_eq_true rfl, Nat.le_of_ble_eq_true rfl, rfl⟩ rfl
theorem k141_99 : qx sc D 141 99 ls [vi x] (0, 0) bb σ Q ↔ Q (.inl (some (vi x))) bb σ := r_ret (by decide +kernel)
theorem k141_100 : qx sc D 141 100 [vr a, l1, l2] st u bb σ Q ↔ qx sc D 141 101 [vr a, l1, l2] (vr a :: st) u bb σ Q := r_aload_n (k := 0) (by decide +kernel) rfl
theorem k141_101 : qx sc D 141 101 [l0, vi x, l2] st u bb σ Q ↔ qx sc D 141 102 [l0, vi x, l2] (vi x :: st) u bb σ Q := r_iload_n (k := 1) (by decide +kernel) rfl
theorem k141_102 : qx sc D 141 102 [vr a, l1, l2] st u bb σ Q ↔ qx sc D 141 103 [vr a, l1, l2] (vr a :: st) u bb σ Q := r_aload_n (k := 0) (by decide +kernel) rfl
theorem k141_103 : qx sc D 141 103 [l0, vi x, l2] st u bb σ Q ↔ qx sc D 141 104 [l0, vi x, l2] (vi x :: st) u bb σ Q := r_iload_n (k := 1) (by decide +kernel) rfl
theorem k141_104 : qx sc D 141 104 [vr a, l1, l2] st u bb σ Q ↔ qx sc D 141 105 [vr a, l1, l2] (vr a :: st) u bb σ Q := r_aload_n (k := 0) (by decide +kernel) rfl
theorem k141_105 : qx sc D 141 105 ls (vr 136 :: st) u bb σ Q ↔ qx sc D 141 108 ls (vr 150 :: st) u bb σ Q := r_getR (idx := 42) (c := 15) (k := 27) (by decide +kernel)
theorem k141_108 : qx sc D 141 108 [l0, l1, vi x] st u bb σ Q ↔ qx sc D 141 109 [l0, l1, vi x] (vi x :: st) u bb σ Q := r_iload_n (k := 2) (by decide +kernel) rfl
theorem k141_109 : qx sc D 141 109 ls (vi i :: vr a :: st) u bb σ Q ↔ (q_ty a = 0 ∧ 0 ≤ i ∧ i < q_ln a) ∧ qx sc D 141 110 ls (vi (σ a i) :: st) u bb σ Q := r_iald (by decide +kernel)
theorem k141_110 : qx sc (D + 1) 141 110 ls [vi x1, vi x0, vr 136, vi x20, vr a21] (0, 0) bb σ Q ↔ qx sc D 133 0 [vr 136, vi x0, vi x1] [] (0, 0) bb σ (q_kn sc (D + 1) 141 113 ls [vi x20, vr a21] (0, 0) Q) := r_callv (idx := 369) (n := 2) (m := 3) (by decide +kernel) rfl (Nat.le_of_ble_eq_true rfl) ⟨Nat.le_of_ble_eq_true rfl, Nat.le_of_ble_eq_true rfl, rfl⟩ rfl
theorem k141_113 : qx sc D 141 113 [vr a, l1, l2] st u bb σ Q ↔ qx sc D 141 114 [vr a, l1, l2] (vr a :: st) u bb σ Q := r_aload_n (k := 0) (by decide +kernel) rfl
theorem k141_114 : qx sc D 141 114 [l0, vi x, l2] st u bb σ Q ↔ qx sc D 141 115 [l0, vi x, l2] (vi x :: st) u bb σ Q := r_iload_n (k := 1) (by decide +kernel) rfl
theorem k141_115 : qx sc D 141 115 [vr a, l1, l2] st u bb σ Q ↔ qx sc D 141 116 [vr a, l1, l2] (vr a :: st) u bb σ Q := r_aload_n (k := 0) (by decide +kernel) rfl
theorem k141_116 : qx sc D 141 116 ls (vr 136 :: st) u bb σ Q ↔ qx sc D 141 119 ls (vr 151 :: st) u bb σ Q := r_getR (idx := 45) (c := 15) (k := 28) (by decide +kernel)
theorem k141_119 : qx sc D 141 119 [l0, l1, vi x] st u bb σ Q ↔ qx sc D 141 120 [l0, l1, vi x] (vi x :: st) u bb σ Q := r_iload_n (k := 2) (by decide +kernel) rfl
theorem k141_120 : qx sc D 141 120 ls (vi i :: vr a :: st) u bb σ Q ↔ (q_ty a = 0 ∧ 0 ≤ i ∧ i < q_ln a) ∧ qx sc D 141 121 ls (vi (σ a i) :: st) u bb σ Q := r_iald (by decide +kernel)
theorem k141_121 : qx sc (D + 1) 141 121 ls [vi x1, vi x0, vr 136, vi x20, vi x21, vr a22] (0, 0) bb σ Q ↔ qx sc D 133 0 [vr 136, vi x0, vi x1] [] (0, 0) bb σ (q_kn sc (D + 1) 141 124 ls [vi x20, vi x21, vr a22] (0, 0) Q) := r_callv (idx := 369) (n := 2) (m := 3) (by decide +kernel) rfl (Nat.le_of_ble_eq_true rfl) ⟨Nat.le_of_ble_eq_true rfl, Nat.le_of_ble_eq_true rfl, rfl⟩ rfl
theorem k141_124 : qx sc (D + 1) 141 124 ls [vi x2, vi x1, vi x0, vr 136] (0, 0) bb σ Q ↔ qx sc D 179 0 [vr 136, vi x0, vi x1, vi x2] [] (0, 0) bb σ (q_kn sc (D + 1) 141 127 ls [] (0, 0) Q) := r_callv (idx := 399) (n := 3) (m := 4) (by decide +kernel) rfl (Nat.le_of_ble_eq_true rfl) ⟨Nat.le_of_ble_eq_true rfl, Nat.le_of_ble_eq_true rfl, rfl⟩ rfl
theorem k141_127 : qx sc D 141 127 ls [vi x] (0, 0) bb σ Q ↔ Q (.inl (some (vi x))) bb σ := r_ret (by decide +kernel)
-- 142: RowProverModel.count(I)I
theorem k142_0 : qx sc D 142 0 [vr a, l1] st u bb σ Q ↔ qx sc D 142 1 [vr a, l1] (vr a :: st) u bb σ Q := r_aload_n (k := 0) (by decide +kernel) rfl
theorem k142_1 : qx sc D 142 1 ls st u bb σ Q ↔ qx sc D 142 2 ls (vi 0 :: st) u bb σ Q := r_iconst (by decide +kernel)
theorem k142_2 : qx sc D 142 2 ls (vi x :: vr 136 :: st) u bb σ Q ↔ qx sc D 142 5 ls st u bb (q_up σ 136 0 x) Q := r_putI (idx := 3) (c := 15) (k := 0) (by decide +kernel)
theorem k142_5 : qx sc D 142 5 [l0, vi x] st u bb σ Q ↔ qx sc D 142 6 [l0, vi x] (vi x :: st) u bb σ Q := r_iload_n (k := 1) (by decide +kernel) rfl
theorem k142_6 : qx sc D 142 6 ls (vi x :: st) u bb σ Q ↔ qx sc D 142 (if x < 0 ∨ 10 < x then 132 else [64, 69, 74, 79, 84, 89, 94, 99, 104, 104, 104].getD (x - 0).toNat 0) ls st u bb σ Q := r_tsw (d := 126) (lo := 0) (hi := 10) (offs := #[58, 63, 68, 73, 78, 83, 88, 93, 98, 98, 98]) (dt := 132) (tg := [64, 69, 74, 79, 84, 89, 94, 99, 104, 104, 104]) (by decide +kernel)
theorem k142_64 : qx sc D 142 64 [vr a, l1] st u bb σ Q ↔ qx sc D 142 65 [vr a, l1] (vr a :: st) u bb σ Q := r_aload_n (k := 0) (by decide +kernel) rfl
theorem k142_65 : qx sc D 142 65 ls (vr 136 :: st) u bb σ Q ↔ qx sc D 142 68 ls (vi (σ 136 14) :: st) u bb σ Q := r_getI (idx := 148) (c := 15) (k := 14) (by decide +kernel)
theorem k142_68 : qx sc D 142 68 ls [vi x] (0, 0) bb σ Q ↔ Q (.inl (some (vi x))) bb σ := r_ret (by decide +kernel)
theorem k142_69 : qx sc D 142 69 [vr a, l1] st u bb σ Q ↔ qx sc D 142 70 [vr a, l1] (vr a :: st) u bb σ Q := r_aload_n (k := 0) (by decide +kernel) rfl
theorem k142_70 : qx sc D 142 70 ls (vr 136 :: st) u bb σ Q ↔ qx sc D 142 73 ls (vi (σ 136 15) :: st) u bb σ Q := r_getI (idx := 30) (c := 15) (k := 15) (by decide +kernel)
theorem k142_73 : qx sc D 142 73 ls [vi x] (0, 0) bb σ Q ↔ Q (.inl (some (vi x))) bb σ := r_ret (by decide +kernel)
theorem k142_74 : qx sc D 142 74 [vr a, l1] st u bb σ Q ↔ qx sc D 142 75 [vr a, l1] (vr a :: st) u bb σ Q := r_aload_n (k := 0) (by decide +kernel) rfl
theorem k142_75 : qx sc D 142 75 ls (vr 136 :: st) u bb σ Q ↔ qx sc D 142 78 ls (vi (σ 136 16) :: st) u bb σ Q := r_getI (idx := 193) (c := 15) (k := 16) (by decide +kernel)
theorem k142_78 : qx sc D 142 78 ls [vi x] (0, 0) bb σ Q ↔ Q (.inl (some (vi x))) bb σ := r_ret (by decide +kernel)
theorem k142_79 : qx sc D 142 79 [vr a, l1] st u bb σ Q ↔ qx sc D 142 80 [vr a, l1] (vr a :: st) u bb σ Q := r_aload_n (k := 0) (by decide +kernel) rfl
theorem k142_80 : qx sc D 142 80 ls (vr 136 :: st) u bb σ Q ↔ qx sc D 142 83 ls (vi (σ 136 17) :: st) u bb σ Q := r_getI (idx := 275) (c := 15) (k := 17) (by decide +kernel)
theorem k142_83 : qx sc D 142 83 ls [vi x] (0, 0) bb σ Q ↔ Q (.inl (some (vi x))) bb σ := r_ret (by decide +kernel)
theorem k142_84 : qx sc D 142 84 [vr a, l1] st u bb σ Q ↔ qx sc D 142 85 [vr a, l1] (vr a :: st) u bb σ Q := r_aload_n (k := 0) (by decide +kernel) rfl
theorem k142_85 : qx sc (D + 1) 142 85 ls [vr 136] (0, 0) bb σ Q ↔ qx sc D 211 0 [vr 136, vn, vn] [] (0, 0) bb σ (q_kn sc (D + 1) 142 88 ls [] (0, 0) Q) := r_callv (idx := 527) (n := 0) (m := 3) (by decide +kernel) rfl (Nat.le_of_ble_eq_true rfl) ⟨Nat.le_of_ble_eq_true rfl, Nat.le_of_ble_eq_true rfl, rfl⟩ rfl
theorem k142_88 : qx sc D 142 88 ls [vi x] (0, 0) bb σ Q ↔ Q (.inl (some (vi x))) bb σ := r_ret (by decide +kernel)
theorem k142_89 : qx sc D 142 89 [vr a, l1] st u bb σ Q ↔ qx sc D 142 90 [vr a, l1] (vr a :: st) u bb σ Q := r_aload_n (k := 0) (by decide +kernel) rfl
theorem k142_90 : qx sc (D + 1) 142 90 ls [vr 136] (0, 0) bb σ Q ↔ qx sc D 132 0 [vr 136, vn, vn] [] (0, 0) bb σ (q_kn sc (D + 1) 142 93 ls [] (0, 0) Q) := r_callv (idx := 530) (n := 0) (m := 3) (by decide +kernel) rfl (Nat.le_of_ble_eq_true rfl) ⟨Nat.le_of_ble_eq_true rfl, Nat.le_of_ble_eq_true rfl, rfl⟩ rfl
theorem k142_93 : qx sc D 142 93 ls [vi x] (0, 0) bb σ Q ↔ Q (.inl (some (vi x))) bb σ := r_ret (by decide +kernel)
theorem k142_94 : qx sc D 142 94 [vr a, l1] st u bb σ Q ↔ qx sc D 142 95 [vr a, l1] (vr a :: st) u bb σ Q := r_aload_n (k := 0) (by decide +kernel) rfl
theorem k142_95 : qx sc (D + 1) 142 95 ls [vr 136] (0, 0) bb σ Q ↔ qx sc D 152 0 [vr 136, vn, vn] [] (0, 0) bb σ (q_kn sc (D + 1) 142 98 ls [] (0, 0) Q) := r_callv (idx := 533) (n := 0) (m := 3) (by decide +kernel) rfl (Nat.le_of_ble_eq_true rfl) ⟨Nat.le_of_ble_eq_true rfl, Nat.le_of_ble_eq_true rfl, rfl⟩ rfl
theorem k142_98 : qx sc D 142 98 ls [vi x] (0, 0) bb σ Q ↔ Q (.inl (some (vi x))) bb σ := r_ret (by decide +kernel)
theorem k142_99 : qx sc D 142 99 [vr a, l1] st u bb σ Q ↔ qx sc D 142 100 [vr a, l1] (vr a :: st) u bb σ Q := r_aload_n (k := 0) (by decide +kernel) rfl
theorem k142_100 : qx sc D 142 100 ls (vr 136 :: st) u bb σ Q ↔ qx sc D 142 103 ls (vi (σ 136 13) :: st) u bb σ Q := r_getI (idx := 117) (c := 15) (k := 13) (by decide +kernel)
theorem k142_103 : qx sc D 142 103 ls [vi x] (0, 0) bb σ Q ↔ Q (.inl (some (vi x))) bb σ := r_ret (by decide +kernel)
theorem k142_104 : qx sc D 142 104 [vr a, l1] st u bb σ Q ↔ qx sc D 142 105 [vr a, l1] (vr a :: st) u bb σ Q := r_aload_n (k := 0) (by decide +kernel) rfl
theorem k142_105 : qx sc D 142 105 ls (vr 136 :: st) u bb σ Q ↔ qx sc D 142 108 ls (vi (σ 136 13) :: st) u bb σ Q := r_getI (idx := 117) (c := 15) (k := 13) (by decide +kernel)
theorem k142_108 : qx sc D 142 108 [l0, vi x] st u bb σ Q ↔ qx sc D 142 109 [l0, vi x] (vi x :: st) u bb σ Q := r_iload_n (k := 1) (by decide +kernel) rfl
theorem k142_109 : qx sc D 142 109 ls st u bb σ Q ↔ qx sc D 142 111 ls (vi 8 :: st) u bb σ Q := r_bipush (by decide +kernel)
theorem k142_111 : qx sc D 142 111 ls (vi b' :: vi a' :: st) u bb σ Q ↔ q_R (a' - b') ∧ qx sc D 142 112 ls (vi (a' - b') :: st) u bb σ Q := r_isub (by decide +kernel)
theorem k142_112 : qx sc D 142 112 ls (vi b' :: vi a' :: st) u bb σ Q ↔ qx sc D 142 113 ls (vi (q_I a' >>> (q_I b' &&& 31)).toInt :: st) u bb σ Q := r_ishr (by decide +kernel)
theorem k142_113 : qx sc D 142 113 ls st u bb σ Q ↔ qx sc D 142 114 ls (vi 1 :: st) u bb σ Q := r_iconst (by decide +kernel)
theorem k142_114 : qx sc D 142 114 ls (vi b' :: vi a' :: st) u bb σ Q ↔ qx sc D 142 115 ls (vi (q_I a' &&& q_I b').toInt :: st) u bb σ Q := r_iand (by decide +kernel)
theorem k142_115 : qx sc D 142 115 ls (vi x :: st) u bb σ Q ↔ (x = 0 → qx sc D 142 118 ls st u bb σ Q) ∧ (¬ (x = 0) → qx sc D 142 122 ls st u bb σ Q) := r_if_ne (off := 7) (t := 122) (by decide +kernel)
theorem k142_118 : qx sc D 142 118 ls st u bb σ Q ↔ qx sc D 142 119 ls (vi (-1) :: st) u bb σ Q := r_iconst (by decide +kernel)
theorem k142_119 : qx sc D 142 119 ls st u bb σ Q ↔ qx sc D 142 131 ls st u bb σ Q := r_goto (off := 12) (by decide +kernel)
theorem k142_122 : qx sc D 142 122 [vr a, l1] st u bb σ Q ↔ qx sc D 142 123 [vr a, l1] (vr a :: st) u bb σ Q := r_aload_n (k := 0) (by decide +kernel) rfl
theorem k142_123 : qx sc D 142 123 ls (vr 136 :: st) u bb σ Q ↔ qx sc D 142 126 ls (vr 141 :: st) u bb σ Q := r_getR (idx := 128) (c := 15) (k := 12) (by decide +kernel)
theorem k142_126 : qx sc D 142 126 [l0, vi x] st u bb σ Q ↔ qx sc D 142 127 [l0, vi x] (vi x :: st) u bb σ Q := r_iload_n (k := 1) (by decide +kernel) rfl
theorem k142_127 : qx sc D 142 127 ls st u bb σ Q ↔ qx sc D 142 129 ls (vi 8 :: st) u bb σ Q := r_bipush (by decide +kernel)
theorem k142_129 : qx sc D 142 129 ls (vi b' :: vi a' :: st) u bb σ Q ↔ q_R (a' - b') ∧ qx sc D 142 130 ls (vi (a' - b') :: st) u bb σ Q := r_isub (by decide +kernel)
theorem k142_130 : qx sc D 142 130 ls (vi i :: vr a :: st) u bb σ Q ↔ (q_ty a = 0 ∧ 0 ≤ i ∧ i < q_ln a) ∧ qx sc D 142 131 ls (vi (σ a i) :: st) u bb σ Q := r_iald (by decide +kernel)
theorem k142_131 : qx sc D 142 131 ls [vi x] (0, 0) bb σ Q ↔ Q (.inl (some (vi x))) bb σ := r_ret (by decide +kernel)
theorem k142_132 : qx sc D 142 132 ls st u bb σ Q ↔ qx sc D 142 133 ls (vi (-1) :: st) u bb σ Q := r_iconst (by decide +kernel)
theorem k142_133 : qx sc D 142 133 ls [vi x] (0, 0) bb σ Q ↔ Q (.inl (some (vi x))) bb σ := r_ret (by decide +kernel)
-- 143: RowProverModel.does(I)I
theorem k143_0 : qx sc D 143 0 [vr a, l1, l2, l3] st u bb σ Q ↔ qx sc D 143 1 [vr a, l1, l2, l3] (vr a :: st) u bb σ Q := r_aload_n (k := 0) (by decide +kernel) rfl
theorem k143_1 : qx sc D 143 1 ls (vr 136 :: st) u bb σ Q ↔ qx sc D 143 4 ls (vr 169 :: st) u bb σ Q := r_getR (idx := 24) (c := 15) (k := 46) (by decide +kernel)
theorem k143_4 : qx sc D 143 4 [l0, vi x, l2, l3] st u bb σ Q ↔ qx sc D 143 5 [l0, vi x, l2, l3] (vi x :: st) u bb σ Q := r_iload_n (k := 1) (by decide +kernel) rfl
theorem k143_5 : qx sc D 143 5 ls (vi i :: vr a :: st) u bb σ Q ↔ (q_ty a = 0 ∧ 0 ≤ i ∧ i < q_ln a) ∧ qx sc D 143 6 ls (vi (σ a i) :: st) u bb σ Q := r_iald (by decide +kernel)
theorem k143_6 : qx sc D 143 6 [l0, l1, l2, l3] (vi x :: st) u bb σ Q ↔ qx sc D 143 7 [l0, l1, vi x, l3] st u bb σ Q := r_istore_n (k := 2) (by decide +kernel) (Nat.le_of_ble_eq_true rfl)
theorem k143_7 : qx sc D 143 7 [vr a, l1, l2, l3] st u bb σ Q ↔ qx sc D 143 8 [vr a, l1, l2, l3] (vr a :: st) u bb σ Q := r_aload_n (k := 0) (by decide +kernel) rfl
theorem k143_8 : qx sc D 143 8 ls (vr 136 :: st) u bb σ Q ↔ qx sc D 143 11 ls (vr 168 :: st) u bb σ Q := r_getR (idx := 18) (c := 15) (k := 45) (by decide +kernel)
theorem k143_11 : qx sc D 143 11 [l0, vi x, l2, l3] st u bb σ Q ↔ qx sc D 143 12 [l0, vi x, l2, l3] (vi x :: st) u bb σ Q := r_iload_n (k := 1) (by decide +kernel) rfl
theorem k143_12 : qx sc D 143 12 ls (vi i :: vr a :: st) u bb σ Q ↔ (q_ty a = 0 ∧ 0 ≤ i ∧ i < q_ln a) ∧ qx sc D 143 13 ls (vi (σ a i) :: st) u bb σ Q := r_iald (by decide +kernel)
theorem k143_13 : qx sc D 143 13 ls (vi x :: st) u bb σ Q ↔ qx sc D 143 (if x < 0 ∨ 8 < x then 252 else [64, 93, 127, 155, 179, 207, 222, 242, 244].getD (x - 0).toNat 0) ls st u bb σ Q := r_tsw (d := 239) (lo := 0) (hi := 8) (offs := #[51, 80, 114, 142, 166, 194, 209, 229, 231]) (dt := 252) (tg := [64, 93, 127, 155, 179, 207, 222, 242, 244]) (by decide +kernel)
theorem k143_64 : qx sc D 143 64 [vr a, l1, l2, l3] st u bb σ Q ↔ qx sc D 143 65 [vr a, l1, l2, l3] (vr a :: st) u bb σ Q := r_aload_n (k := 0) (by decide +kernel) rfl
theorem k143_65 : qx sc D 143 65 ls (vr 136 :: st) u bb σ Q ↔ qx sc D 143 68 ls (vi (σ 136 72) :: st) u bb σ Q := r_getI (idx := 474) (c := 15) (k := 72) (by decide +kernel)
theorem k143_68 : qx sc D 143 68 ls st u bb σ Q ↔ qx sc D 143 71 ls (vi 300 :: st) u bb σ Q := r_sipush (by decide +kernel)
theorem k143_71 : qx sc D 143 71 ls (vi b' :: vi a' :: st) u bb σ Q ↔ (a' = b' → qx sc D 143 74 ls st u bb σ Q) ∧ (¬ (a' = b') → qx sc D 143 80 ls st u bb σ Q) := r_ic_ne (off := 9) (t := 80) (by decide +kernel)
theorem k143_74 : qx sc D 143 74 [vr a, l1, l2, l3] st u bb σ Q ↔ qx sc D 143 75 [vr a, l1, l2, l3] (vr a :: st) u bb σ Q := r_aload_n (k := 0) (by decide +kernel) rfl
theorem k143_75 : qx sc D 143 75 ls st u bb σ Q ↔ qx sc D 143 76 ls (vi 2 :: st) u bb σ Q := r_iconst (by decide +kernel)
theorem k143_76 : qx sc (D + 1) 143 76 ls [vi x0, vr 136] (0, 0) bb σ Q ↔ qx sc D 146 0 [vr 136, vi x0] [] (0, 0) bb σ (q_kn sc (D + 1) 143 79 ls [] (0, 0) Q) := r_callv (idx := 480) (n := 1) (m := 2) (by decide +kernel) rfl (Nat.le_of_ble_eq_true rfl) ⟨Nat.le_of_ble_eq_true rfl, Nat.le_of_ble_eq_true rfl, rfl⟩ rfl
theorem k143_79 : qx sc D 143 79 ls [vi x] (0, 0) bb σ Q ↔ Q (.inl (some (vi x))) bb σ := r_ret (by decide +kernel)
theorem k143_80 : qx sc D 143 80 [vr a, l1, l2, l3] st u bb σ Q ↔ qx sc D 143 81 [vr a, l1, l2, l3] (vr a :: st) u bb σ Q := r_aload_n (k := 0) (by decide +kernel) rfl
theorem k143_81 : qx sc D 143 81 ls (vr a :: st) u bb σ Q ↔ qx sc D 143 82 ls (vr a :: vr a :: st) u bb σ Q := r_dupA (by decide +kernel)
theorem k143_82 : qx sc D 143 82 ls (vr 136 :: st) u bb σ Q ↔ qx sc D 143 85 ls (vi (σ 136 72) :: st) u bb σ Q := r_getI (idx := 474) (c := 15) (k := 72) (by decide +kernel)
theorem k143_85 : qx sc D 143 85 ls st u bb σ Q ↔ qx sc D 143 86 ls (vi 1 :: st) u bb σ Q := r_iconst (by decide +kernel)
theorem k143_86 : qx sc D 143 86 ls (vi b' :: vi a' :: st) u bb σ Q ↔ q_R (a' + b') ∧ qx sc D 143 87 ls (vi (a' + b') :: st) u bb σ Q := r_iadd (by decide +kernel)
theorem k143_87 : qx sc D 143 87 ls (vi x :: vr 136 :: st) u bb σ Q ↔ qx sc D 143 90 ls st u bb (q_up σ 136 72 x) Q := r_putI (idx := 474) (c := 15) (k := 72) (by decide +kernel)
theorem k143_90 : qx sc D 143 90 ls st u bb σ Q ↔ qx sc D 143 259 ls st u bb σ Q := r_goto (off := 169) (by decide +kernel)
theorem k143_93 : qx sc D 143 93 [vr a, l1, l2, l3] st u bb σ Q ↔ qx sc D 143 94 [vr a, l1, l2, l3] (vr a :: st) u bb σ Q := r_aload_n (k := 0) (by decide +kernel) rfl
theorem k143_94 : qx sc D 143 94 [l0, l1, vi x, l3] st u bb σ Q ↔ qx sc D 143 95 [l0, l1, vi x, l3] (vi x :: st) u bb σ Q := r_iload_n (k := 2) (by decide +kernel) rfl
theorem k143_95 : qx sc D 143 95 ls st u bb σ Q ↔ qx sc D 143 96 ls (vi 0 :: st) u bb σ Q := r_iconst (by decide +kernel)
theorem k143_96 : qx sc (D + 1) 143 96 ls [vi x1, vi x0, vr 136] (0, 0) bb σ Q ↔ qx sc D 199 0 [vr 136, vi x0, vi x1, vn] [] (0, 0) bb σ (q_kn sc (D + 1) 143 99 ls [] (0, 0) Q) := r_callv (idx := 486) (n := 2) (m := 4) (by decide +kernel) rfl (Nat.le_of_ble_eq_true rfl) ⟨Nat.le_of_ble_eq_true rfl, Nat.le_of_ble_eq_true rfl, rfl⟩ rfl
theorem k143_99 : qx sc D 143 99 ls (vi x :: st) u bb σ Q ↔ (x = 0 → qx sc D 143 102 ls st u bb σ Q) ∧ (¬ (x = 0) → qx sc D 143 111 ls st u bb σ Q) := r_if_ne (off := 12) (t := 111) (by decide +kernel)
theorem k143_102 : qx sc D 143 102 [vr a, l1, l2, l3] st u bb σ Q ↔ qx sc D 143 103 [vr a, l1, l2, l3] (vr a :: st) u bb σ Q := r_aload_n (k := 0) (by decide +kernel) rfl
theorem k143_103 : qx sc D 143 103 [l0, l1, vi x, l3] st u bb σ Q ↔ qx sc D 143 104 [l0, l1, vi x, l3] (vi x :: st) u bb σ Q := r_iload_n (k := 2) (by decide +kernel) rfl
theorem k143_104 : qx sc D 143 104 ls st u bb σ Q ↔ qx sc D 143 105 ls (vi 1 :: st) u bb σ Q := r_iconst (by decide +kernel)
theorem k143_105 : qx sc (D + 1) 143 105 ls [vi x1, vi x0, vr 136] (0, 0) bb σ Q ↔ qx sc D 199 0 [vr 136, vi x0, vi x1, vn] [] (0, 0) bb σ (q_kn sc (D + 1) 143 108 ls [] (0, 0) Q) := r_callv (idx := 486) (n := 2) (m := 4) (by decide +kernel) rfl (Nat.le_of_ble_eq_true rfl) ⟨Nat.le_of_ble_eq_true rfl, Nat.le_of_ble_eq_true rfl, rfl⟩ rfl
theorem k143_108 : qx sc D 143 108 ls (vi x :: st) u bb σ Q ↔ (x = 0 → qx sc D 143 259 ls st u bb σ Q) ∧ (¬ (x = 0) → qx sc D 143 111 ls st u bb σ Q) := r_if_eq (off := 151) (t := 259) (by decide +kernel)
theorem k143_111 : qx sc D 143 111 [vr a, l1, l2, l3] st u bb σ Q ↔ qx sc D 143 112 [vr a, l1, l2, l3] (vr a :: st) u bb σ Q := r_aload_n (k := 0) (by decide +kernel) rfl
theorem k143_112 : qx sc D 143 112 [vr a, l1, l2, l3] st u bb σ Q ↔ qx sc D 143 113 [vr a, l1, l2, l3] (vr a :: st) u bb σ Q := r_aload_n (k := 0) (by decide +kernel) rfl
theorem k143_113 : qx sc D 143 113 ls (vr 136 :: st) u bb σ Q ↔ qx sc D 143 116 ls (vr 155 :: st) u bb σ Q := r_getR (idx := 196) (c := 15) (k := 32) (by decide +kernel)
theorem k143_116 : qx sc D 143 116 [l0, l1, vi x, l3] st u bb σ Q ↔ qx sc D 143 117 [l0, l1, vi x, l3] (vi x :: st) u bb σ Q := r_iload_n (k := 2) (by decide +kernel) rfl
theorem k143_117 : qx sc D 143 117 ls (vi i :: vr a :: st) u bb σ Q ↔ (q_ty a = 0 ∧ 0 ≤ i ∧ i < q_ln a) ∧ qx sc D 143 118 ls (vi (σ a i) :: st) u bb σ Q := r_iald (by decide +kernel)
theorem k143_118 : qx sc D 143 118 ls (vi x :: vr 136 :: st) u bb σ Q ↔ qx sc D 143 121 ls st u bb (q_up σ 136 71 x) Q := r_putI (idx := 471) (c := 15) (k := 71) (by decide +kernel)
theorem k143_121 : qx sc D 143 121 [vr a, l1, l2, l3] st u bb σ Q ↔ qx sc D 143 122 [vr a, l1, l2, l3] (vr a :: st) u bb σ Q := r_aload_n (k := 0) (by decide +kernel) rfl
theorem k143_122 : qx sc D 143 122 ls st u bb σ Q ↔ qx sc D 143 123 ls (vi 1 :: st) u bb σ Q := r_iconst (by decide +kernel)
theorem k143_123 : qx sc (D + 1) 143 123 ls [vi x0, vr 136] (0, 0) bb σ Q ↔ qx sc D 146 0 [vr 136, vi x0] [] (0, 0) bb σ (q_kn sc (D + 1) 143 126 ls [] (0, 0) Q) := r_callv (idx := 480) (n := 1) (m := 2) (by decide +kernel) rfl (Nat.le_of_ble_eq_true rfl) ⟨Nat.le_of_ble_eq_true rfl, Nat.le_of_ble_eq_true rfl, rfl⟩ rfl
theorem k143_126 : qx sc D 143 126 ls [vi x] (0, 0) bb σ Q ↔ Q (.inl (some (vi x))) bb σ := r_ret (by decide +kernel)
theorem k143_127 : qx sc D 143 127 [vr a, l1, l2, l3] st u bb σ Q ↔ qx sc D 143 128 [vr a, l1, l2, l3] (vr a :: st) u bb σ Q := r_aload_n (k := 0) (by decide +kernel) rfl
theorem k143_128 : qx sc D 143 128 [l0, l1, vi x, l3] st u bb σ Q ↔ qx sc D 143 129 [l0, l1, vi x, l3] (vi x :: st) u bb σ Q := r_iload_n (k := 2) (by decide +kernel) rfl
theorem k143_129 : qx sc (D + 1) 143 129 ls [vi x0, vr 136] (0, 0) bb σ Q ↔ qx sc D 227 0 [vr 136, vi x0] [] (0, 0) bb σ (q_kn sc (D + 1) 143 132 ls [] (0, 0) Q) := r_callv (idx := 489) (n := 1) (m := 2) (by decide +kernel) rfl (Nat.le_of_ble_eq_true rfl) ⟨Nat.le_of_ble_eq_true rfl, Nat.le_of_ble_eq_true rfl, rfl⟩ rfl
theorem k143_132 : qx sc D 143 132 [l0, l1, l2, l3] (vi x :: st) u bb σ Q ↔ qx sc D 143 133 [l0, l1, l2, vi x] st u bb σ Q := r_istore_n (k := 3) (by decide +kernel) (Nat.le_of_ble_eq_true rfl)
theorem k143_133 : qx sc D 143 133 [vr a, l1, l2, l3] st u bb σ Q ↔ qx sc D 143 134 [vr a, l1, l2, l3] (vr a :: st) u bb σ Q := r_aload_n (k := 0) (by decide +kernel) rfl
theorem k143_134 : qx sc D 143 134 ls (vr 136 :: st) u bb σ Q ↔ qx sc D 143 137 ls (vr 183 :: st) u bb σ Q := r_getR (idx := 341) (c := 15) (k := 65) (by decide +kernel)
theorem k143_137 : qx sc D 143 137 [vr a, l1, l2, l3] st u bb σ Q ↔ qx sc D 143 138 [vr a, l1, l2, l3] (vr a :: st) u bb σ Q := r_aload_n (k := 0) (by decide +kernel) rfl
theorem k143_138 : qx sc D 143 138 ls (vr 136 :: st) u bb σ Q ↔ qx sc D 143 141 ls (vr 147 :: st) u bb σ Q := r_getR (idx := 33) (c := 15) (k := 24) (by decide +kernel)
theorem k143_141 : qx sc D 143 141 [l0, l1, vi x, l3] st u bb σ Q ↔ qx sc D 143 142 [l0, l1, vi x, l3] (vi x :: st) u bb σ Q := r_iload_n (k := 2) (by decide +kernel) rfl
theorem k143_142 : qx sc D 143 142 ls (vi i :: vr a :: st) u bb σ Q ↔ (q_ty a = 0 ∧ 0 ≤ i ∧ i < q_ln a) ∧ qx sc D 143 143 ls (vi (σ a i) :: st) u bb σ Q := r_iald (by decide +kernel)
theorem k143_143 : qx sc D 143 143 [l0, l1, l2, vi x] st u bb σ Q ↔ qx sc D 143 144 [l0, l1, l2, vi x] (vi x :: st) u bb σ Q := r_iload_n (k := 3) (by decide +kernel) rfl
theorem k143_144 : qx sc D 143 144 ls (vi x :: vi i :: vr a :: st) u bb σ Q ↔ (q_ty a = 0 ∧ 0 ≤ i ∧ i < q_ln a) ∧ qx sc D 143 145 ls st u bb (q_up σ a i x) Q := r_iast (by decide +kernel)
theorem k143_145 : qx sc D 143 145 [vr a, l1, l2, l3] st u bb σ Q ↔ qx sc D 143 146 [vr a, l1, l2, l3] (vr a :: st) u bb σ Q := r_aload_n (k := 0) (by decide +kernel) rfl
theorem k143_146 : qx sc D 143 146 ls (vr 136 :: st) u bb σ Q ↔ qx sc D 143 149 ls (vr 185 :: st) u bb σ Q := r_getR (idx := 346) (c := 15) (k := 67) (by decide +kernel)
theorem k143_149 : qx sc D 143 149 [l0, l1, vi x, l3] st u bb σ Q ↔ qx sc D 143 150 [l0, l1, vi x, l3] (vi x :: st) u bb σ Q := r_iload_n (k := 2) (by decide +kernel) rfl
theorem k143_150 : qx sc D 143 150 [l0, l1, l2, vi x] st u bb σ Q ↔ qx sc D 143 151 [l0, l1, l2, vi x] (vi x :: st) u bb σ Q := r_iload_n (k := 3) (by decide +kernel) rfl
theorem k143_151 : qx sc D 143 151 ls (vi x :: vi i :: vr a :: st) u bb σ Q ↔ (q_ty a = 0 ∧ 0 ≤ i ∧ i < q_ln a) ∧ qx sc D 143 152 ls st u bb (q_up σ a i x) Q := r_iast (by decide +kernel)
theorem k143_152 : qx sc D 143 152 ls st u bb σ Q ↔ qx sc D 143 259 ls st u bb σ Q := r_goto (off := 107) (by decide +kernel)
theorem k143_155 : qx sc D 143 155 [vr a, l1, l2, l3] st u bb σ Q ↔ qx sc D 143 156 [vr a, l1, l2, l3] (vr a :: st) u bb σ Q := r_aload_n (k := 0) (by decide +kernel) rfl
theorem k143_156 : qx sc D 143 156 ls (vr 136 :: st) u bb σ Q ↔ qx sc D 143 159 ls (vr 184 :: st) u bb σ Q := r_getR (idx := 344) (c := 15) (k := 66) (by decide +kernel)
theorem k143_159 : qx sc D 143 159 [vr a, l1, l2, l3] st u bb σ Q ↔ qx sc D 143 160 [vr a, l1, l2, l3] (vr a :: st) u bb σ Q := r_aload_n (k := 0) (by decide +kernel) rfl
theorem k143_160 : qx sc D 143 160 [l0, l1, vi x, l3] st u bb σ Q ↔ qx sc D 143 161 [l0, l1, vi x, l3] (vi x :: st) u bb σ Q := r_iload_n (k := 2) (by decide +kernel) rfl
theorem k143_161 : qx sc (D + 1) 143 161 ls [vi x0, vr 136, vr a20] (0, 0) bb σ Q ↔ qx sc D 202 0 [vr 136, vi x0] [] (0, 0) bb σ (q_kn sc (D + 1) 143 164 ls [vr a20] (0, 0) Q) := r_callv (idx := 465) (n := 1) (m := 2) (by decide +kernel) rfl (Nat.le_of_ble_eq_true rfl) ⟨Nat.le_of_ble_eq_true rfl, Nat.le_of_ble_eq_true rfl, rfl⟩ rfl
theorem k143_164 : qx sc D 143 164 [vr a, l1, l2, l3] st u bb σ Q ↔ qx sc D 143 165 [vr a, l1, l2, l3] (vr a :: st) u bb σ Q := r_aload_n (k := 0) (by decide +kernel) rfl
theorem k143_165 : qx sc D 143 165 ls (vr 136 :: st) u bb σ Q ↔ qx sc D 143 168 ls (vr 183 :: st) u bb σ Q := r_getR (idx := 341) (c := 15) (k := 65) (by decide +kernel)
theorem k143_168 : qx sc D 143 168 [vr a, l1, l2, l3] st u bb σ Q ↔ qx sc D 143 169 [vr a, l1, l2, l3] (vr a :: st) u bb σ Q := r_aload_n (k := 0) (by decide +kernel) rfl
theorem k143_169 : qx sc D 143 169 ls (vr 136 :: st) u bb σ Q ↔ qx sc D 143 172 ls (vr 170 :: st) u bb σ Q := r_getR (idx := 27) (c := 15) (k := 47) (by decide +kernel)
theorem k143_172 : qx sc D 143 172 [l0, vi x, l2, l3] st u bb σ Q ↔ qx sc D 143 173 [l0, vi x, l2, l3] (vi x :: st) u bb σ Q := r_iload_n (k := 1) (by decide +kernel) rfl
theorem k143_173 : qx sc D 143 173 ls (vi i :: vr a :: st) u bb σ Q ↔ (q_ty a = 0 ∧ 0 ≤ i ∧ i < q_ln a) ∧ qx sc D 143 174 ls (vi (σ a i) :: st) u bb σ Q := r_iald (by decide +kernel)
theorem k143_174 : qx sc D 143 174 ls (vi i :: vr a :: st) u bb σ Q ↔ (q_ty a = 0 ∧ 0 ≤ i ∧ i < q_ln a) ∧ qx sc D 143 175 ls (vi (σ a i) :: st) u bb σ Q := r_iald (by decide +kernel)
theorem k143_175 : qx sc D 143 175 ls (vi x :: vi i :: vr a :: st) u bb σ Q ↔ (q_ty a = 0 ∧ 0 ≤ i ∧ i < q_ln a) ∧ qx sc D 143 176 ls st u bb (q_up σ a i x) Q := r_iast (by decide +kernel)
theorem k143_176 : qx sc D 143 176 ls st u bb σ Q ↔ qx sc D 143 259 ls st u bb σ Q := r_goto (off := 83) (by decide +kernel)
theorem k143_179 : qx sc D 143 179 [vr a, l1, l2, l3] st u bb σ Q ↔ qx sc D 143 180 [vr a, l1, l2, l3] (vr a :: st) u bb σ Q := r_aload_n (k := 0) (by decide +kernel) rfl
theorem k143_180 : qx sc D 143 180 ls (vr 136 :: st) u bb σ Q ↔ qx sc D 143 183 ls (vr 186 :: st) u bb σ Q := r_getR (idx := 349) (c := 15) (k := 68) (by decide +kernel)
theorem k143_183 : qx sc D 143 183 [vr a, l1, l2, l3] st u bb σ Q ↔ qx sc D 143 184 [vr a, l1, l2, l3] (vr a :: st) u bb σ Q := r_aload_n (k := 0) (by decide +kernel) rfl
theorem k143_184 : qx sc D 143 184 ls (vr 136 :: st) u bb σ Q ↔ qx sc D 143 187 ls (vi (σ 136 73) :: st) u bb σ Q := r_getI (idx := 477) (c := 15) (k := 73) (by decide +kernel)
theorem k143_187 : qx sc D 143 187 [vr a, l1, l2, l3] st u bb σ Q ↔ qx sc D 143 188 [vr a, l1, l2, l3] (vr a :: st) u bb σ Q := r_aload_n (k := 0) (by decide +kernel) rfl
theorem k143_188 : qx sc D 143 188 ls (vr 136 :: st) u bb σ Q ↔ qx sc D 143 191 ls (vr 183 :: st) u bb σ Q := r_getR (idx := 341) (c := 15) (k := 65) (by decide +kernel)
theorem k143_191 : qx sc D 143 191 [l0, l1, vi x, l3] st u bb σ Q ↔ qx sc D 143 192 [l0, l1, vi x, l3] (vi x :: st) u bb σ Q := r_iload_n (k := 2) (by decide +kernel) rfl
theorem k143_192 : qx sc D 143 192 ls (vi i :: vr a :: st) u bb σ Q ↔ (q_ty a = 0 ∧ 0 ≤ i ∧ i < q_ln a) ∧ qx sc D 143 193 ls (vi (σ a i) :: st) u bb σ Q := r_iald (by decide +kernel)
theorem k143_193 : qx sc D 143 193 ls (vi x :: vi i :: vr a :: st) u bb σ Q ↔ (q_ty a = 0 ∧ 0 ≤ i ∧ i < q_ln a) ∧ qx sc D 143 194 ls st u bb (q_up σ a i x) Q := r_iast (by decide +kernel)
theorem k143_194 : qx sc D 143 194 [vr a, l1, l2, l3] st u bb σ Q ↔ qx sc D 143 195 [vr a, l1, l2, l3] (vr a :: st) u bb σ Q := r_aload_n (k := 0) (by decide +kernel) rfl
theorem k143_195 : qx sc D 143 195 ls (vr a :: st) u bb σ Q ↔ qx sc D 143 196 ls (vr a :: vr a :: st) u bb σ Q := r_dupA (by decide +kernel)
theorem k143_196 : qx sc D 143 196 ls (vr 136 :: st) u bb σ Q ↔ qx sc D 143 199 ls (vi (σ 136 73) :: st) u bb σ Q := r_getI (idx := 477) (c := 15) (k := 73) (by decide +kernel)
theorem k143_199 : qx sc D 143 199 ls st u bb σ Q ↔ qx sc D 143 200 ls (vi 1 :: st) u bb σ Q := r_iconst (by decide +kernel)
theorem k143_200 : qx sc D 143 200 ls (vi b' :: vi a' :: st) u bb σ Q ↔ q_R (a' + b') ∧ qx sc D 143 201 ls (vi (a' + b') :: st) u bb σ Q := r_iadd (by decide +kernel)
theorem k143_201 : qx sc D 143 201 ls (vi x :: vr 136 :: st) u bb σ Q ↔ qx sc D 143 204 ls st u bb (q_up σ 136 73 x) Q := r_putI (idx := 477) (c := 15) (k := 73) (by decide +kernel)
theorem k143_204 : qx sc D 143 204 ls st u bb σ Q ↔ qx sc D 143 259 ls st u bb σ Q := r_goto (off := 55) (by decide +kernel)
theorem k143_207 : qx sc D 143 207 [vr a, l1, l2, l3] st u bb σ Q ↔ qx sc D 143 208 [vr a, l1, l2, l3] (vr a :: st) u bb σ Q := r_aload_n (k := 0) (by decide +kernel) rfl
theorem k143_208 : qx sc D 143 208 [l0, l1, vi x, l3] st u bb σ Q ↔ qx sc D 143 209 [l0, l1, vi x, l3] (vi x :: st) u bb σ Q := r_iload_n (k := 2) (by decide +kernel) rfl
theorem k143_209 : qx sc (D + 1) 143 209 ls [vi x0, vr 136] (0, 0) bb σ Q ↔ qx sc D 156 0 [vr 136, vi x0, vn, vn] [] (0, 0) bb σ (q_kn sc (D + 1) 143 212 ls [] (0, 0) Q) := r_callv (idx := 492) (n := 1) (m := 4) (by decide +kernel) rfl (Nat.le_of_ble_eq_true rfl) ⟨Nat.le_of_ble_eq_true rfl, Nat.le_of_ble_eq_true rfl, rfl⟩ rfl
theorem k143_212 : qx sc D 143 212 ls (vi x :: st) u bb σ Q ↔ (x = 0 → qx sc D 143 215 ls st u bb σ Q) ∧ (¬ (x = 0) → qx sc D 143 259 ls st u bb σ Q) := r_if_ne (off := 47) (t := 259) (by decide +kernel)
theorem k143_215 : qx sc D 143 215 [vr a, l1, l2, l3] st u bb σ Q ↔ qx sc D 143 216 [vr a, l1, l2, l3] (vr a :: st) u bb σ Q := r_aload_n (k := 0) (by decide +kernel) rfl
theorem k143_216 : qx sc D 143 216 ls (vr 136 :: st) u bb σ Q ↔ qx sc D 143 219 ls (vr 170 :: st) u bb σ Q := r_getR (idx := 27) (c := 15) (k := 47) (by decide +kernel)
theorem k143_219 : qx sc D 143 219 [l0, vi x, l2, l3] st u bb σ Q ↔ qx sc D 143 220 [l0, vi x, l2, l3] (vi x :: st) u bb σ Q := r_iload_n (k := 1) (by decide +kernel) rfl
theorem k143_220 : qx sc D 143 220 ls (vi i :: vr a :: st) u bb σ Q ↔ (q_ty a = 0 ∧ 0 ≤ i ∧ i < q_ln a) ∧ qx sc D 143 221 ls (vi (σ a i) :: st) u bb σ Q := r_iald (by decide +kernel)
theorem k143_221 : qx sc D 143 221 ls [vi x] (0, 0) bb σ Q ↔ Q (.inl (some (vi x))) bb σ := r_ret (by decide +kernel)
theorem k143_222 : qx sc D 143 222 [vr a, l1, l2, l3] st u bb σ Q ↔ qx sc D 143 223 [vr a, l1, l2, l3] (vr a :: st) u bb σ Q := r_aload_n (k := 0) (by decide +kernel) rfl
theorem k143_223 : qx sc D 143 223 ls (vr 136 :: st) u bb σ Q ↔ qx sc D 143 226 ls (vr 185 :: st) u bb σ Q := r_getR (idx := 346) (c := 15) (k := 67) (by decide +kernel)
theorem k143_226 : qx sc D 143 226 [l0, l1, vi x, l3] st u bb σ Q ↔ qx sc D 143 227 [l0, l1, vi x, l3] (vi x :: st) u bb σ Q := r_iload_n (k := 2) (by decide +kernel) rfl
theorem k143_227 : qx sc D 143 227 [vr a, l1, l2, l3] st u bb σ Q ↔ qx sc D 143 228 [vr a, l1, l2, l3] (vr a :: st) u bb σ Q := r_aload_n (k := 0) (by decide +kernel) rfl
theorem k143_228 : qx sc D 143 228 ls (vr 136 :: st) u bb σ Q ↔ qx sc D 143 231 ls (vr 183 :: st) u bb σ Q := r_getR (idx := 341) (c := 15) (k := 65) (by decide +kernel)
theorem k143_231 : qx sc D 143 231 [vr a, l1, l2, l3] st u bb σ Q ↔ qx sc D 143 232 [vr a, l1, l2, l3] (vr a :: st) u bb σ Q := r_aload_n (k := 0) (by decide +kernel) rfl
theorem k143_232 : qx sc D 143 232 ls (vr 136 :: st) u bb σ Q ↔ qx sc D 143 235 ls (vr 147 :: st) u bb σ Q := r_getR (idx := 33) (c := 15) (k := 24) (by decide +kernel)
theorem k143_235 : qx sc D 143 235 [l0, l1, vi x, l3] st u bb σ Q ↔ qx sc D 143 236 [l0, l1, vi x, l3] (vi x :: st) u bb σ Q := r_iload_n (k := 2) (by decide +kernel) rfl
theorem k143_236 : qx sc D 143 236 ls (vi i :: vr a :: st) u bb σ Q ↔ (q_ty a = 0 ∧ 0 ≤ i ∧ i < q_ln a) ∧ qx sc D 143 237 ls (vi (σ a i) :: st) u bb σ Q := r_iald (by decide +kernel)
theorem k143_237 : qx sc D 143 237 ls (vi i :: vr a :: st) u bb σ Q ↔ (q_ty a = 0 ∧ 0 ≤ i ∧ i < q_ln a) ∧ qx sc D 143 238 ls (vi (σ a i) :: st) u bb σ Q := r_iald (by decide +kernel)
theorem k143_238 : qx sc D 143 238 ls (vi x :: vi i :: vr a :: st) u bb σ Q ↔ (q_ty a = 0 ∧ 0 ≤ i ∧ i < q_ln a) ∧ qx sc D 143 239 ls st u bb (q_up σ a i x) Q := r_iast (by decide +kernel)
theorem k143_239 : qx sc D 143 239 ls st u bb σ Q ↔ qx sc D 143 259 ls st u bb σ Q := r_goto (off := 20) (by decide +kernel)
theorem k143_242 : qx sc D 143 242 [l0, l1, vi x, l3] st u bb σ Q ↔ qx sc D 143 243 [l0, l1, vi x, l3] (vi x :: st) u bb σ Q := r_iload_n (k := 2) (by decide +kernel) rfl
theorem k143_243 : qx sc D 143 243 ls [vi x] (0, 0) bb σ Q ↔ Q (.inl (some (vi x))) bb σ := r_ret (by decide +kernel)
theorem k143_244 : qx sc D 143 244 [vr a, l1, l2, l3] st u bb σ Q ↔ qx sc D 143 245 [vr a, l1, l2, l3] (vr a :: st) u bb σ Q := r_aload_n (k := 0) (by decide +kernel) rfl
theorem k143_245 : qx sc D 143 245 [l0, l1, vi x, l3] st u bb σ Q ↔ qx sc D 143 246 [l0, l1, vi x, l3] (vi x :: st) u bb σ Q := r_iload_n (k := 2) (by decide +kernel) rfl
theorem k143_246 : qx sc (D + 1) 143 246 ls [vi x0, vr 136] (0, 0) bb σ Q ↔ qx sc D 147 0 [vr 136, vi x0, vn] [] (0, 0) bb σ (q_kn sc (D + 1) 143 249 ls [] (0, 0) Q) := r_callv (idx := 495) (n := 1) (m := 3) (by decide +kernel) rfl (Nat.le_of_ble_eq_true rfl) ⟨Nat.le_of_ble_eq_true rfl, Nat.le_of_ble_eq_true rfl, rfl⟩ rfl
theorem k143_249 : qx sc D 143 249 ls st u bb σ Q ↔ qx sc D 143 259 ls st u bb σ Q := r_goto (off := 10) (by decide +kernel)
theorem k143_252 : qx sc D 143 252 [vr a, l1, l2, l3] st u bb σ Q ↔ qx sc D 143 253 [vr a, l1, l2, l3] (vr a :: st) u bb σ Q := r_aload_n (k := 0) (by decide +kernel) rfl
theorem k143_253 : qx sc D 143 253 ls (vr 136 :: st) u bb σ Q ↔ qx sc D 143 256 ls (vr 187 :: st) u bb σ Q := r_getR (idx := 352) (c := 15) (k := 69) (by decide +kernel)
theorem k143_256 : qx sc D 143 256 [l0, l1, vi x, l3] st u bb σ Q ↔ qx sc D 143 257 [l0, l1, vi x, l3] (vi x :: st) u bb σ Q := r_iload_n (k := 2) (by decide +kernel) rfl
theorem k143_257 : qx sc D 143 257 ls st u bb σ Q ↔ qx sc D 143 258 ls (vi 0 :: st) u bb σ Q := r_iconst (by decide +kernel)
theorem k143_258 : qx sc D 143 258 ls (vi x :: vi i :: vr a :: st) u bb σ Q ↔ (((q_ty a = 1 ∧ -128 ≤ x ∧ x ≤ 127) ∨ (q_ty a = 2 ∧ (x = 0 ∨ x = 1))) ∧ 0 ≤ i ∧ i < q_ln a) ∧ qx sc D 143 259 ls st u bb (q_up σ a i x) Q := r_bast (by decide +kernel)
theorem k143_259 : qx sc D 143 259 [l0, vi x, l2, l3] st u bb σ Q ↔ qx sc D 143 260 [l0, vi x, l2, l3] (vi x :: st) u bb σ Q := r_iload_n (k := 1) (by decide +kernel) rfl
theorem k143_260 : qx sc D 143 260 ls st u bb σ Q ↔ qx sc D 143 261 ls (vi 1 :: st) u bb σ Q := r_iconst (by decide +kernel)
theorem k143_261 : qx sc D 143 261 ls (vi b' :: vi a' :: st) u bb σ Q ↔ q_R (a' + b') ∧ qx sc D 143 262 ls (vi (a' + b') :: st) u bb σ Q := r_iadd (by decide +kernel)
theorem k143_262 : qx sc D 143 262 ls [vi x] (0, 0) bb σ Q ↔ Q (.inl (some (vi x))) bb σ := r_ret (by decide +kernel)
-- 144: RowProverModel.dry()I
theorem k144_0 : qx sc D 144 0 [vr a, l1, l2, l3, l4, l5, l6, l7, l8, l9] st u bb σ Q ↔ qx sc D 144 1 [vr a, l1, l2, l3, l4, l5, l6, l7, l8, l9] (vr a :: st) u bb σ Q := r_aload_n (k := 0) (by decide +kernel) rfl
theorem k144_1 : qx sc (D + 1) 144 1 ls [vr 136] (0, 0) bb σ Q ↔ qx sc D 170 0 [vr 136, vn, vn] [] (0, 0) bb σ (q_kn sc (D + 1) 144 4 ls [] (0, 0) Q) := r_callv (idx := 257) (n := 0) (m := 3) (by decide +kernel) rfl (Nat.le_of_ble_eq_true rfl) ⟨Nat.le_of_ble_eq_true rfl, Nat.le_of_ble_eq_true rfl, rfl⟩ rfl
theorem k144_4 : qx sc D 144 4 [l0, l1, l2, l3, l4, l5, l6, l7, l8, l9] (vi x :: st) u bb σ Q ↔ qx sc D 144 5 [l0, vi x, l2, l3, l4, l5, l6, l7, l8, l9] st u bb σ Q := r_istore_n (k := 1) (by decide +kernel) (Nat.le_of_ble_eq_true rfl)
theorem k144_5 : qx sc D 144 5 [vr a, l1, l2, l3, l4, l5, l6, l7, l8, l9] st u bb σ Q ↔ qx sc D 144 6 [vr a, l1, l2, l3, l4, l5, l6, l7, l8, l9] (vr a :: st) u bb σ Q := r_aload_n (k := 0) (by decide +kernel) rfl
theorem k144_6 : qx sc D 144 6 ls (vr 136 :: st) u bb σ Q ↔ qx sc D 144 9 ls (vi (σ 136 8) :: st) u bb σ Q := r_getI (idx := 63) (c := 15) (k := 8) (by decide +kernel)
theorem k144_9 : qx sc D 144 9 [l0, l1, l2, l3, l4, l5, l6, l7, l8, l9] (vi x :: st) u bb σ Q ↔ qx sc D 144 10 [l0, l1, vi x, l3, l4, l5, l6, l7, l8, l9] st u bb σ Q := r_istore_n (k := 2) (by decide +kernel) (Nat.le_of_ble_eq_true rfl)
theorem k144_10 : qx sc D 144 10 [vr a, l1, l2, l3, l4, l5, l6, l7, l8, l9] st u bb σ Q ↔ qx sc D 144 11 [vr a, l1, l2, l3, l4, l5, l6, l7, l8, l9] (vr a :: st) u bb σ Q := r_aload_n (k := 0) (by decide +kernel) rfl
theorem k144_11 : qx sc D 144 11 ls (vr 136 :: st) u bb σ Q ↔ qx sc D 144 14 ls (vi (σ 136 14) :: st) u bb σ Q := r_getI (idx := 148) (c := 15) (k := 14) (by decide +kernel)
theorem k144_14 : qx sc D 144 14 [l0, l1, l2, l3, l4, l5, l6, l7, l8, l9] (vi x :: st) u bb σ Q ↔ qx sc D 144 15 [l0, l1, l2, vi x, l4, l5, l6, l7, l8, l9] st u bb σ Q := r_istore_n (k := 3) (by decide +kernel) (Nat.le_of_ble_eq_true rfl)
theorem k144_15 : qx sc D 144 15 [vr a, l1, l2, l3, l4, l5, l6, l7, l8, l9] st u bb σ Q ↔ qx sc D 144 16 [vr a, l1, l2, l3, l4, l5, l6, l7, l8, l9] (vr a :: st) u bb σ Q := r_aload_n (k := 0) (by decide +kernel) rfl
theorem k144_16 : qx sc D 144 16 ls (vr 136 :: st) u bb σ Q ↔ qx sc D 144 19 ls (vi (σ 136 15) :: st) u bb σ Q := r_getI (idx := 30) (c := 15) (k := 15) (by decide +kernel)
theorem k144_19 : qx sc D 144 19 [l0, l1, l2, l3, l4, l5, l6, l7, l8, l9] (vi x :: st) u bb σ Q ↔ qx sc D 144 21 [l0, l1, l2, l3, vi x, l5, l6, l7, l8, l9] st u bb σ Q := r_istore (k := 4) (by decide +kernel) (Nat.le_of_ble_eq_true rfl)
theorem k144_21 : qx sc D 144 21 [vr a, l1, l2, l3, l4, l5, l6, l7, l8, l9] st u bb σ Q ↔ qx sc D 144 22 [vr a, l1, l2, l3, l4, l5, l6, l7, l8, l9] (vr a :: st) u bb σ Q := r_aload_n (k := 0) (by decide +kernel) rfl
theorem k144_22 : qx sc D 144 22 ls (vr 136 :: st) u bb σ Q ↔ qx sc D 144 25 ls (vi (σ 136 16) :: st) u bb σ Q := r_getI (idx := 193) (c := 15) (k := 16) (by decide +kernel)
theorem k144_25 : qx sc D 144 25 [l0, l1, l2, l3, l4, l5, l6, l7, l8, l9] (vi x :: st) u bb σ Q ↔ qx sc D 144 27 [l0, l1, l2, l3, l4, vi x, l6, l7, l8, l9] st u bb σ Q := r_istore (k := 5) (by decide +kernel) (Nat.le_of_ble_eq_true rfl)
theorem k144_27 : qx sc D 144 27 [vr a, l1, l2, l3, l4, l5, l6, l7, l8, l9] st u bb σ Q ↔ qx sc D 144 28 [vr a, l1, l2, l3, l4, l5, l6, l7, l8, l9] (vr a :: st) u bb σ Q := r_aload_n (k := 0) (by decide +kernel) rfl
theorem k144_28 : qx sc D 144 28 ls (vr 136 :: st) u bb σ Q ↔ qx sc D 144 31 ls (vi (σ 136 17) :: st) u bb σ Q := r_getI (idx := 275) (c := 15) (k := 17) (by decide +kernel)
theorem k144_31 : qx sc D 144 31 [l0, l1, l2, l3, l4, l5, l6, l7, l8, l9] (vi x :: st) u bb σ Q ↔ qx sc D 144 33 [l0, l1, l2, l3, l4, l5, vi x, l7, l8, l9] st u bb σ Q := r_istore (k := 6) (by decide +kernel) (Nat.le_of_ble_eq_true rfl)
theorem k144_33 : qx sc D 144 33 [vr a, l1, l2, l3, l4, l5, l6, l7, l8, l9] st u bb σ Q ↔ qx sc D 144 34 [vr a, l1, l2, l3, l4, l5, l6, l7, l8, l9] (vr a :: st) u bb σ Q := r_aload_n (k := 0) (by decide +kernel) rfl
theorem k144_34 : qx sc D 144 34 ls (vr 136 :: st) u bb σ Q ↔ qx sc D 144 37 ls (vi (σ 136 18) :: st) u bb σ Q := r_getI (idx := 21) (c := 15) (k := 18) (by decide +kernel)
theorem k144_37 : qx sc D 144 37 [l0, l1, l2, l3, l4, l5, l6, l7, l8, l9] (vi x :: st) u bb σ Q ↔ qx sc D 144 39 [l0, l1, l2, l3, l4, l5, l6, vi x, l8, l9] st u bb σ Q := r_istore (k := 7) (by decide +kernel) (Nat.le_of_ble_eq_true rfl)
theorem k144_39 : qx sc D 144 39 [vr a, l1, l2, l3, l4, l5, l6, l7, l8, l9] st u bb σ Q ↔ qx sc D 144 40 [vr a, l1, l2, l3, l4, l5, l6, l7, l8, l9] (vr a :: st) u bb σ Q := r_aload_n (k := 0) (by decide +kernel) rfl
theorem k144_40 : qx sc D 144 40 ls (vr 136 :: st) u bb σ Q ↔ qx sc D 144 43 ls (vi (σ 136 49) :: st) u bb σ Q := r_getI (idx := 163) (c := 15) (k := 49) (by decide +kernel)
theorem k144_43 : qx sc D 144 43 [l0, l1, l2, l3, l4, l5, l6, l7, l8, l9] (vi x :: st) u bb σ Q ↔ qx sc D 144 45 [l0, l1, l2, l3, l4, l5, l6, l7, vi x, l9] st u bb σ Q := r_istore (k := 8) (by decide +kernel) (Nat.le_of_ble_eq_true rfl)
theorem k144_45 : qx sc D 144 45 [vr a, l1, l2, l3, l4, l5, l6, l7, l8, l9] st u bb σ Q ↔ qx sc D 144 46 [vr a, l1, l2, l3, l4, l5, l6, l7, l8, l9] (vr a :: st) u bb σ Q := r_aload_n (k := 0) (by decide +kernel) rfl
theorem k144_46 : qx sc (D + 1) 144 46 ls [vr 136] (0, 0) bb σ Q ↔ qx sc D 131 0 [vr 136] [] (0, 0) bb σ (q_kn sc (D + 1) 144 49 ls [] (0, 0) Q) := r_callv (idx := 263) (n := 0) (m := 1) (by decide +kernel) rfl (Nat.le_of_ble_eq_true rfl) ⟨Nat.le_of_ble_eq_true rfl, Nat.le_of_ble_eq_true rfl, rfl⟩ rfl
theorem k144_49 : qx sc D 144 49 [vr a, l1, l2, l3, l4, l5, l6, l7, l8, l9] st u bb σ Q ↔ qx sc D 144 50 [vr a, l1, l2, l3, l4, l5, l6, l7, l8, l9] (vr a :: st) u bb σ Q := r_aload_n (k := 0) (by decide +kernel) rfl
theorem k144_50 : qx sc D 144 50 [l0, l1, l2, vi x, l4, l5, l6, l7, l8, l9] st u bb σ Q ↔ qx sc D 144 51 [l0, l1, l2, vi x, l4, l5, l6, l7, l8, l9] (vi x :: st) u bb σ Q := r_iload_n (k := 3) (by decide +kernel) rfl
theorem k144_51 : qx sc D 144 51 [vr a, l1, l2, l3, l4, l5, l6, l7, l8, l9] st u bb σ Q ↔ qx sc D 144 52 [vr a, l1, l2, l3, l4, l5, l6, l7, l8, l9] (vr a :: st) u bb σ Q := r_aload_n (k := 0) (by decide +kernel) rfl
theorem k144_52 : qx sc D 144 52 ls (vr 136 :: st) u bb σ Q ↔ qx sc D 144 55 ls (vi (σ 136 14) :: st) u bb σ Q := r_getI (idx := 148) (c := 15) (k := 14) (by decide +kernel)
theorem k144_55 : qx sc (D + 1) 144 55 ls [vi x1, vi x0, vr 136] (0, 0) bb σ Q ↔ qx sc D 226 0 [vr 136, vi x0, vi x1, vn, vn] [] (0, 0) bb σ (q_kn sc (D + 1) 144 58 ls [] (0, 0) Q) := r_callv (idx := 271) (n := 2) (m := 5) (by decide +kernel) rfl (Nat.le_of_ble_eq_true rfl) ⟨Nat.le_of_ble_eq_true rfl, Nat.le_of_ble_eq_true rfl, rfl⟩ rfl
theorem k144_58 : qx sc D 144 58 [l0, l1, l2, l3, l4, l5, l6, l7, l8, l9] (vi x :: st) u bb σ Q ↔ qx sc D 144 60 [l0, l1, l2, l3, l4, l5, l6, l7, l8, vi x] st u bb σ Q := r_istore (k := 9) (by decide +kernel) (Nat.le_of_ble_eq_true rfl)
theorem k144_60 : qx sc D 144 60 [vr a, l1, l2, l3, l4, l5, l6, l7, l8, l9] st u bb σ Q ↔ qx sc D 144 61 [vr a, l1, l2, l3, l4, l5, l6, l7, l8, l9] (vr a :: st) u bb σ Q := r_aload_n (k := 0) (by decide +kernel) rfl
theorem k144_61 : qx sc (D + 1) 144 61 ls [vr 136] (0, 0) bb σ Q ↔ qx sc D 154 0 [vr 136] [] (0, 0) bb σ (q_kn sc (D + 1) 144 64 ls [] (0, 0) Q) := r_callv (idx := 83) (n := 0) (m := 1) (by decide +kernel) rfl (Nat.le_of_ble_eq_true rfl) ⟨Nat.le_of_ble_eq_true rfl, Nat.le_of_ble_eq_true rfl, rfl⟩ rfl
theorem k144_64 : qx sc D 144 64 ls (vi x :: st) u bb σ Q ↔ (x = 0 → qx sc D 144 69 ls st u bb σ Q) ∧ (¬ (x = 0) → qx sc D 144 67 ls st u bb σ Q) := r_if_eq (off := 5) (t := 69) (by decide +kernel)
theorem k144_67 : qx sc D 144 67 ls st u bb σ Q ↔ qx sc D 144 68 ls (vi 0 :: st) u bb σ Q := r_iconst (by decide +kernel)
theorem k144_68 : qx sc D 144 68 ls [vi x] (0, 0) bb σ Q ↔ Q (.inl (some (vi x))) bb σ := r_ret (by decide +kernel)
theorem k144_69 : qx sc D 144 69 [vr a, l1, l2, l3, l4, l5, l6, l7, l8, l9] st u bb σ Q ↔ qx sc D 144 70 [vr a, l1, l2, l3, l4, l5, l6, l7, l8, l9] (vr a :: st) u bb σ Q := r_aload_n (k := 0) (by decide +kernel) rfl
theorem k144_70 : qx sc D 144 70 [l0, l1, vi x, l3, l4, l5, l6, l7, l8, l9] st u bb σ Q ↔ qx sc D 144 71 [l0, l1, vi x, l3, l4, l5, l6, l7, l8, l9] (vi x :: st) u bb σ Q := r_iload_n (k := 2) (by decide +kernel) rfl
theorem k144_71 : qx sc D 144 71 ls (vi x :: vr 136 :: st) u bb σ Q ↔ qx sc D 144 74 ls st u bb (q_up σ 136 8 x) Q := r_putI (idx := 63) (c := 15) (k := 8) (by decide +kernel)
theorem k144_74 : qx sc D 144 74 [vr a, l1, l2, l3, l4, l5, l6, l7, l8, l9] st u bb σ Q ↔ qx sc D 144 75 [vr a, l1, l2, l3, l4, l5, l6, l7, l8, l9] (vr a :: st) u bb σ Q := r_aload_n (k := 0) (by decide +kernel) rfl
theorem k144_75 : qx sc D 144 75 [l0, l1, l2, vi x, l4, l5, l6, l7, l8, l9] st u bb σ Q ↔ qx sc D 144 76 [l0, l1, l2, vi x, l4, l5, l6, l7, l8, l9] (vi x :: st) u bb σ Q := r_iload_n (k := 3) (by decide +kernel) rfl
theorem k144_76 : qx sc D 144 76 ls (vi x :: vr 136 :: st) u bb σ Q ↔ qx sc D 144 79 ls st u bb (q_up σ 136 14 x) Q := r_putI (idx := 148) (c := 15) (k := 14) (by decide +kernel)
theorem k144_79 : qx sc D 144 79 [vr a, l1, l2, l3, l4, l5, l6, l7, l8, l9] st u bb σ Q ↔ qx sc D 144 80 [vr a, l1, l2, l3, l4, l5, l6, l7, l8, l9] (vr a :: st) u bb σ Q := r_aload_n (k := 0) (by decide +kernel) rfl
theorem k144_80 : qx sc D 144 80 [l0, l1, l2, l3, vi x, l5, l6, l7, l8, l9] st u bb σ Q ↔ qx sc D 144 82 [l0, l1, l2, l3, vi x, l5, l6, l7, l8, l9] (vi x :: st) u bb σ Q := r_iload (k := 4) (by decide +kernel) rfl
theorem k144_82 : qx sc D 144 82 ls (vi x :: vr 136 :: st) u bb σ Q ↔ qx sc D 144 85 ls st u bb (q_up σ 136 15 x) Q := r_putI (idx := 30) (c := 15) (k := 15) (by decide +kernel)
theorem k144_85 : qx sc D 144 85 [vr a, l1, l2, l3, l4, l5, l6, l7, l8, l9] st u bb σ Q ↔ qx sc D 144 86 [vr a, l1, l2, l3, l4, l5, l6, l7, l8, l9] (vr a :: st) u bb σ Q := r_aload_n (k := 0) (by decide +kernel) rfl
theorem k144_86 : qx sc D 144 86 [l0, l1, l2, l3, l4, vi x, l6, l7, l8, l9] st u bb σ Q ↔ qx sc D 144 88 [l0, l1, l2, l3, l4, vi x, l6, l7, l8, l9] (vi x :: st) u bb σ Q := r_iload (k := 5) (by decide +kernel) rfl
theorem k144_88 : qx sc D 144 88 ls (vi x :: vr 136 :: st) u bb σ Q ↔ qx sc D 144 91 ls st u bb (q_up σ 136 16 x) Q := r_putI (idx := 193) (c := 15) (k := 16) (by decide +kernel)
theorem k144_91 : qx sc D 144 91 [vr a, l1, l2, l3, l4, l5, l6, l7, l8, l9] st u bb σ Q ↔ qx sc D 144 92 [vr a, l1, l2, l3, l4, l5, l6, l7, l8, l9] (vr a :: st) u bb σ Q := r_aload_n (k := 0) (by decide +kernel) rfl
theorem k144_92 : qx sc D 144 92 [l0, l1, l2, l3, l4, l5, vi x, l7, l8, l9] st u bb σ Q ↔ qx sc D 144 94 [l0, l1, l2, l3, l4, l5, vi x, l7, l8, l9] (vi x :: st) u bb σ Q := r_iload (k := 6) (by decide +kernel) rfl
theorem k144_94 : qx sc D 144 94 ls (vi x :: vr 136 :: st) u bb σ Q ↔ qx sc D 144 97 ls st u bb (q_up σ 136 17 x) Q := r_putI (idx := 275) (c := 15) (k := 17) (by decide +kernel)
theorem k144_97 : qx sc D 144 97 [vr a, l1, l2, l3, l4, l5, l6, l7, l8, l9] st u bb σ Q ↔ qx sc D 144 98 [vr a, l1, l2, l3, l4, l5, l6, l7, l8, l9] (vr a :: st) u bb σ Q := r_aload_n (k := 0) (by decide +kernel) rfl
theorem k144_98 : qx sc D 144 98 [l0, l1, l2, l3, l4, l5, l6, vi x, l8, l9] st u bb σ Q ↔ qx sc D 144 100 [l0, l1, l2, l3, l4, l5, l6, vi x, l8, l9] (vi x :: st) u bb σ Q := r_iload (k := 7) (by decide +kernel) rfl
theorem k144_100 : qx sc D 144 100 ls (vi x :: vr 136 :: st) u bb σ Q ↔ qx sc D 144 103 ls st u bb (q_up σ 136 18 x) Q := r_putI (idx := 21) (c := 15) (k := 18) (by decide +kernel)
theorem k144_103 : qx sc D 144 103 [vr a, l1, l2, l3, l4, l5, l6, l7, l8, l9] st u bb σ Q ↔ qx sc D 144 104 [vr a, l1, l2, l3, l4, l5, l6, l7, l8, l9] (vr a :: st) u bb σ Q := r_aload_n (k := 0) (by decide +kernel) rfl
theorem k144_104 : qx sc D 144 104 [l0, l1, l2, l3, l4, l5, l6, l7, vi x, l9] st u bb σ Q ↔ qx sc D 144 106 [l0, l1, l2, l3, l4, l5, l6, l7, vi x, l9] (vi x :: st) u bb σ Q := r_iload (k := 8) (by decide +kernel) rfl
theorem k144_106 : qx sc D 144 106 ls (vi x :: vr 136 :: st) u bb σ Q ↔ qx sc D 144 109 ls st u bb (q_up σ 136 49 x) Q := r_putI (idx := 163) (c := 15) (k := 49) (by decide +kernel)
theorem k144_109 : qx sc D 144 109 [vr a, l1, l2, l3, l4, l5, l6, l7, l8, l9] st u bb σ Q ↔ qx sc D 144 110 [vr a, l1, l2, l3, l4, l5, l6, l7, l8, l9] (vr a :: st) u bb σ Q := r_aload_n (k := 0) (by decide +kernel) rfl
theorem k144_110 : qx sc D 144 110 [l0, vi x, l2, l3, l4, l5, l6, l7, l8, l9] st u bb σ Q ↔ qx sc D 144 111 [l0, vi x, l2, l3, l4, l5, l6, l7, l8, l9] (vi x :: st) u bb σ Q := r_iload_n (k := 1) (by decide +kernel) rfl
theorem k144_111 : qx sc (D + 1) 144 111 ls [vi x0, vr 136] (0, 0) bb σ Q ↔ qx sc D 220 0 [vr 136, vi x0, vn] [] (0, 0) bb σ (q_kn sc (D + 1) 144 114 ls [] (0, 0) Q) := r_callv (idx := 266) (n := 1) (m := 3) (by decide +kernel) rfl (Nat.le_of_ble_eq_true rfl) ⟨Nat.le_of_ble_eq_true rfl, Nat.le_of_ble_eq_true rfl, rfl⟩ rfl
theorem k144_114 : qx sc D 144 114 [vr a, l1, l2, l3, l4, l5, l6, l7, l8, l9] st u bb σ Q ↔ qx sc D 144 115 [vr a, l1, l2, l3, l4, l5, l6, l7, l8, l9] (vr a :: st) u bb σ Q := r_aload_n (k := 0) (by decide +kernel) rfl
theorem k144_115 : qx sc D 144 115 [l0, vi x, l2, l3, l4, l5, l6, l7, l8, l9] st u bb σ Q ↔ qx sc D 144 116 [l0, vi x, l2, l3, l4, l5, l6, l7, l8, l9] (vi x :: st) u bb σ Q := r_iload_n (k := 1) (by decide +kernel) rfl
theorem k144_116 : qx sc D 144 116 ls (vi x :: vr 136 :: st) u bb σ Q ↔ qx sc D 144 119 ls st u bb (q_up σ 136 51 x) Q := r_putI (idx := 245) (c := 15) (k := 51) (by decide +kernel)
theorem k144_119 : qx sc D 144 119 [l0, l1, l2, l3, l4, l5, l6, l7, l8, vi x] st u bb σ Q ↔ qx sc D 144 121 [l0, l1, l2, l3, l4, l5, l6, l7, l8, vi x] (vi x :: st) u bb σ Q := r_iload (k := 9) (by decide +kernel) rfl
theorem k144_121 : qx sc D 144 121 ls [vi x] (0, 0) bb σ Q ↔ Q (.inl (some (vi x))) bb σ := r_ret (by decide +kernel)
-- 145: RowProverModel.end(I)Z
theorem k145_0 : qx sc D 145 0 [vr a, l1] st u bb σ Q ↔ qx sc D 145 1 [vr a, l1] (vr a :: st) u bb σ Q := r_aload_n (k := 0) (by decide +kernel) rfl
theorem k145_1 : qx sc D 145 1 ls st u bb σ Q ↔ qx sc D 145 2 ls (vi 0 :: st) u bb σ Q := r_iconst (by decide +kernel)
theorem k145_2 : qx sc D 145 2 ls (vi x :: vr 136 :: st) u bb σ Q ↔ qx sc D 145 5 ls st u bb (q_up σ 136 0 x) Q := r_putI (idx := 3) (c := 15) (k := 0) (by decide +kernel)
theorem k145_5 : qx sc D 145 5 [l0, vi x] st u bb σ Q ↔ qx sc D 145 6 [l0, vi x] (vi x :: st) u bb σ Q := r_iload_n (k := 1) (by decide +kernel) rfl
theorem k145_6 : qx sc D 145 6 ls (vi x :: st) u bb σ Q ↔ (x < 0 → qx sc D 145 17 ls st u bb σ Q) ∧ (¬ (x < 0) → qx sc D 145 9 ls st u bb σ Q) := r_if_lt (off := 11) (t := 17) (by decide +kernel)
theorem k145_9 : qx sc D 145 9 [l0, vi x] st u bb σ Q ↔ qx sc D 145 10 [l0, vi x] (vi x :: st) u bb σ Q := r_iload_n (k := 1) (by decide +kernel) rfl
theorem k145_10 : qx sc D 145 10 [vr a, l1] st u bb σ Q ↔ qx sc D 145 11 [vr a, l1] (vr a :: st) u bb σ Q := r_aload_n (k := 0) (by decide +kernel) rfl
theorem k145_11 : qx sc D 145 11 ls (vr 136 :: st) u bb σ Q ↔ qx sc D 145 14 ls (vi (σ 136 2) :: st) u bb σ Q := r_getI (idx := 7) (c := 15) (k := 2) (by decide +kernel)
theorem k145_14 : qx sc D 145 14 ls (vi b' :: vi a' :: st) u bb σ Q ↔ (b' < a' → qx sc D 145 17 ls st u bb σ Q) ∧ (¬ (b' < a') → qx sc D 145 19 ls st u bb σ Q) := r_ic_le (off := 5) (t := 19) (by decide +kernel)
theorem k145_17 : qx sc D 145 17 ls st u bb σ Q ↔ qx sc D 145 18 ls (vi 0 :: st) u bb σ Q := r_iconst (by decide +kernel)
theorem k145_18 : qx sc D 145 18 ls [vi x] (0, 0) bb σ Q ↔ (x = 0 ∨ x = 1) ∧ Q (.inl (some (vi x))) bb σ := r_retB (by decide +kernel)
theorem k145_19 : qx sc D 145 19 [vr a, l1] st u bb σ Q ↔ qx sc D 145 20 [vr a, l1] (vr a :: st) u bb σ Q := r_aload_n (k := 0) (by decide +kernel) rfl
theorem k145_20 : qx sc D 145 20 [l0, vi x] st u bb σ Q ↔ qx sc D 145 21 [l0, vi x] (vi x :: st) u bb σ Q := r_iload_n (k := 1) (by decide +kernel) rfl
theorem k145_21 : qx sc D 145 21 ls (vi x :: vr 136 :: st) u bb σ Q ↔ qx sc D 145 24 ls st u bb (q_up σ 136 2 x) Q := r_putI (idx := 7) (c := 15) (k := 2) (by decide +kernel)
theorem k145_24 : qx sc D 145 24 ls st u bb σ Q ↔ qx sc D 145 25 ls (vi 1 :: st) u bb σ Q := r_iconst (by decide +kernel)
theorem k145_25 : qx sc D 145 25 ls [vi x] (0, 0) bb σ Q ↔ (x = 0 ∨ x = 1) ∧ Q (.inl (some (vi x))) bb σ := r_retB (by decide +kernel)
-- 146: RowProverModel.endsBy(I)I
theorem k146_0 : qx sc D 146 0 [vr a, l1] st u bb σ Q ↔ qx sc D 146 1 [vr a, l1] (vr a :: st) u bb σ Q := r_aload_n (k := 0) (by decide +kernel) rfl
theorem k146_1 : qx sc D 146 1 [l0, vi x] st u bb σ Q ↔ qx sc D 146 2 [l0, vi x] (vi x :: st) u bb σ Q := r_iload_n (k := 1) (by decide +kernel) rfl
theorem k146_2 : qx sc D 146 2 ls (vi x :: vr 136 :: st) u bb σ Q ↔ qx sc D 146 5 ls st u bb (q_up σ 136 70 x) Q := r_putI (idx := 468) (c := 15) (k := 70) (by decide +kernel)
theorem k146_5 : qx sc D 146 5 ls st u bb σ Q ↔ qx sc D 146 6 ls (vi 0 :: st) u bb σ Q := r_iconst (by decide +kernel)
theorem k146_6 : qx sc D 146 6 ls [vi x] (0, 0) bb σ Q ↔ Q (.inl (some (vi x))) bb σ := r_ret (by decide +kernel)
-- 147: RowProverModel.enters(I)V
theorem k147_0 : qx sc D 147 0 [vr a, l1, l2] st u bb σ Q ↔ qx sc D 147 1 [vr a, l1, l2] (vr a :: st) u bb σ Q := r_aload_n (k := 0) (by decide +kernel) rfl
theorem k147_1 : qx sc D 147 1 ls (vr 136 :: st) u bb σ Q ↔ qx sc D 147 4 ls (vr 187 :: st) u bb σ Q := r_getR (idx := 352) (c := 15) (k := 69) (by decide +kernel)
theorem k147_4 : qx sc D 147 4 [l0, vi x, l2] st u bb σ Q ↔ qx sc D 147 5 [l0, vi x, l2] (vi x :: st) u bb σ Q := r_iload_n (k := 1) (by decide +kernel) rfl
theorem k147_5 : qx sc D 147 5 ls st u bb σ Q ↔ qx sc D 147 6 ls (vi 0 :: st) u bb σ Q := r_iconst (by decide +kernel)
theorem k147_6 : qx sc D 147 6 ls (vi x :: vi i :: vr a :: st) u bb σ Q ↔ (((q_ty a = 1 ∧ -128 ≤ x ∧ x ≤ 127) ∨ (q_ty a = 2 ∧ (x = 0 ∨ x = 1))) ∧ 0 ≤ i ∧ i < q_ln a) ∧ qx sc D 147 7 ls st u bb (q_up σ a i x) Q := r_bast (by decide +kernel)
theorem k147_7 : qx sc D 147 7 [vr a, l1, l2] st u bb σ Q ↔ qx sc D 147 8 [vr a, l1, l2] (vr a :: st) u bb σ Q := r_aload_n (k := 0) (by decide +kernel) rfl
theorem k147_8 : qx sc D 147 8 ls (vr 136 :: st) u bb σ Q ↔ qx sc D 147 11 ls (vi (σ 136 77) :: st) u bb σ Q := r_getI (idx := 452) (c := 15) (k := 77) (by decide +kernel)
theorem k147_11 : qx sc D 147 11 ls st u bb σ Q ↔ qx sc D 147 12 ls (vi 2 :: st) u bb σ Q := r_iconst (by decide +kernel)
theorem k147_12 : qx sc D 147 12 ls (vi b' :: vi a' :: st) u bb σ Q ↔ (a' < b' → qx sc D 147 24 ls st u bb σ Q) ∧ (¬ (a' < b') → qx sc D 147 15 ls st u bb σ Q) := r_ic_lt (off := 12) (t := 24) (by decide +kernel)
theorem k147_15 : qx sc D 147 15 [vr a, l1, l2] st u bb σ Q ↔ qx sc D 147 16 [vr a, l1, l2] (vr a :: st) u bb σ Q := r_aload_n (k := 0) (by decide +kernel) rfl
theorem k147_16 : qx sc D 147 16 [l0, vi x, l2] st u bb σ Q ↔ qx sc D 147 17 [l0, vi x, l2] (vi x :: st) u bb σ Q := r_iload_n (k := 1) (by decide +kernel) rfl
theorem k147_17 : qx sc D 147 17 ls st u bb σ Q ↔ qx sc D 147 18 ls (vi 0 :: st) u bb σ Q := r_iconst (by decide +kernel)
theorem k147_18 : qx sc (D + 1) 147 18 ls [vi x1, vi x0, vr 136] (0, 0) bb σ Q ↔ qx sc D 151 0 [vr 136, vi x0, vi x1, vn, vn] [] (0, 0) bb σ (q_kn sc (D + 1) 147 21 ls [] (0, 0) Q) := r_callv (idx := 455) (n := 2) (m := 5) (by decide +kernel) rfl (Nat.le_of_ble_eq_true rfl) ⟨Nat.le_of_ble_eq_true rfl, Nat.le_of_ble_eq_true rfl, rfl⟩ rfl
theorem k147_21 : qx sc D 147 21 ls (vi x :: st) u bb σ Q ↔ (x = 0 → qx sc D 147 24 ls st u bb σ Q) ∧ (¬ (x = 0) → qx sc D 147 25 ls st u bb σ Q) := r_if_ne (off := 4) (t := 25) (by decide +kernel)
theorem k147_24 : qx sc D 147 24 ls [] (0, 0) bb σ Q ↔ Q (.inl none) bb σ := r_retV (by decide +kernel)
theorem k147_25 : qx sc D 147 25 ls st u bb σ Q ↔ qx sc D 147 26 ls (vi 0 :: st) u bb σ Q := r_iconst (by decide +kernel)
theorem k147_26 : qx sc D 147 26 [l0, l1, l2] (vi x :: st) u bb σ Q ↔ qx sc D 147 27 [l0, l1, vi x] st u bb σ Q := r_istore_n (k := 2) (by decide +kernel) (Nat.le_of_ble_eq_true rfl)
theorem k147_27 : qx sc D 147 27 [l0, l1, vi x] st u bb σ Q ↔ qx sc D 147 28 [l0, l1, vi x] (vi x :: st) u bb σ Q := r_iload_n (k := 2) (by decide +kernel) rfl
theorem k147_28 : qx sc D 147 28 [vr a, l1, l2] st u bb σ Q ↔ qx sc D 147 29 [vr a, l1, l2] (vr a :: st) u bb σ Q := r_aload_n (k := 0) (by decide +kernel) rfl
theorem k147_29 : qx sc D 147 29 ls (vr 136 :: st) u bb σ Q ↔ qx sc D 147 32 ls (vi (σ 136 16) :: st) u bb σ Q := r_getI (idx := 193) (c := 15) (k := 16) (by decide +kernel)
theorem k147_32 : qx sc D 147 32 ls (vi b' :: vi a' :: st) u bb σ Q ↔ (a' < b' → qx sc D 147 35 ls st u bb σ Q) ∧ (¬ (a' < b') → qx sc D 147 94 ls st u bb σ Q) := r_ic_ge (off := 62) (t := 94) (by decide +kernel)
theorem k147_35 : qx sc D 147 35 [vr a, l1, l2] st u bb σ Q ↔ qx sc D 147 36 [vr a, l1, l2] (vr a :: st) u bb σ Q := r_aload_n (k := 0) (by decide +kernel) rfl
theorem k147_36 : qx sc D 147 36 ls (vr 136 :: st) u bb σ Q ↔ qx sc D 147 39 ls (vr 176 :: st) u bb σ Q := r_getR (idx := 319) (c := 15) (k := 57) (by decide +kernel)
theorem k147_39 : qx sc D 147 39 [l0, l1, vi x] st u bb σ Q ↔ qx sc D 147 40 [l0, l1, vi x] (vi x :: st) u bb σ Q := r_iload_n (k := 2) (by decide +kernel) rfl
theorem k147_40 : qx sc D 147 40 ls (vi i :: vr a :: st) u bb σ Q ↔ (q_ty a = 0 ∧ 0 ≤ i ∧ i < q_ln a) ∧ qx sc D 147 41 ls (vi (σ a i) :: st) u bb σ Q := r_iald (by decide +kernel)
theorem k147_41 : qx sc D 147 41 [l0, vi x, l2] st u bb σ Q ↔ qx sc D 147 42 [l0, vi x, l2] (vi x :: st) u bb σ Q := r_iload_n (k := 1) (by decide +kernel) rfl
theorem k147_42 : qx sc D 147 42 ls (vi b' :: vi a' :: st) u bb σ Q ↔ (a' = b' → qx sc D 147 48 ls st u bb σ Q) ∧ (¬ (a' = b') → qx sc D 147 45 ls st u bb σ Q) := r_ic_eq (off := 6) (t := 48) (by decide +kernel)
theorem k147_45 : qx sc D 147 45 ls st u bb σ Q ↔ qx sc D 147 88 ls st u bb σ Q := r_goto (off := 43) (by decide +kernel)
theorem k147_48 : qx sc D 147 48 [vr a, l1, l2] st u bb σ Q ↔ qx sc D 147 49 [vr a, l1, l2] (vr a :: st) u bb σ Q := r_aload_n (k := 0) (by decide +kernel) rfl
theorem k147_49 : qx sc D 147 49 ls (vr 136 :: st) u bb σ Q ↔ qx sc D 147 52 ls (vr 178 :: st) u bb σ Q := r_getR (idx := 325) (c := 15) (k := 59) (by decide +kernel)
theorem k147_52 : qx sc D 147 52 [l0, l1, vi x] st u bb σ Q ↔ qx sc D 147 53 [l0, l1, vi x] (vi x :: st) u bb σ Q := r_iload_n (k := 2) (by decide +kernel) rfl
theorem k147_53 : qx sc D 147 53 ls (vi i :: vr a :: st) u bb σ Q ↔ ((q_ty a = 1 ∨ q_ty a = 2) ∧ 0 ≤ i ∧ i < q_ln a) ∧ qx sc D 147 54 ls (vi (σ a i) :: st) u bb σ Q := r_bald (by decide +kernel)
theorem k147_54 : qx sc D 147 54 ls (vi x :: st) u bb σ Q ↔ (x = 0 → qx sc D 147 57 ls st u bb σ Q) ∧ (¬ (x = 0) → qx sc D 147 68 ls st u bb σ Q) := r_if_ne (off := 14) (t := 68) (by decide +kernel)
theorem k147_57 : qx sc D 147 57 [vr a, l1, l2] st u bb σ Q ↔ qx sc D 147 58 [vr a, l1, l2] (vr a :: st) u bb σ Q := r_aload_n (k := 0) (by decide +kernel) rfl
theorem k147_58 : qx sc D 147 58 [l0, vi x, l2] st u bb σ Q ↔ qx sc D 147 59 [l0, vi x, l2] (vi x :: st) u bb σ Q := r_iload_n (k := 1) (by decide +kernel) rfl
theorem k147_59 : qx sc D 147 59 [l0, l1, vi x] st u bb σ Q ↔ qx sc D 147 60 [l0, l1, vi x] (vi x :: st) u bb σ Q := r_iload_n (k := 2) (by decide +kernel) rfl
theorem k147_60 : qx sc D 147 60 ls st u bb σ Q ↔ qx sc D 147 61 ls (vi 0 :: st) u bb σ Q := r_iconst (by decide +kernel)
theorem k147_61 : qx sc (D + 1) 147 61 ls [vi x2, vi x1, vi x0, vr 136] (0, 0) bb σ Q ↔ qx sc D 166 0 [vr 136, vi x0, vi x1, vi x2, vn, vn, vn, vn] [] (0, 0) bb σ (q_kn sc (D + 1) 147 64 ls [] (0, 0) Q) := r_callv (idx := 458) (n := 3) (m := 8) (by decide +kernel) rfl (Nat.le_of_ble_eq_true rfl) ⟨Nat.le_of_ble_eq_true rfl, Nat.le_of_ble_eq_true rfl, rfl⟩ rfl
theorem k147_64 : qx sc D 147 64 ls (vi x :: st) u bb σ Q ↔ (x = 0 → qx sc D 147 67 ls st u bb σ Q) ∧ (¬ (x = 0) → qx sc D 147 68 ls st u bb σ Q) := r_if_ne (off := 4) (t := 68) (by decide +kernel)
theorem k147_67 : qx sc D 147 67 ls [] (0, 0) bb σ Q ↔ Q (.inl none) bb σ := r_retV (by decide +kernel)
theorem k147_68 : qx sc D 147 68 [vr a, l1, l2] st u bb σ Q ↔ qx sc D 147 69 [vr a, l1, l2] (vr a :: st) u bb σ Q := r_aload_n (k := 0) (by decide +kernel) rfl
theorem k147_69 : qx sc D 147 69 ls (vr 136 :: st) u bb σ Q ↔ qx sc D 147 72 ls (vr 179 :: st) u bb σ Q := r_getR (idx := 329) (c := 15) (k := 60) (by decide +kernel)
theorem k147_72 : qx sc D 147 72 [l0, l1, vi x] st u bb σ Q ↔ qx sc D 147 73 [l0, l1, vi x] (vi x :: st) u bb σ Q := r_iload_n (k := 2) (by decide +kernel) rfl
theorem k147_73 : qx sc D 147 73 ls (vi i :: vr a :: st) u bb σ Q ↔ ((q_ty a = 1 ∨ q_ty a = 2) ∧ 0 ≤ i ∧ i < q_ln a) ∧ qx sc D 147 74 ls (vi (σ a i) :: st) u bb σ Q := r_bald (by decide +kernel)
theorem k147_74 : qx sc D 147 74 ls (vi x :: st) u bb σ Q ↔ (x = 0 → qx sc D 147 77 ls st u bb σ Q) ∧ (¬ (x = 0) → qx sc D 147 88 ls st u bb σ Q) := r_if_ne (off := 14) (t := 88) (by decide +kernel)
theorem k147_77 : qx sc D 147 77 [vr a, l1, l2] st u bb σ Q ↔ qx sc D 147 78 [vr a, l1, l2] (vr a :: st) u bb σ Q := r_aload_n (k := 0) (by decide +kernel) rfl
theorem k147_78 : qx sc D 147 78 [l0, vi x, l2] st u bb σ Q ↔ qx sc D 147 79 [l0, vi x, l2] (vi x :: st) u bb σ Q := r_iload_n (k := 1) (by decide +kernel) rfl
theorem k147_79 : qx sc D 147 79 [l0, l1, vi x] st u bb σ Q ↔ qx sc D 147 80 [l0, l1, vi x] (vi x :: st) u bb σ Q := r_iload_n (k := 2) (by decide +kernel) rfl
theorem k147_80 : qx sc D 147 80 ls st u bb σ Q ↔ qx sc D 147 81 ls (vi 1 :: st) u bb σ Q := r_iconst (by decide +kernel)
theorem k147_81 : qx sc (D + 1) 147 81 ls [vi x2, vi x1, vi x0, vr 136] (0, 0) bb σ Q ↔ qx sc D 166 0 [vr 136, vi x0, vi x1, vi x2, vn, vn, vn, vn] [] (0, 0) bb σ (q_kn sc (D + 1) 147 84 ls [] (0, 0) Q) := r_callv (idx := 458) (n := 3) (m := 8) (by decide +kernel) rfl (Nat.le_of_ble_eq_true rfl) ⟨Nat.le_of_ble_eq_true rfl, Nat.le_of_ble_eq_true rfl, rfl⟩ rfl
theorem k147_84 : qx sc D 147 84 ls (vi x :: st) u bb σ Q ↔ (x = 0 → qx sc D 147 87 ls st u bb σ Q) ∧ (¬ (x = 0) → qx sc D 147 88 ls st u bb σ Q) := r_if_ne (off := 4) (t := 88) (by decide +kernel)
theorem k147_87 : qx sc D 147 87 ls [] (0, 0) bb σ Q ↔ Q (.inl none) bb σ := r_retV (by decide +kernel)
theorem k147_88 : qx sc D 147 88 [l0, l1, vi x] st u bb σ Q ↔ q_R (x + 1) ∧ qx sc D 147 91 [l0, l1, vi (x + 1)] st u bb σ Q := r_iinc (k := 2) (n := 1) (by decide +kernel) rfl
theorem k147_91 : qx sc D 147 91 ls st u bb σ Q ↔ qx sc D 147 27 ls st u bb σ Q := r_goto (off := (-64)) (by decide +kernel)
theorem k147_94 : qx sc D 147 94 [vr a, l1, l2] st u bb σ Q ↔ qx sc D 147 95 [vr a, l1, l2] (vr a :: st) u bb σ Q := r_aload_n (k := 0) (by decide +kernel) rfl
theorem k147_95 : qx sc D 147 95 ls (vr 136 :: st) u bb σ Q ↔ qx sc D 147 98 ls (vr 187 :: st) u bb σ Q := r_getR (idx := 352) (c := 15) (k := 69) (by decide +kernel)
theorem k147_98 : qx sc D 147 98 [l0, vi x, l2] st u bb σ Q ↔ qx sc D 147 99 [l0, vi x, l2] (vi x :: st) u bb σ Q := r_iload_n (k := 1) (by decide +kernel) rfl
theorem k147_99 : qx sc D 147 99 ls st u bb σ Q ↔ qx sc D 147 100 ls (vi 1 :: st) u bb σ Q := r_iconst (by decide +kernel)
theorem k147_100 : qx sc D 147 100 ls (vi x :: vi i :: vr a :: st) u bb σ Q ↔ (((q_ty a = 1 ∧ -128 ≤ x ∧ x ≤ 127) ∨ (q_ty a = 2 ∧ (x = 0 ∨ x = 1))) ∧ 0 ≤ i ∧ i < q_ln a) ∧ qx sc D 147 101 ls st u bb (q_up σ a i x) Q := r_bast (by decide +kernel)
theorem k147_101 : qx sc D 147 101 [vr a, l1, l2] st u bb σ Q ↔ qx sc D 147 102 [vr a, l1, l2] (vr a :: st) u bb σ Q := r_aload_n (k := 0) (by decide +kernel) rfl
theorem k147_102 : qx sc D 147 102 ls (vr a :: st) u bb σ Q ↔ qx sc D 147 103 ls (vr a :: vr a :: st) u bb σ Q := r_dupA (by decide +kernel)
theorem k147_103 : qx sc D 147 103 ls (vr 136 :: st) u bb σ Q ↔ qx sc D 147 106 ls (vi (σ 136 75) :: st) u bb σ Q := r_getI (idx := 462) (c := 15) (k := 75) (by decide +kernel)
theorem k147_106 : qx sc D 147 106 ls st u bb σ Q ↔ qx sc D 147 107 ls (vi 1 :: st) u bb σ Q := r_iconst (by decide +kernel)
theorem k147_107 : qx sc D 147 107 ls (vi b' :: vi a' :: st) u bb σ Q ↔ q_R (a' + b') ∧ qx sc D 147 108 ls (vi (a' + b') :: st) u bb σ Q := r_iadd (by decide +kernel)
theorem k147_108 : qx sc D 147 108 ls (vi x :: vr 136 :: st) u bb σ Q ↔ qx sc D 147 111 ls st u bb (q_up σ 136 75 x) Q := r_putI (idx := 462) (c := 15) (k := 75) (by decide +kernel)
theorem k147_111 : qx sc D 147 111 ls [] (0, 0) bb σ Q ↔ Q (.inl none) bb σ := r_retV (by decide +kernel)
-- 148: RowProverModel.fails()V
theorem k148_0 : qx sc D 148 0 [vr a] st u bb σ Q ↔ qx sc D 148 1 [vr a] (vr a :: st) u bb σ Q := r_aload_n (k := 0) (by decide +kernel) rfl
theorem k148_1 : qx sc D 148 1 ls (vr 136 :: st) u bb σ Q ↔ qx sc D 148 4 ls (vi (σ 136 10) :: st) u bb σ Q := r_getI (idx := 60) (c := 15) (k := 10) (by decide +kernel)
theorem k148_4 : qx sc D 148 4 ls st u bb σ Q ↔ qx sc D 148 5 ls (vi (-1) :: st) u bb σ Q := r_iconst (by decide +kernel)
theorem k148_5 : qx sc D 148 5 ls (vi b' :: vi a' :: st) u bb σ Q ↔ (a' = b' → qx sc D 148 8 ls st u bb σ Q) ∧ (¬ (a' = b') → qx sc D 148 16 ls st u bb σ Q) := r_ic_ne (off := 11) (t := 16) (by decide +kernel)
theorem k148_8 : qx sc D 148 8 [vr a] st u bb σ Q ↔ qx sc D 148 9 [vr a] (vr a :: st) u bb σ Q := r_aload_n (k := 0) (by decide +kernel) rfl
theorem k148_9 : qx sc D 148 9 [vr a] st u bb σ Q ↔ qx sc D 148 10 [vr a] (vr a :: st) u bb σ Q := r_aload_n (k := 0) (by decide +kernel) rfl
theorem k148_10 : qx sc D 148 10 ls (vr 136 :: st) u bb σ Q ↔ qx sc D 148 13 ls (vi (σ 136 9) :: st) u bb σ Q := r_getI (idx := 76) (c := 15) (k := 9) (by decide +kernel)
theorem k148_13 : qx sc D 148 13 ls (vi x :: vr 136 :: st) u bb σ Q ↔ qx sc D 148 16 ls st u bb (q_up σ 136 10 x) Q := r_putI (idx := 60) (c := 15) (k := 10) (by decide +kernel)
theorem k148_16 : qx sc D 148 16 ls [] (0, 0) bb σ Q ↔ Q (.inl none) bb σ := r_retV (by decide +kernel)
-- 149: RowProverModel.fault()I
theorem k149_0 : qx sc D 149 0 [vr a] st u bb σ Q ↔ qx sc D 149 1 [vr a] (vr a :: st) u bb σ Q := r_aload_n (k := 0) (by decide +kernel) rfl
theorem k149_1 : qx sc D 149 1 ls st u bb σ Q ↔ qx sc D 149 2 ls (vi 0 :: st) u bb σ Q := r_iconst (by decide +kernel)
theorem k149_2 : qx sc D 149 2 ls (vi x :: vr 136 :: st) u bb σ Q ↔ qx sc D 149 5 ls st u bb (q_up σ 136 0 x) Q := r_putI (idx := 3) (c := 15) (k := 0) (by decide +kernel)
theorem k149_5 : qx sc D 149 5 [vr a] st u bb σ Q ↔ qx sc D 149 6 [vr a] (vr a :: st) u bb σ Q := r_aload_n (k := 0) (by decide +kernel) rfl
theorem k149_6 : qx sc D 149 6 ls (vr 136 :: st) u bb σ Q ↔ qx sc D 149 9 ls (vi (σ 136 52) :: st) u bb σ Q := r_getI (idx := 307) (c := 15) (k := 52) (by decide +kernel)
theorem k149_9 : qx sc D 149 9 ls [vi x] (0, 0) bb σ Q ↔ Q (.inl (some (vi x))) bb σ := r_ret (by decide +kernel)
-- 150: RowProverModel.feed(IIIII)I
theorem k150_0 : qx sc D 150 0 [vr a, l1, l2, l3, l4, l5, l6] st u bb σ Q ↔ qx sc D 150 1 [vr a, l1, l2, l3, l4, l5, l6] (vr a :: st) u bb σ Q := r_aload_n (k := 0) (by decide +kernel) rfl
theorem k150_1 : qx sc D 150 1 ls st u bb σ Q ↔ qx sc D 150 2 ls (vi 0 :: st) u bb σ Q := r_iconst (by decide +kernel)
theorem k150_2 : qx sc D 150 2 ls (vi x :: vr 136 :: st) u bb σ Q ↔ qx sc D 150 5 ls st u bb (q_up σ 136 0 x) Q := r_putI (idx := 3) (c := 15) (k := 0) (by decide +kernel)
theorem k150_5 : qx sc D 150 5 [vr a, l1, l2, l3, l4, l5, l6] st u bb σ Q ↔ qx sc D 150 6 [vr a, l1, l2, l3, l4, l5, l6] (vr a :: st) u bb σ Q := r_aload_n (k := 0) (by decide +kernel) rfl
theorem k150_6 : qx sc D 150 6 ls (vr 136 :: st) u bb σ Q ↔ qx sc D 150 9 ls (vi (σ 136 2) :: st) u bb σ Q := r_getI (idx := 7) (c := 15) (k := 2) (by decide +kernel)
theorem k150_9 : qx sc D 150 9 ls st u bb σ Q ↔ qx sc D 150 11 ls (vi 20 :: st) u bb σ Q := r_bipush (by decide +kernel)
theorem k150_11 : qx sc D 150 11 ls (vi b' :: vi a' :: st) u bb σ Q ↔ q_R (a' + b') ∧ qx sc D 150 12 ls (vi (a' + b') :: st) u bb σ Q := r_iadd (by decide +kernel)
theorem k150_12 : qx sc D 150 12 ls st u bb σ Q ↔ qx sc D 150 15 ls (vi 400 :: st) u bb σ Q := r_sipush (by decide +kernel)
theorem k150_15 : qx sc D 150 15 ls (vi b' :: vi a' :: st) u bb σ Q ↔ (b' < a' → qx sc D 150 18 ls st u bb σ Q) ∧ (¬ (b' < a') → qx sc D 150 20 ls st u bb σ Q) := r_ic_le (off := 5) (t := 20) (by decide +kernel)
theorem k150_18 : qx sc D 150 18 ls st u bb σ Q ↔ qx sc D 150 19 ls (vi (-1) :: st) u bb σ Q := r_iconst (by decide +kernel)
theorem k150_19 : qx sc D 150 19 ls [vi x] (0, 0) bb σ Q ↔ Q (.inl (some (vi x))) bb σ := r_ret (by decide +kernel)
theorem k150_20 : qx sc D 150 20 [vr a, l1, l2, l3, l4, l5, l6] st u bb σ Q ↔ qx sc D 150 21 [vr a, l1, l2, l3, l4, l5, l6] (vr a :: st) u bb σ Q := r_aload_n (k := 0) (by decide +kernel) rfl
theorem k150_21 : qx sc D 150 21 ls (vr 136 :: st) u bb σ Q ↔ qx sc D 150 24 ls (vr 138 :: st) u bb σ Q := r_getR (idx := 10) (c := 15) (k := 3) (by decide +kernel)
theorem k150_24 : qx sc D 150 24 ls st u bb σ Q ↔ qx sc D 150 25 ls (vi 0 :: st) u bb σ Q := r_iconst (by decide +kernel)
theorem k150_25 : qx sc D 150 25 [l0, vi x, l2, l3, l4, l5, l6] st u bb σ Q ↔ qx sc D 150 26 [l0, vi x, l2, l3, l4, l5, l6] (vi x :: st) u bb σ Q := r_iload_n (k := 1) (by decide +kernel) rfl
theorem k150_26 : qx sc D 150 26 ls (vi x :: vi i :: vr a :: st) u bb σ Q ↔ (q_ty a = 0 ∧ 0 ≤ i ∧ i < q_ln a) ∧ qx sc D 150 27 ls st u bb (q_up σ a i x) Q := r_iast (by decide +kernel)
theorem k150_27 : qx sc D 150 27 [vr a, l1, l2, l3, l4, l5, l6] st u bb σ Q ↔ qx sc D 150 28 [vr a, l1, l2, l3, l4, l5, l6] (vr a :: st) u bb σ Q := r_aload_n (k := 0) (by decide +kernel) rfl
theorem k150_28 : qx sc D 150 28 ls (vr 136 :: st) u bb σ Q ↔ qx sc D 150 31 ls (vr 138 :: st) u bb σ Q := r_getR (idx := 10) (c := 15) (k := 3) (by decide +kernel)
theorem k150_31 : qx sc D 150 31 ls st u bb σ Q ↔ qx sc D 150 32 ls (vi 1 :: st) u bb σ Q := r_iconst (by decide +kernel)
theorem k150_32 : qx sc D 150 32 [l0, l1, vi x, l3, l4, l5, l6] st u bb σ Q ↔ qx sc D 150 33 [l0, l1, vi x, l3, l4, l5, l6] (vi x :: st) u bb σ Q := r_iload_n (k := 2) (by decide +kernel) rfl
theorem k150_33 : qx sc D 150 33 ls (vi x :: vi i :: vr a :: st) u bb σ Q ↔ (q_ty a = 0 ∧ 0 ≤ i ∧ i < q_ln a) ∧ qx sc D 150 34 ls st u bb (q_up σ a i x) Q := r_iast (by decide +kernel)
theorem k150_34 : qx sc D 150 34 [vr a, l1, l2, l3, l4, l5, l6] st u bb σ Q ↔ qx sc D 150 35 [vr a, l1, l2, l3, l4, l5, l6] (vr a :: st) u bb σ Q := r_aload_n (k := 0) (by decide +kernel) rfl
theorem k150_35 : qx sc D 150 35 ls (vr 136 :: st) u bb σ Q ↔ qx sc D 150 38 ls (vr 138 :: st) u bb σ Q := r_getR (idx := 10) (c := 15) (k := 3) (by decide +kernel)
theorem k150_38 : qx sc D 150 38 ls st u bb σ Q ↔ qx sc D 150 39 ls (vi 2 :: st) u bb σ Q := r_iconst (by decide +kernel)
theorem k150_39 : qx sc D 150 39 [l0, l1, l2, vi x, l4, l5, l6] st u bb σ Q ↔ qx sc D 150 40 [l0, l1, l2, vi x, l4, l5, l6] (vi x :: st) u bb σ Q := r_iload_n (k := 3) (by decide +kernel) rfl
theorem k150_40 : qx sc D 150 40 ls (vi x :: vi i :: vr a :: st) u bb σ Q ↔ (q_ty a = 0 ∧ 0 ≤ i ∧ i < q_ln a) ∧ qx sc D 150 41 ls st u bb (q_up σ a i x) Q := r_iast (by decide +kernel)
theorem k150_41 : qx sc D 150 41 [vr a, l1, l2, l3, l4, l5, l6] st u bb σ Q ↔ qx sc D 150 42 [vr a, l1, l2, l3, l4, l5, l6] (vr a :: st) u bb σ Q := r_aload_n (k := 0) (by decide +kernel) rfl
theorem k150_42 : qx sc D 150 42 ls (vr 136 :: st) u bb σ Q ↔ qx sc D 150 45 ls (vr 138 :: st) u bb σ Q := r_getR (idx := 10) (c := 15) (k := 3) (by decide +kernel)
theorem k150_45 : qx sc D 150 45 ls st u bb σ Q ↔ qx sc D 150 46 ls (vi 3 :: st) u bb σ Q := r_iconst (by decide +kernel)
theorem k150_46 : qx sc D 150 46 [l0, l1, l2, l3, vi x, l5, l6] st u bb σ Q ↔ qx sc D 150 48 [l0, l1, l2, l3, vi x, l5, l6] (vi x :: st) u bb σ Q := r_iload (k := 4) (by decide +kernel) rfl
theorem k150_48 : qx sc D 150 48 ls (vi x :: vi i :: vr a :: st) u bb σ Q ↔ (q_ty a = 0 ∧ 0 ≤ i ∧ i < q_ln a) ∧ qx sc D 150 49 ls st u bb (q_up σ a i x) Q := r_iast (by decide +kernel)
theorem k150_49 : qx sc D 150 49 [vr a, l1, l2, l3, l4, l5, l6] st u bb σ Q ↔ qx sc D 150 50 [vr a, l1, l2, l3, l4, l5, l6] (vr a :: st) u bb σ Q := r_aload_n (k := 0) (by decide +kernel) rfl
theorem k150_50 : qx sc D 150 50 ls (vr 136 :: st) u bb σ Q ↔ qx sc D 150 53 ls (vr 138 :: st) u bb σ Q := r_getR (idx := 10) (c := 15) (k := 3) (by decide +kernel)
theorem k150_53 : qx sc D 150 53 ls st u bb σ Q ↔ qx sc D 150 54 ls (vi 4 :: st) u bb σ Q := r_iconst (by decide +kernel)
theorem k150_54 : qx sc D 150 54 [l0, l1, l2, l3, l4, vi x, l6] st u bb σ Q ↔ qx sc D 150 56 [l0, l1, l2, l3, l4, vi x, l6] (vi x :: st) u bb σ Q := r_iload (k := 5) (by decide +kernel) rfl
theorem k150_56 : qx sc D 150 56 ls (vi x :: vi i :: vr a :: st) u bb σ Q ↔ (q_ty a = 0 ∧ 0 ≤ i ∧ i < q_ln a) ∧ qx sc D 150 57 ls st u bb (q_up σ a i x) Q := r_iast (by decide +kernel)
theorem k150_57 : qx sc D 150 57 ls st u bb σ Q ↔ qx sc D 150 58 ls (vi 0 :: st) u bb σ Q := r_iconst (by decide +kernel)
theorem k150_58 : qx sc D 150 58 [l0, l1, l2, l3, l4, l5, l6] (vi x :: st) u bb σ Q ↔ qx sc D 150 60 [l0, l1, l2, l3, l4, l5, vi x] st u bb σ Q := r_istore (k := 6) (by decide +kernel) (Nat.le_of_ble_eq_true rfl)
theorem k150_60 : qx sc D 150 60 [l0, l1, l2, l3, l4, l5, vi x] st u bb σ Q ↔ qx sc D 150 62 [l0, l1, l2, l3, l4, l5, vi x] (vi x :: st) u bb σ Q := r_iload (k := 6) (by decide +kernel) rfl
theorem k150_62 : qx sc D 150 62 ls st u bb σ Q ↔ qx sc D 150 64 ls (vi 20 :: st) u bb σ Q := r_bipush (by decide +kernel)
theorem k150_64 : qx sc D 150 64 ls (vi b' :: vi a' :: st) u bb σ Q ↔ (a' < b' → qx sc D 150 67 ls st u bb σ Q) ∧ (¬ (a' < b') → qx sc D 150 106 ls st u bb σ Q) := r_ic_ge (off := 42) (t := 106) (by decide +kernel)
theorem k150_67 : qx sc D 150 67 [vr a, l1, l2, l3, l4, l5, l6] st u bb σ Q ↔ qx sc D 150 68 [vr a, l1, l2, l3, l4, l5, l6] (vr a :: st) u bb σ Q := r_aload_n (k := 0) (by decide +kernel) rfl
theorem k150_68 : qx sc D 150 68 ls (vr 136 :: st) u bb σ Q ↔ qx sc D 150 71 ls (vr 137 :: st) u bb σ Q := r_getR (idx := 14) (c := 15) (k := 1) (by decide +kernel)
theorem k150_71 : qx sc D 150 71 [vr a, l1, l2, l3, l4, l5, l6] st u bb σ Q ↔ qx sc D 150 72 [vr a, l1, l2, l3, l4, l5, l6] (vr a :: st) u bb σ Q := r_aload_n (k := 0) (by decide +kernel) rfl
theorem k150_72 : qx sc D 150 72 ls (vr 136 :: st) u bb σ Q ↔ qx sc D 150 75 ls (vi (σ 136 2) :: st) u bb σ Q := r_getI (idx := 7) (c := 15) (k := 2) (by decide +kernel)
theorem k150_75 : qx sc D 150 75 [l0, l1, l2, l3, l4, l5, vi x] st u bb σ Q ↔ qx sc D 150 77 [l0, l1, l2, l3, l4, l5, vi x] (vi x :: st) u bb σ Q := r_iload (k := 6) (by decide +kernel) rfl
theorem k150_77 : qx sc D 150 77 ls (vi b' :: vi a' :: st) u bb σ Q ↔ q_R (a' + b') ∧ qx sc D 150 78 ls (vi (a' + b') :: st) u bb σ Q := r_iadd (by decide +kernel)
theorem k150_78 : qx sc D 150 78 [vr a, l1, l2, l3, l4, l5, l6] st u bb σ Q ↔ qx sc D 150 79 [vr a, l1, l2, l3, l4, l5, l6] (vr a :: st) u bb σ Q := r_aload_n (k := 0) (by decide +kernel) rfl
theorem k150_79 : qx sc D 150 79 ls (vr 136 :: st) u bb σ Q ↔ qx sc D 150 82 ls (vr 138 :: st) u bb σ Q := r_getR (idx := 10) (c := 15) (k := 3) (by decide +kernel)
theorem k150_82 : qx sc D 150 82 [l0, l1, l2, l3, l4, l5, vi x] st u bb σ Q ↔ qx sc D 150 84 [l0, l1, l2, l3, l4, l5, vi x] (vi x :: st) u bb σ Q := r_iload (k := 6) (by decide +kernel) rfl
theorem k150_84 : qx sc D 150 84 ls st u bb σ Q ↔ qx sc D 150 85 ls (vi 4 :: st) u bb σ Q := r_iconst (by decide +kernel)
theorem k150_85 : qx sc D 150 85 ls (vi b' :: vi a' :: st) u bb σ Q ↔ ((0 ≤ a' ∧ 0 < b') ∧ q_R (a' / b')) ∧ qx sc D 150 86 ls (vi (a' / b') :: st) u bb σ Q := r_idiv (by decide +kernel)
theorem k150_86 : qx sc D 150 86 ls (vi i :: vr a :: st) u bb σ Q ↔ (q_ty a = 0 ∧ 0 ≤ i ∧ i < q_ln a) ∧ qx sc D 150 87 ls (vi (σ a i) :: st) u bb σ Q := r_iald (by decide +kernel)
theorem k150_87 : qx sc D 150 87 ls st u bb σ Q ↔ qx sc D 150 89 ls (vi 24 :: st) u bb σ Q := r_bipush (by decide +kernel)
theorem k150_89 : qx sc D 150 89 ls st u bb σ Q ↔ qx sc D 150 91 ls (vi 8 :: st) u bb σ Q := r_bipush (by decide +kernel)
theorem k150_91 : qx sc D 150 91 [l0, l1, l2, l3, l4, l5, vi x] st u bb σ Q ↔ qx sc D 150 93 [l0, l1, l2, l3, l4, l5, vi x] (vi x :: st) u bb σ Q := r_iload (k := 6) (by decide +kernel) rfl
theorem k150_93 : qx sc D 150 93 ls st u bb σ Q ↔ qx sc D 150 94 ls (vi 4 :: st) u bb σ Q := r_iconst (by decide +kernel)
theorem k150_94 : qx sc D 150 94 ls (vi b' :: vi a' :: st) u bb σ Q ↔ ((0 ≤ a' ∧ 0 < b') ∧ q_R (a' % b')) ∧ qx sc D 150 95 ls (vi (a' % b') :: st) u bb σ Q := r_irem (by decide +kernel)
theorem k150_95 : qx sc D 150 95 ls (vi b' :: vi a' :: st) u bb σ Q ↔ q_R (a' * b') ∧ qx sc D 150 96 ls (vi (a' * b') :: st) u bb σ Q := r_imul (by decide +kernel)
theorem k150_96 : qx sc D 150 96 ls (vi b' :: vi a' :: st) u bb σ Q ↔ q_R (a' - b') ∧ qx sc D 150 97 ls (vi (a' - b') :: st) u bb σ Q := r_isub (by decide +kernel)
theorem k150_97 : qx sc D 150 97 ls (vi b' :: vi a' :: st) u bb σ Q ↔ qx sc D 150 98 ls (vi (q_I a' >>> (q_I b' &&& 31)).toInt :: st) u bb σ Q := r_ishr (by decide +kernel)
theorem k150_98 : qx sc D 150 98 ls (vi a' :: st) u bb σ Q ↔ qx sc D 150 99 ls (vi (q_I a').toInt8.toInt32.toInt :: st) u bb σ Q := r_i2b (by decide +kernel)
theorem k150_99 : qx sc D 150 99 ls (vi x :: vi i :: vr a :: st) u bb σ Q ↔ (((q_ty a = 1 ∧ -128 ≤ x ∧ x ≤ 127) ∨ (q_ty a = 2 ∧ (x = 0 ∨ x = 1))) ∧ 0 ≤ i ∧ i < q_ln a) ∧ qx sc D 150 100 ls st u bb (q_up σ a i x) Q := r_bast (by decide +kernel)
theorem k150_100 : qx sc D 150 100 [l0, l1, l2, l3, l4, l5, vi x] st u bb σ Q ↔ q_R (x + 1) ∧ qx sc D 150 103 [l0, l1, l2, l3, l4, l5, vi (x + 1)] st u bb σ Q := r_iinc (k := 6) (n := 1) (by decide +kernel) rfl
theorem k150_103 : qx sc D 150 103 ls st u bb σ Q ↔ qx sc D 150 60 ls st u bb σ Q := r_goto (off := (-43)) (by decide +kernel)
theorem k150_106 : qx sc D 150 106 [vr a, l1, l2, l3, l4, l5, l6] st u bb σ Q ↔ qx sc D 150 107 [vr a, l1, l2, l3, l4, l5, l6] (vr a :: st) u bb σ Q := r_aload_n (k := 0) (by decide +kernel) rfl
theorem k150_107 : qx sc D 150 107 ls (vr a :: st) u bb σ Q ↔ qx sc D 150 108 ls (vr a :: vr a :: st) u bb σ Q := r_dupA (by decide +kernel)
theorem k150_108 : qx sc D 150 108 ls (vr 136 :: st) u bb σ Q ↔ qx sc D 150 111 ls (vi (σ 136 2) :: st) u bb σ Q := r_getI (idx := 7) (c := 15) (k := 2) (by decide +kernel)
theorem k150_111 : qx sc D 150 111 ls st u bb σ Q ↔ qx sc D 150 113 ls (vi 20 :: st) u bb σ Q := r_bipush (by decide +kernel)
theorem k150_113 : qx sc D 150 113 ls (vi b' :: vi a' :: st) u bb σ Q ↔ q_R (a' + b') ∧ qx sc D 150 114 ls (vi (a' + b') :: st) u bb σ Q := r_iadd (by decide +kernel)
theorem k150_114 : qx sc D 150 114 ls (vi x :: vr 136 :: st) u bb σ Q ↔ qx sc D 150 117 ls st u bb (q_up σ 136 2 x) Q := r_putI (idx := 7) (c := 15) (k := 2) (by decide +kernel)
theorem k150_117 : qx sc D 150 117 [vr a, l1, l2, l3, l4, l5, l6] st u bb σ Q ↔ qx sc D 150 118 [vr a, l1, l2, l3, l4, l5, l6] (vr a :: st) u bb σ Q := r_aload_n (k := 0) (by decide +kernel) rfl
theorem k150_118 : qx sc D 150 118 ls (vr 136 :: st) u bb σ Q ↔ qx sc D 150 121 ls (vi (σ 136 2) :: st) u bb σ Q := r_getI (idx := 7) (c := 15) (k := 2) (by decide +kernel)
theorem k150_121 : qx sc D 150 121 ls [vi x] (0, 0) bb σ Q ↔ Q (.inl (some (vi x))) bb σ := r_ret (by decide +kernel)
end K_305_kM0
