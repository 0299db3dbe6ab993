section K_305_kM3
variable {sc : Nat × (Nat → Int32)} {D : Nat} {ls st : List V2} {u : PU} {bb : Bool} {σ : St} {Q : QP} {x i a' b' x0 x1 x2 x3 x4 x5 x20 x21 x22 x23 x24 : Int} {a b c a0 a1 a2 a3 a4 a20 a21 a22 a23 : Nat} {l0 l1 l2 l3 l4 l5 l6 l7 l8 l9 l10 l11 l12 : V2}
-- 207: RowProverModel.rows()V
theorem k207_0 : qx sc D 207 0 [vr a, l1] st u bb σ Q ↔ qx sc D 207 1 [vr a, l1] (vr a :: st) u bb σ Q := r_aload_n (k := 0) (by decide +kernel) rfl
theorem k207_1 : qx sc D 207 1 ls st u bb σ Q ↔ qx sc D 207 3 ls (vr (q_tr 6) :: st) u bb σ Q := r_ldcS (idx := 123) (by decide +kernel)
theorem k207_3 : qx sc (D + 1) 207 3 ls [vr a0, vr 136] (0, 0) bb σ Q ↔ qx sc D 221 0 [vr 136, vr a0, vn] [] (0, 0) bb σ (q_kn sc (D + 1) 207 6 ls [] (0, 0) Q) := r_callv (idx := 125) (n := 1) (m := 3) (by decide +kernel) rfl (Nat.le_of_ble_eq_true rfl) ⟨Nat.le_of_ble_eq_true rfl, Nat.le_of_ble_eq_true rfl, rfl⟩ rfl
theorem k207_6 : qx sc D 207 6 ls (vi x :: st) u bb σ Q ↔ (x = 0 → qx sc D 207 108 ls st u bb σ Q) ∧ (¬ (x = 0) → qx sc D 207 9 ls st u bb σ Q) := r_if_eq (off := 102) (t := 108) (by decide +kernel)
theorem k207_9 : qx sc D 207 9 [vr a, l1] st u bb σ Q ↔ qx sc D 207 10 [vr a, l1] (vr a :: st) u bb σ Q := r_aload_n (k := 0) (by decide +kernel) rfl
theorem k207_10 : qx sc (D + 1) 207 10 ls [vr 136] (0, 0) bb σ Q ↔ qx sc D 164 0 [vr 136] [] (0, 0) bb σ (q_kn sc (D + 1) 207 13 ls [] (0, 0) Q) := r_callv (idx := 114) (n := 0) (m := 1) (by decide +kernel) rfl (Nat.le_of_ble_eq_true rfl) ⟨Nat.le_of_ble_eq_true rfl, Nat.le_of_ble_eq_true rfl, rfl⟩ rfl
theorem k207_13 : qx sc D 207 13 ls (vi x :: st) u bb σ Q ↔ (x = 0 → qx sc D 207 39 ls st u bb σ Q) ∧ (¬ (x = 0) → qx sc D 207 16 ls st u bb σ Q) := r_if_eq (off := 26) (t := 39) (by decide +kernel)
theorem k207_16 : qx sc D 207 16 [vr a, l1] st u bb σ Q ↔ qx sc D 207 17 [vr a, l1] (vr a :: st) u bb σ Q := r_aload_n (k := 0) (by decide +kernel) rfl
theorem k207_17 : qx sc D 207 17 ls (vr 136 :: st) u bb σ Q ↔ qx sc D 207 20 ls (vi (σ 136 13) :: st) u bb σ Q := r_getI (idx := 117) (c := 15) (k := 13) (by decide +kernel)
theorem k207_20 : qx sc D 207 20 [vr a, l1] st u bb σ Q ↔ qx sc D 207 21 [vr a, l1] (vr a :: st) u bb σ Q := r_aload_n (k := 0) (by decide +kernel) rfl
theorem k207_21 : qx sc D 207 21 ls (vr 136 :: st) u bb σ Q ↔ qx sc D 207 24 ls (vr 139 :: st) u bb σ Q := r_getR (idx := 69) (c := 15) (k := 4) (by decide +kernel)
theorem k207_24 : qx sc D 207 24 [vr a, l1] st u bb σ Q ↔ qx sc D 207 25 [vr a, l1] (vr a :: st) u bb σ Q := r_aload_n (k := 0) (by decide +kernel) rfl
theorem k207_25 : qx sc D 207 25 ls (vr 136 :: st) u bb σ Q ↔ qx sc D 207 28 ls (vi (σ 136 8) :: st) u bb σ Q := r_getI (idx := 63) (c := 15) (k := 8) (by decide +kernel)
theorem k207_28 : qx sc D 207 28 ls (vi i :: vr a :: st) u bb σ Q ↔ ((q_ty a = 1 ∨ q_ty a = 2) ∧ 0 ≤ i ∧ i < q_ln a) ∧ qx sc D 207 29 ls (vi (σ a i) :: st) u bb σ Q := r_bald (by decide +kernel)
theorem k207_29 : qx sc D 207 29 ls st u bb σ Q ↔ qx sc D 207 31 ls (vi 65 :: st) u bb σ Q := r_bipush (by decide +kernel)
theorem k207_31 : qx sc D 207 31 ls (vi b' :: vi a' :: st) u bb σ Q ↔ q_R (a' - b') ∧ qx sc D 207 32 ls (vi (a' - b') :: st) u bb σ Q := r_isub (by decide +kernel)
theorem k207_32 : qx sc D 207 32 ls (vi b' :: vi a' :: st) u bb σ Q ↔ qx sc D 207 33 ls (vi (q_I a' >>> (q_I b' &&& 31)).toInt :: st) u bb σ Q := r_ishr (by decide +kernel)
theorem k207_33 : qx sc D 207 33 ls st u bb σ Q ↔ qx sc D 207 34 ls (vi 1 :: st) u bb σ Q := r_iconst (by decide +kernel)
theorem k207_34 : qx sc D 207 34 ls (vi b' :: vi a' :: st) u bb σ Q ↔ qx sc D 207 35 ls (vi (q_I a' &&& q_I b').toInt :: st) u bb σ Q := r_iand (by decide +kernel)
theorem k207_35 : qx sc D 207 35 ls st u bb σ Q ↔ qx sc D 207 36 ls (vi 1 :: st) u bb σ Q := r_iconst (by decide +kernel)
theorem k207_36 : qx sc D 207 36 ls (vi b' :: vi a' :: st) u bb σ Q ↔ (a' = b' → qx sc D 207 39 ls st u bb σ Q) ∧ (¬ (a' = b') → qx sc D 207 44 ls st u bb σ Q) := r_ic_ne (off := 8) (t := 44) (by decide +kernel)
theorem k207_39 : qx sc D 207 39 [vr a, l1] st u bb σ Q ↔ qx sc D 207 40 [vr a, l1] (vr a :: st) u bb σ Q := r_aload_n (k := 0) (by decide +kernel) rfl
theorem k207_40 : qx sc (D + 1) 207 40 ls [vr 136] (0, 0) bb σ Q ↔ qx sc D 148 0 [vr 136] [] (0, 0) bb σ (q_kn sc (D + 1) 207 43 ls [] (0, 0) Q) := r_callv (idx := 91) (n := 0) (m := 1) (by decide +kernel) rfl (Nat.le_of_ble_eq_true rfl) ⟨Nat.le_of_ble_eq_true rfl, Nat.le_of_ble_eq_true rfl, rfl⟩ rfl
theorem k207_43 : qx sc D 207 43 ls [] (0, 0) bb σ Q ↔ Q (.inl none) bb σ := r_retV (by decide +kernel)
theorem k207_44 : qx sc D 207 44 [vr a, l1] st u bb σ Q ↔ qx sc D 207 45 [vr a, l1] (vr a :: st) u bb σ Q := r_aload_n (k := 0) (by decide +kernel) rfl
theorem k207_45 : qx sc D 207 45 ls (vr 136 :: st) u bb σ Q ↔ qx sc D 207 48 ls (vr 139 :: st) u bb σ Q := r_getR (idx := 69) (c := 15) (k := 4) (by decide +kernel)
theorem k207_48 : qx sc D 207 48 [vr a, l1] st u bb σ Q ↔ qx sc D 207 49 [vr a, l1] (vr a :: st) u bb σ Q := r_aload_n (k := 0) (by decide +kernel) rfl
theorem k207_49 : qx sc D 207 49 ls (vr 136 :: st) u bb σ Q ↔ qx sc D 207 52 ls (vi (σ 136 8) :: st) u bb σ Q := r_getI (idx := 63) (c := 15) (k := 8) (by decide +kernel)
theorem k207_52 : qx sc D 207 52 ls (vi i :: vr a :: st) u bb σ Q ↔ ((q_ty a = 1 ∨ q_ty a = 2) ∧ 0 ≤ i ∧ i < q_ln a) ∧ qx sc D 207 53 ls (vi (σ a i) :: st) u bb σ Q := r_bald (by decide +kernel)
theorem k207_53 : qx sc D 207 53 ls st u bb σ Q ↔ qx sc D 207 55 ls (vi 65 :: st) u bb σ Q := r_bipush (by decide +kernel)
theorem k207_55 : qx sc D 207 55 ls (vi b' :: vi a' :: st) u bb σ Q ↔ q_R (a' - b') ∧ qx sc D 207 56 ls (vi (a' - b') :: st) u bb σ Q := r_isub (by decide +kernel)
theorem k207_56 : qx sc D 207 56 [l0, l1] (vi x :: st) u bb σ Q ↔ qx sc D 207 57 [l0, vi x] st u bb σ Q := r_istore_n (k := 1) (by decide +kernel) (Nat.le_of_ble_eq_true rfl)
theorem k207_57 : qx sc D 207 57 [vr a, l1] st u bb σ Q ↔ qx sc D 207 58 [vr a, l1] (vr a :: st) u bb σ Q := r_aload_n (k := 0) (by decide +kernel) rfl
theorem k207_58 : qx sc D 207 58 ls (vr a :: st) u bb σ Q ↔ qx sc D 207 59 ls (vr a :: vr a :: st) u bb σ Q := r_dupA (by decide +kernel)
theorem k207_59 : qx sc D 207 59 ls (vr 136 :: st) u bb σ Q ↔ qx sc D 207 62 ls (vi (σ 136 8) :: st) u bb σ Q := r_getI (idx := 63) (c := 15) (k := 8) (by decide +kernel)
theorem k207_62 : qx sc D 207 62 ls st u bb σ Q ↔ qx sc D 207 63 ls (vi 1 :: st) u bb σ Q := r_iconst (by decide +kernel)
theorem k207_63 : qx sc D 207 63 ls (vi b' :: vi a' :: st) u bb σ Q ↔ q_R (a' + b') ∧ qx sc D 207 64 ls (vi (a' + b') :: st) u bb σ Q := r_iadd (by decide +kernel)
theorem k207_64 : qx sc D 207 64 ls (vi x :: vr 136 :: st) u bb σ Q ↔ qx sc D 207 67 ls st u bb (q_up σ 136 8 x) Q := r_putI (idx := 63) (c := 15) (k := 8) (by decide +kernel)
theorem k207_67 : qx sc D 207 67 [vr a, l1] st u bb σ Q ↔ qx sc D 207 68 [vr a, l1] (vr a :: st) u bb σ Q := r_aload_n (k := 0) (by decide +kernel) rfl
theorem k207_68 : qx sc D 207 68 ls (vr 136 :: st) u bb σ Q ↔ qx sc D 207 71 ls (vr 141 :: st) u bb σ Q := r_getR (idx := 128) (c := 15) (k := 12) (by decide +kernel)
theorem k207_71 : qx sc D 207 71 [l0, vi x] st u bb σ Q ↔ qx sc D 207 72 [l0, vi x] (vi x :: st) u bb σ Q := r_iload_n (k := 1) (by decide +kernel) rfl
theorem k207_72 : qx sc D 207 72 [vr a, l1] st u bb σ Q ↔ qx sc D 207 73 [vr a, l1] (vr a :: st) u bb σ Q := r_aload_n (k := 0) (by decide +kernel) rfl
theorem k207_73 : qx sc D 207 73 ls st u bb σ Q ↔ qx sc D 207 75 ls (vi 20 :: st) u bb σ Q := r_bipush (by decide +kernel)
theorem k207_75 : qx sc (D + 1) 207 75 ls [vi x0, vr 136, vi x20, vr a21] (0, 0) bb σ Q ↔ qx sc D 189 0 [vr 136, vi x0, vn] [] (0, 0) bb σ (q_kn sc (D + 1) 207 78 ls [vi x20, vr a21] (0, 0) Q) := r_callv (idx := 131) (n := 1) (m := 3) (by decide +kernel) rfl (Nat.le_of_ble_eq_true rfl) ⟨Nat.le_of_ble_eq_true rfl, Nat.le_of_ble_eq_true rfl, rfl⟩ rfl
theorem k207_78 : qx sc D 207 78 ls (vi x :: vi i :: vr a :: st) u bb σ Q ↔ (q_ty a = 0 ∧ 0 ≤ i ∧ i < q_ln a) ∧ qx sc D 207 79 ls st u bb (q_up σ a i x) Q := r_iast (by decide +kernel)
theorem k207_79 : qx sc D 207 79 [vr a, l1] st u bb σ Q ↔ qx sc D 207 80 [vr a, l1] (vr a :: st) u bb σ Q := r_aload_n (k := 0) (by decide +kernel) rfl
theorem k207_80 : qx sc D 207 80 ls (vr a :: st) u bb σ Q ↔ qx sc D 207 81 ls (vr a :: vr a :: st) u bb σ Q := r_dupA (by decide +kernel)
theorem k207_81 : qx sc D 207 81 ls (vr 136 :: st) u bb σ Q ↔ qx sc D 207 84 ls (vi (σ 136 13) :: st) u bb σ Q := r_getI (idx := 117) (c := 15) (k := 13) (by decide +kernel)
theorem k207_84 : qx sc D 207 84 ls st u bb σ Q ↔ qx sc D 207 85 ls (vi 1 :: st) u bb σ Q := r_iconst (by decide +kernel)
theorem k207_85 : qx sc D 207 85 [l0, vi x] st u bb σ Q ↔ qx sc D 207 86 [l0, vi x] (vi x :: st) u bb σ Q := r_iload_n (k := 1) (by decide +kernel) rfl
theorem k207_86 : qx sc D 207 86 ls (vi b' :: vi a' :: st) u bb σ Q ↔ qx sc D 207 87 ls (vi (q_I a' <<< (q_I b' &&& 31)).toInt :: st) u bb σ Q := r_ishl (by decide +kernel)
theorem k207_87 : qx sc D 207 87 ls (vi b' :: vi a' :: st) u bb σ Q ↔ qx sc D 207 88 ls (vi (q_I a' ||| q_I b').toInt :: st) u bb σ Q := r_ior (by decide +kernel)
theorem k207_88 : qx sc D 207 88 ls (vi x :: vr 136 :: st) u bb σ Q ↔ qx sc D 207 91 ls st u bb (q_up σ 136 13 x) Q := r_putI (idx := 117) (c := 15) (k := 13) (by decide +kernel)
theorem k207_91 : qx sc D 207 91 [vr a, l1] st u bb σ Q ↔ qx sc D 207 92 [vr a, l1] (vr a :: st) u bb σ Q := r_aload_n (k := 0) (by decide +kernel) rfl
theorem k207_92 : qx sc D 207 92 ls st u bb σ Q ↔ qx sc D 207 94 ls (vi 59 :: st) u bb σ Q := r_bipush (by decide +kernel)
theorem k207_94 : qx sc (D + 1) 207 94 ls [vi x0, vr 136] (0, 0) bb σ Q ↔ qx sc D 127 0 [vr 136, vi x0] [] (0, 0) bb σ (q_kn sc (D + 1) 207 97 ls [] (0, 0) Q) := r_callv (idx := 135) (n := 1) (m := 2) (by decide +kernel) rfl (Nat.le_of_ble_eq_true rfl) ⟨Nat.le_of_ble_eq_true rfl, Nat.le_of_ble_eq_true rfl, rfl⟩ rfl
theorem k207_97 : qx sc D 207 97 [vr a, l1] st u bb σ Q ↔ qx sc D 207 98 [vr a, l1] (vr a :: st) u bb σ Q := r_aload_n (k := 0) (by decide +kernel) rfl
theorem k207_98 : qx sc (D + 1) 207 98 ls [vr 136] (0, 0) bb σ Q ↔ qx sc D 154 0 [vr 136] [] (0, 0) bb σ (q_kn sc (D + 1) 207 101 ls [] (0, 0) Q) := r_callv (idx := 83) (n := 0) (m := 1) (by decide +kernel) rfl (Nat.le_of_ble_eq_true rfl) ⟨Nat.le_of_ble_eq_true rfl, Nat.le_of_ble_eq_true rfl, rfl⟩ rfl
theorem k207_101 : qx sc D 207 101 ls (vi x :: st) u bb σ Q ↔ (x = 0 → qx sc D 207 105 ls st u bb σ Q) ∧ (¬ (x = 0) → qx sc D 207 104 ls st u bb σ Q) := r_if_eq (off := 4) (t := 105) (by decide +kernel)
theorem k207_104 : qx sc D 207 104 ls [] (0, 0) bb σ Q ↔ Q (.inl none) bb σ := r_retV (by decide +kernel)
theorem k207_105 : qx sc D 207 105 ls st u bb σ Q ↔ qx sc D 207 0 ls st u bb σ Q := r_goto (off := (-105)) (by decide +kernel)
theorem k207_108 : qx sc D 207 108 ls [] (0, 0) bb σ Q ↔ Q (.inl none) bb σ := r_retV (by decide +kernel)
-- 208: RowProverModel.run(II)I
theorem k208_0 : qx sc D 208 0 [vr a, l1, l2] st u bb σ Q ↔ qx sc D 208 1 [vr a, l1, l2] (vr a :: st) u bb σ Q := r_aload_n (k := 0) (by decide +kernel) rfl
theorem k208_1 : qx sc D 208 1 ls st u bb σ Q ↔ qx sc D 208 2 ls (vi 0 :: st) u bb σ Q := r_iconst (by decide +kernel)
theorem k208_2 : qx sc D 208 2 ls (vi x :: vr 136 :: st) u bb σ Q ↔ qx sc D 208 5 ls st u bb (q_up σ 136 0 x) Q := r_putI (idx := 3) (c := 15) (k := 0) (by decide +kernel)
theorem k208_5 : qx sc D 208 5 [vr a, l1, l2] st u bb σ Q ↔ qx sc D 208 6 [vr a, l1, l2] (vr a :: st) u bb σ Q := r_aload_n (k := 0) (by decide +kernel) rfl
theorem k208_6 : qx sc D 208 6 [l0, vi x, l2] st u bb σ Q ↔ qx sc D 208 7 [l0, vi x, l2] (vi x :: st) u bb σ Q := r_iload_n (k := 1) (by decide +kernel) rfl
theorem k208_7 : qx sc (D + 1) 208 7 ls [vi x0, vr 136] (0, 0) bb σ Q ↔ qx sc D 185 0 [vr 136, vi x0] [] (0, 0) bb σ (q_kn sc (D + 1) 208 10 ls [] (0, 0) Q) := r_callv (idx := 505) (n := 1) (m := 2) (by decide +kernel) rfl (Nat.le_of_ble_eq_true rfl) ⟨Nat.le_of_ble_eq_true rfl, Nat.le_of_ble_eq_true rfl, rfl⟩ rfl
theorem k208_10 : qx sc D 208 10 ls (vi x :: st) u bb σ Q ↔ (x = 0 → qx sc D 208 13 ls st u bb σ Q) ∧ (¬ (x = 0) → qx sc D 208 36 ls st u bb σ Q) := r_if_ne (off := 26) (t := 36) (by decide +kernel)
theorem k208_13 : qx sc D 208 13 [vr a, l1, l2] st u bb σ Q ↔ qx sc D 208 14 [vr a, l1, l2] (vr a :: st) u bb σ Q := r_aload_n (k := 0) (by decide +kernel) rfl
theorem k208_14 : qx sc D 208 14 [l0, l1, vi x] st u bb σ Q ↔ qx sc D 208 15 [l0, l1, vi x] (vi x :: st) u bb σ Q := r_iload_n (k := 2) (by decide +kernel) rfl
theorem k208_15 : qx sc D 208 15 ls st u bb σ Q ↔ qx sc D 208 16 ls (vi 0 :: st) u bb σ Q := r_iconst (by decide +kernel)
theorem k208_16 : qx sc D 208 16 ls st u bb σ Q ↔ qx sc D 208 18 ls (vi 6 :: st) u bb σ Q := r_bipush (by decide +kernel)
theorem k208_18 : qx sc (D + 1) 208 18 ls [vi x2, vi x1, vi x0, vr a20] (0, 0) bb σ Q ↔ qx sc D 157 0 [vi x0, vi x1, vi x2] [] (0, 0) bb σ (q_kn sc (D + 1) 208 21 ls [vr a20] (0, 0) Q) := r_calls (idx := 498) (n := 3) (m := 3) (by decide +kernel) rfl (Nat.le_of_ble_eq_true rfl) ⟨Nat.le_of_ble_eq_true rfl, Nat.le_of_ble_eq_true rfl, rfl⟩ rfl
theorem k208_21 : qx sc D 208 21 ls (vi x :: st) u bb σ Q ↔ (x = 0 → qx sc D 208 24 ls st u bb σ Q) ∧ (¬ (x = 0) → qx sc D 208 28 ls st u bb σ Q) := r_if_ne (off := 7) (t := 28) (by decide +kernel)
theorem k208_24 : qx sc D 208 24 ls st u bb σ Q ↔ qx sc D 208 25 ls (vi 1 :: st) u bb σ Q := r_iconst (by decide +kernel)
theorem k208_25 : qx sc D 208 25 ls st u bb σ Q ↔ qx sc D 208 29 ls st u bb σ Q := r_goto (off := 4) (by decide +kernel)
theorem k208_28 : qx sc D 208 28 ls st u bb σ Q ↔ qx sc D 208 29 ls (vi 0 :: st) u bb σ Q := r_iconst (by decide +kernel)
theorem k208_29 : qx sc D 208 29 ls st u bb σ Q ↔ qx sc D 208 30 ls (vi 2 :: st) u bb σ Q := r_iconst (by decide +kernel)
theorem k208_30 : qx sc (D + 1) 208 30 ls [vi x1, vi x0, vr 136] (0, 0) bb σ Q ↔ qx sc D 224 0 [vr 136, vi x0, vi x1] [] (0, 0) bb σ (q_kn sc (D + 1) 208 33 ls [] (0, 0) Q) := r_callv (idx := 501) (n := 2) (m := 3) (by decide +kernel) rfl (Nat.le_of_ble_eq_true rfl) ⟨Nat.le_of_ble_eq_true rfl, Nat.le_of_ble_eq_true rfl, rfl⟩ rfl
theorem k208_33 : qx sc D 208 33 ls (vi x :: st) u bb σ Q ↔ (x = 0 → qx sc D 208 38 ls st u bb σ Q) ∧ (¬ (x = 0) → qx sc D 208 36 ls st u bb σ Q) := r_if_eq (off := 5) (t := 38) (by decide +kernel)
theorem k208_36 : qx sc D 208 36 ls st u bb σ Q ↔ qx sc D 208 37 ls (vi 0 :: st) u bb σ Q := r_iconst (by decide +kernel)
theorem k208_37 : qx sc D 208 37 ls [vi x] (0, 0) bb σ Q ↔ Q (.inl (some (vi x))) bb σ := r_ret (by decide +kernel)
theorem k208_38 : qx sc D 208 38 [vr a, l1, l2] st u bb σ Q ↔ qx sc D 208 39 [vr a, l1, l2] (vr a :: st) u bb σ Q := r_aload_n (k := 0) (by decide +kernel) rfl
theorem k208_39 : qx sc D 208 39 [l0, vi x, l2] st u bb σ Q ↔ qx sc D 208 40 [l0, vi x, l2] (vi x :: st) u bb σ Q := r_iload_n (k := 1) (by decide +kernel) rfl
theorem k208_40 : qx sc (D + 1) 208 40 ls [vi x0, vr 136] (0, 0) bb σ Q ↔ qx sc D 209 0 [vr 136, vi x0, vn] [] (0, 0) bb σ (q_kn sc (D + 1) 208 43 ls [] (0, 0) Q) := r_callv (idx := 508) (n := 1) (m := 3) (by decide +kernel) rfl (Nat.le_of_ble_eq_true rfl) ⟨Nat.le_of_ble_eq_true rfl, Nat.le_of_ble_eq_true rfl, rfl⟩ rfl
theorem k208_43 : qx sc D 208 43 [l0, l1, vi x] st u bb σ Q ↔ qx sc D 208 44 [l0, l1, vi x] (vi x :: st) u bb σ Q := r_iload_n (k := 2) (by decide +kernel) rfl
theorem k208_44 : qx sc D 208 44 ls (vi x :: st) u bb σ Q ↔ qx sc D 208 (if x < 0 ∨ 5 < x then 114 else [84, 89, 94, 99, 104, 109].getD (x - 0).toNat 0) ls st u bb σ Q := r_tsw (d := 70) (lo := 0) (hi := 5) (offs := #[40, 45, 50, 55, 60, 65]) (dt := 114) (tg := [84, 89, 94, 99, 104, 109]) (by decide +kernel)
theorem k208_84 : qx sc D 208 84 [vr a, l1, l2] st u bb σ Q ↔ qx sc D 208 85 [vr a, l1, l2] (vr a :: st) u bb σ Q := r_aload_n (k := 0) (by decide +kernel) rfl
theorem k208_85 : qx sc D 208 85 ls (vr 136 :: st) u bb σ Q ↔ qx sc D 208 88 ls (vi (σ 136 70) :: st) u bb σ Q := r_getI (idx := 468) (c := 15) (k := 70) (by decide +kernel)
theorem k208_88 : qx sc D 208 88 ls [vi x] (0, 0) bb σ Q ↔ Q (.inl (some (vi x))) bb σ := r_ret (by decide +kernel)
theorem k208_89 : qx sc D 208 89 [vr a, l1, l2] st u bb σ Q ↔ qx sc D 208 90 [vr a, l1, l2] (vr a :: st) u bb σ Q := r_aload_n (k := 0) (by decide +kernel) rfl
theorem k208_90 : qx sc D 208 90 ls (vr 136 :: st) u bb σ Q ↔ qx sc D 208 93 ls (vi (σ 136 71) :: st) u bb σ Q := r_getI (idx := 471) (c := 15) (k := 71) (by decide +kernel)
theorem k208_93 : qx sc D 208 93 ls [vi x] (0, 0) bb σ Q ↔ Q (.inl (some (vi x))) bb σ := r_ret (by decide +kernel)
theorem k208_94 : qx sc D 208 94 [vr a, l1, l2] st u bb σ Q ↔ qx sc D 208 95 [vr a, l1, l2] (vr a :: st) u bb σ Q := r_aload_n (k := 0) (by decide +kernel) rfl
theorem k208_95 : qx sc D 208 95 ls (vr 136 :: st) u bb σ Q ↔ qx sc D 208 98 ls (vi (σ 136 72) :: st) u bb σ Q := r_getI (idx := 474) (c := 15) (k := 72) (by decide +kernel)
theorem k208_98 : qx sc D 208 98 ls [vi x] (0, 0) bb σ Q ↔ Q (.inl (some (vi x))) bb σ := r_ret (by decide +kernel)
theorem k208_99 : qx sc D 208 99 [vr a, l1, l2] st u bb σ Q ↔ qx sc D 208 100 [vr a, l1, l2] (vr a :: st) u bb σ Q := r_aload_n (k := 0) (by decide +kernel) rfl
theorem k208_100 : qx sc D 208 100 ls (vr 136 :: st) u bb σ Q ↔ qx sc D 208 103 ls (vi (σ 136 73) :: st) u bb σ Q := r_getI (idx := 477) (c := 15) (k := 73) (by decide +kernel)
theorem k208_103 : qx sc D 208 103 ls [vi x] (0, 0) bb σ Q ↔ Q (.inl (some (vi x))) bb σ := r_ret (by decide +kernel)
theorem k208_104 : qx sc D 208 104 [vr a, l1, l2] st u bb σ Q ↔ qx sc D 208 105 [vr a, l1, l2] (vr a :: st) u bb σ Q := r_aload_n (k := 0) (by decide +kernel) rfl
theorem k208_105 : qx sc D 208 105 ls (vr 136 :: st) u bb σ Q ↔ qx sc D 208 108 ls (vi (σ 136 74) :: st) u bb σ Q := r_getI (idx := 446) (c := 15) (k := 74) (by decide +kernel)
theorem k208_108 : qx sc D 208 108 ls [vi x] (0, 0) bb σ Q ↔ Q (.inl (some (vi x))) bb σ := r_ret (by decide +kernel)
theorem k208_109 : qx sc D 208 109 [vr a, l1, l2] st u bb σ Q ↔ qx sc D 208 110 [vr a, l1, l2] (vr a :: st) u bb σ Q := r_aload_n (k := 0) (by decide +kernel) rfl
theorem k208_110 : qx sc D 208 110 ls (vr 136 :: st) u bb σ Q ↔ qx sc D 208 113 ls (vi (σ 136 75) :: st) u bb σ Q := r_getI (idx := 462) (c := 15) (k := 75) (by decide +kernel)
theorem k208_113 : qx sc D 208 113 ls [vi x] (0, 0) bb σ Q ↔ Q (.inl (some (vi x))) bb σ := r_ret (by decide +kernel)
theorem k208_114 : qx sc D 208 114 [vr a, l1, l2] st u bb σ Q ↔ qx sc D 208 115 [vr a, l1, l2] (vr a :: st) u bb σ Q := r_aload_n (k := 0) (by decide +kernel) rfl
theorem k208_115 : qx sc D 208 115 ls (vr 136 :: st) u bb σ Q ↔ qx sc D 208 118 ls (vi (σ 136 76) :: st) u bb σ Q := r_getI (idx := 449) (c := 15) (k := 76) (by decide +kernel)
theorem k208_118 : qx sc D 208 118 ls [vi x] (0, 0) bb σ Q ↔ Q (.inl (some (vi x))) bb σ := r_ret (by decide +kernel)
-- 209: RowProverModel.runs(I)V
theorem k209_0 : qx sc D 209 0 [vr a, l1, l2] st u bb σ Q ↔ qx sc D 209 1 [vr a, l1, l2] (vr a :: st) u bb σ Q := r_aload_n (k := 0) (by decide +kernel) rfl
theorem k209_1 : qx sc D 209 1 [l0, vi x, l2] st u bb σ Q ↔ qx sc D 209 2 [l0, vi x, l2] (vi x :: st) u bb σ Q := r_iload_n (k := 1) (by decide +kernel) rfl
theorem k209_2 : qx sc D 209 2 ls (vi x :: vr 136 :: st) u bb σ Q ↔ qx sc D 209 5 ls st u bb (q_up σ 136 77 x) Q := r_putI (idx := 452) (c := 15) (k := 77) (by decide +kernel)
theorem k209_5 : qx sc D 209 5 [vr a, l1, l2] st u bb σ Q ↔ qx sc D 209 6 [vr a, l1, l2] (vr a :: st) u bb σ Q := r_aload_n (k := 0) (by decide +kernel) rfl
theorem k209_6 : qx sc D 209 6 ls st u bb σ Q ↔ qx sc D 209 7 ls (vi (-1) :: st) u bb σ Q := r_iconst (by decide +kernel)
theorem k209_7 : qx sc D 209 7 ls (vi x :: vr 136 :: st) u bb σ Q ↔ qx sc D 209 10 ls st u bb (q_up σ 136 70 x) Q := r_putI (idx := 468) (c := 15) (k := 70) (by decide +kernel)
theorem k209_10 : qx sc D 209 10 [vr a, l1, l2] st u bb σ Q ↔ qx sc D 209 11 [vr a, l1, l2] (vr a :: st) u bb σ Q := r_aload_n (k := 0) (by decide +kernel) rfl
theorem k209_11 : qx sc D 209 11 ls st u bb σ Q ↔ qx sc D 209 12 ls (vi (-1) :: st) u bb σ Q := r_iconst (by decide +kernel)
theorem k209_12 : qx sc D 209 12 ls (vi x :: vr 136 :: st) u bb σ Q ↔ qx sc D 209 15 ls st u bb (q_up σ 136 71 x) Q := r_putI (idx := 471) (c := 15) (k := 71) (by decide +kernel)
theorem k209_15 : qx sc D 209 15 [vr a, l1, l2] st u bb σ Q ↔ qx sc D 209 16 [vr a, l1, l2] (vr a :: st) u bb σ Q := r_aload_n (k := 0) (by decide +kernel) rfl
theorem k209_16 : qx sc D 209 16 ls st u bb σ Q ↔ qx sc D 209 17 ls (vi 0 :: st) u bb σ Q := r_iconst (by decide +kernel)
theorem k209_17 : qx sc D 209 17 ls (vi x :: vr 136 :: st) u bb σ Q ↔ qx sc D 209 20 ls st u bb (q_up σ 136 72 x) Q := r_putI (idx := 474) (c := 15) (k := 72) (by decide +kernel)
theorem k209_20 : qx sc D 209 20 [vr a, l1, l2] st u bb σ Q ↔ qx sc D 209 21 [vr a, l1, l2] (vr a :: st) u bb σ Q := r_aload_n (k := 0) (by decide +kernel) rfl
theorem k209_21 : qx sc D 209 21 ls st u bb σ Q ↔ qx sc D 209 22 ls (vi 0 :: st) u bb σ Q := r_iconst (by decide +kernel)
theorem k209_22 : qx sc D 209 22 ls (vi x :: vr 136 :: st) u bb σ Q ↔ qx sc D 209 25 ls st u bb (q_up σ 136 73 x) Q := r_putI (idx := 477) (c := 15) (k := 73) (by decide +kernel)
theorem k209_25 : qx sc D 209 25 [vr a, l1, l2] st u bb σ Q ↔ qx sc D 209 26 [vr a, l1, l2] (vr a :: st) u bb σ Q := r_aload_n (k := 0) (by decide +kernel) rfl
theorem k209_26 : qx sc D 209 26 ls st u bb σ Q ↔ qx sc D 209 27 ls (vi 0 :: st) u bb σ Q := r_iconst (by decide +kernel)
theorem k209_27 : qx sc D 209 27 ls (vi x :: vr 136 :: st) u bb σ Q ↔ qx sc D 209 30 ls st u bb (q_up σ 136 74 x) Q := r_putI (idx := 446) (c := 15) (k := 74) (by decide +kernel)
theorem k209_30 : qx sc D 209 30 [vr a, l1, l2] st u bb σ Q ↔ qx sc D 209 31 [vr a, l1, l2] (vr a :: st) u bb σ Q := r_aload_n (k := 0) (by decide +kernel) rfl
theorem k209_31 : qx sc D 209 31 ls st u bb σ Q ↔ qx sc D 209 32 ls (vi 0 :: st) u bb σ Q := r_iconst (by decide +kernel)
theorem k209_32 : qx sc D 209 32 ls (vi x :: vr 136 :: st) u bb σ Q ↔ qx sc D 209 35 ls st u bb (q_up σ 136 75 x) Q := r_putI (idx := 462) (c := 15) (k := 75) (by decide +kernel)
theorem k209_35 : qx sc D 209 35 [vr a, l1, l2] st u bb σ Q ↔ qx sc D 209 36 [vr a, l1, l2] (vr a :: st) u bb σ Q := r_aload_n (k := 0) (by decide +kernel) rfl
theorem k209_36 : qx sc D 209 36 ls st u bb σ Q ↔ qx sc D 209 37 ls (vi 0 :: st) u bb σ Q := r_iconst (by decide +kernel)
theorem k209_37 : qx sc D 209 37 ls (vi x :: vr 136 :: st) u bb σ Q ↔ qx sc D 209 40 ls st u bb (q_up σ 136 76 x) Q := r_putI (idx := 449) (c := 15) (k := 76) (by decide +kernel)
theorem k209_40 : qx sc D 209 40 ls st u bb σ Q ↔ qx sc D 209 41 ls (vi 0 :: st) u bb σ Q := r_iconst (by decide +kernel)
theorem k209_41 : qx sc D 209 41 [l0, l1, l2] (vi x :: st) u bb σ Q ↔ qx sc D 209 42 [l0, l1, vi x] st u bb σ Q := r_istore_n (k := 2) (by decide +kernel) (Nat.le_of_ble_eq_true rfl)
theorem k209_42 : qx sc D 209 42 [l0, l1, vi x] st u bb σ Q ↔ qx sc D 209 43 [l0, l1, vi x] (vi x :: st) u bb σ Q := r_iload_n (k := 2) (by decide +kernel) rfl
theorem k209_43 : qx sc D 209 43 ls st u bb σ Q ↔ qx sc D 209 45 ls (vi 8 :: st) u bb σ Q := r_bipush (by decide +kernel)
theorem k209_45 : qx sc D 209 45 ls (vi b' :: vi a' :: st) u bb σ Q ↔ (a' < b' → qx sc D 209 48 ls st u bb σ Q) ∧ (¬ (a' < b') → qx sc D 209 61 ls st u bb σ Q) := r_ic_ge (off := 16) (t := 61) (by decide +kernel)
theorem k209_48 : qx sc D 209 48 [vr a, l1, l2] st u bb σ Q ↔ qx sc D 209 49 [vr a, l1, l2] (vr a :: st) u bb σ Q := r_aload_n (k := 0) (by decide +kernel) rfl
theorem k209_49 : qx sc D 209 49 ls (vr 136 :: st) u bb σ Q ↔ qx sc D 209 52 ls (vr 183 :: st) u bb σ Q := r_getR (idx := 341) (c := 15) (k := 65) (by decide +kernel)
theorem k209_52 : qx sc D 209 52 [l0, l1, vi x] st u bb σ Q ↔ qx sc D 209 53 [l0, l1, vi x] (vi x :: st) u bb σ Q := r_iload_n (k := 2) (by decide +kernel) rfl
theorem k209_53 : qx sc D 209 53 ls st u bb σ Q ↔ qx sc D 209 54 ls (vi 0 :: st) u bb σ Q := r_iconst (by decide +kernel)
theorem k209_54 : qx sc D 209 54 ls (vi x :: vi i :: vr a :: st) u bb σ Q ↔ (q_ty a = 0 ∧ 0 ≤ i ∧ i < q_ln a) ∧ qx sc D 209 55 ls st u bb (q_up σ a i x) Q := r_iast (by decide +kernel)
theorem k209_55 : qx sc D 209 55 [l0, l1, vi x] st u bb σ Q ↔ q_R (x + 1) ∧ qx sc D 209 58 [l0, l1, vi (x + 1)] st u bb σ Q := r_iinc (k := 2) (n := 1) (by decide +kernel) rfl
theorem k209_58 : qx sc D 209 58 ls st u bb σ Q ↔ qx sc D 209 42 ls st u bb σ Q := r_goto (off := (-16)) (by decide +kernel)
theorem k209_61 : qx sc D 209 61 ls st u bb σ Q ↔ qx sc D 209 62 ls (vi 0 :: st) u bb σ Q := r_iconst (by decide +kernel)
theorem k209_62 : qx sc D 209 62 [l0, l1, l2] (vi x :: st) u bb σ Q ↔ qx sc D 209 63 [l0, l1, vi x] st u bb σ Q := r_istore_n (k := 2) (by decide +kernel) (Nat.le_of_ble_eq_true rfl)
theorem k209_63 : qx sc D 209 63 [l0, l1, vi x] st u bb σ Q ↔ qx sc D 209 64 [l0, l1, vi x] (vi x :: st) u bb σ Q := r_iload_n (k := 2) (by decide +kernel) rfl
theorem k209_64 : qx sc D 209 64 ls st u bb σ Q ↔ qx sc D 209 66 ls (vi 123 :: st) u bb σ Q := r_bipush (by decide +kernel)
theorem k209_66 : qx sc D 209 66 ls (vi b' :: vi a' :: st) u bb σ Q ↔ (a' < b' → qx sc D 209 69 ls st u bb σ Q) ∧ (¬ (a' < b') → qx sc D 209 85 ls st u bb σ Q) := r_ic_ge (off := 19) (t := 85) (by decide +kernel)
theorem k209_69 : qx sc D 209 69 [vr a, l1, l2] st u bb σ Q ↔ qx sc D 209 70 [vr a, l1, l2] (vr a :: st) u bb σ Q := r_aload_n (k := 0) (by decide +kernel) rfl
theorem k209_70 : qx sc D 209 70 ls (vr 136 :: st) u bb σ Q ↔ qx sc D 209 73 ls (vr 184 :: st) u bb σ Q := r_getR (idx := 344) (c := 15) (k := 66) (by decide +kernel)
theorem k209_73 : qx sc D 209 73 [l0, l1, vi x] st u bb σ Q ↔ qx sc D 209 74 [l0, l1, vi x] (vi x :: st) u bb σ Q := r_iload_n (k := 2) (by decide +kernel) rfl
theorem k209_74 : qx sc D 209 74 [l0, l1, vi x] st u bb σ Q ↔ qx sc D 209 75 [l0, l1, vi x] (vi x :: st) u bb σ Q := r_iload_n (k := 2) (by decide +kernel) rfl
theorem k209_75 : qx sc D 209 75 ls st u bb σ Q ↔ qx sc D 209 77 ls (vi 41 :: st) u bb σ Q := r_bipush (by decide +kernel)
theorem k209_77 : qx sc D 209 77 ls (vi b' :: vi a' :: st) u bb σ Q ↔ ((0 ≤ a' ∧ 0 < b') ∧ q_R (a' % b')) ∧ qx sc D 209 78 ls (vi (a' % b') :: st) u bb σ Q := r_irem (by decide +kernel)
theorem k209_78 : qx sc D 209 78 ls (vi x :: vi i :: vr a :: st) u bb σ Q ↔ (q_ty a = 0 ∧ 0 ≤ i ∧ i < q_ln a) ∧ qx sc D 209 79 ls st u bb (q_up σ a i x) Q := r_iast (by decide +kernel)
theorem k209_79 : qx sc D 209 79 [l0, l1, vi x] st u bb σ Q ↔ q_R (x + 1) ∧ qx sc D 209 82 [l0, l1, vi (x + 1)] st u bb σ Q := r_iinc (k := 2) (n := 1) (by decide +kernel) rfl
theorem k209_82 : qx sc D 209 82 ls st u bb σ Q ↔ qx sc D 209 63 ls st u bb σ Q := r_goto (off := (-19)) (by decide +kernel)
theorem k209_85 : qx sc D 209 85 ls st u bb σ Q ↔ qx sc D 209 86 ls (vi 0 :: st) u bb σ Q := r_iconst (by decide +kernel)
theorem k209_86 : qx sc D 209 86 [l0, l1, l2] (vi x :: st) u bb σ Q ↔ qx sc D 209 87 [l0, l1, vi x] st u bb σ Q := r_istore_n (k := 2) (by decide +kernel) (Nat.le_of_ble_eq_true rfl)
theorem k209_87 : qx sc D 209 87 [l0, l1, vi x] st u bb σ Q ↔ qx sc D 209 88 [l0, l1, vi x] (vi x :: st) u bb σ Q := r_iload_n (k := 2) (by decide +kernel) rfl
theorem k209_88 : qx sc D 209 88 ls st u bb σ Q ↔ qx sc D 209 91 ls (vi 700 :: st) u bb σ Q := r_sipush (by decide +kernel)
theorem k209_91 : qx sc D 209 91 ls (vi b' :: vi a' :: st) u bb σ Q ↔ (a' < b' → qx sc D 209 94 ls st u bb σ Q) ∧ (¬ (a' < b') → qx sc D 209 107 ls st u bb σ Q) := r_ic_ge (off := 16) (t := 107) (by decide +kernel)
theorem k209_94 : qx sc D 209 94 [vr a, l1, l2] st u bb σ Q ↔ qx sc D 209 95 [vr a, l1, l2] (vr a :: st) u bb σ Q := r_aload_n (k := 0) (by decide +kernel) rfl
theorem k209_95 : qx sc D 209 95 ls (vr 136 :: st) u bb σ Q ↔ qx sc D 209 98 ls (vr 185 :: st) u bb σ Q := r_getR (idx := 346) (c := 15) (k := 67) (by decide +kernel)
theorem k209_98 : qx sc D 209 98 [l0, l1, vi x] st u bb σ Q ↔ qx sc D 209 99 [l0, l1, vi x] (vi x :: st) u bb σ Q := r_iload_n (k := 2) (by decide +kernel) rfl
theorem k209_99 : qx sc D 209 99 ls st u bb σ Q ↔ qx sc D 209 100 ls (vi 0 :: st) u bb σ Q := r_iconst (by decide +kernel)
theorem k209_100 : qx sc D 209 100 ls (vi x :: vi i :: vr a :: st) u bb σ Q ↔ (q_ty a = 0 ∧ 0 ≤ i ∧ i < q_ln a) ∧ qx sc D 209 101 ls st u bb (q_up σ a i x) Q := r_iast (by decide +kernel)
theorem k209_101 : qx sc D 209 101 [l0, l1, vi x] st u bb σ Q ↔ q_R (x + 1) ∧ qx sc D 209 104 [l0, l1, vi (x + 1)] st u bb σ Q := r_iinc (k := 2) (n := 1) (by decide +kernel) rfl
theorem k209_104 : qx sc D 209 104 ls st u bb σ Q ↔ qx sc D 209 87 ls st u bb σ Q := r_goto (off := (-17)) (by decide +kernel)
theorem k209_107 : qx sc D 209 107 ls st u bb σ Q ↔ qx sc D 209 108 ls (vi 0 :: st) u bb σ Q := r_iconst (by decide +kernel)
theorem k209_108 : qx sc D 209 108 [l0, l1, l2] (vi x :: st) u bb σ Q ↔ qx sc D 209 109 [l0, l1, vi x] st u bb σ Q := r_istore_n (k := 2) (by decide +kernel) (Nat.le_of_ble_eq_true rfl)
theorem k209_109 : qx sc D 209 109 [l0, l1, vi x] st u bb σ Q ↔ qx sc D 209 110 [l0, l1, vi x] (vi x :: st) u bb σ Q := r_iload_n (k := 2) (by decide +kernel) rfl
theorem k209_110 : qx sc D 209 110 ls st u bb σ Q ↔ qx sc D 209 112 ls (vi 40 :: st) u bb σ Q := r_bipush (by decide +kernel)
theorem k209_112 : qx sc D 209 112 ls (vi b' :: vi a' :: st) u bb σ Q ↔ (a' < b' → qx sc D 209 115 ls st u bb σ Q) ∧ (¬ (a' < b') → qx sc D 209 128 ls st u bb σ Q) := r_ic_ge (off := 16) (t := 128) (by decide +kernel)
theorem k209_115 : qx sc D 209 115 [vr a, l1, l2] st u bb σ Q ↔ qx sc D 209 116 [vr a, l1, l2] (vr a :: st) u bb σ Q := r_aload_n (k := 0) (by decide +kernel) rfl
theorem k209_116 : qx sc D 209 116 ls (vr 136 :: st) u bb σ Q ↔ qx sc D 209 119 ls (vr 187 :: st) u bb σ Q := r_getR (idx := 352) (c := 15) (k := 69) (by decide +kernel)
theorem k209_119 : qx sc D 209 119 [l0, l1, vi x] st u bb σ Q ↔ qx sc D 209 120 [l0, l1, vi x] (vi x :: st) u bb σ Q := r_iload_n (k := 2) (by decide +kernel) rfl
theorem k209_120 : qx sc D 209 120 ls st u bb σ Q ↔ qx sc D 209 121 ls (vi 0 :: st) u bb σ Q := r_iconst (by decide +kernel)
theorem k209_121 : qx sc D 209 121 ls (vi x :: vi i :: vr a :: st) u bb σ Q ↔ (((q_ty a = 1 ∧ -128 ≤ x ∧ x ≤ 127) ∨ (q_ty a = 2 ∧ (x = 0 ∨ x = 1))) ∧ 0 ≤ i ∧ i < q_ln a) ∧ qx sc D 209 122 ls st u bb (q_up σ a i x) Q := r_bast (by decide +kernel)
theorem k209_122 : qx sc D 209 122 [l0, l1, vi x] st u bb σ Q ↔ q_R (x + 1) ∧ qx sc D 209 125 [l0, l1, vi (x + 1)] st u bb σ Q := r_iinc (k := 2) (n := 1) (by decide +kernel) rfl
theorem k209_125 : qx sc D 209 125 ls st u bb σ Q ↔ qx sc D 209 109 ls st u bb σ Q := r_goto (off := (-16)) (by decide +kernel)
theorem k209_128 : qx sc D 209 128 ls st u bb σ Q ↔ qx sc D 209 129 ls (vi 0 :: st) u bb σ Q := r_iconst (by decide +kernel)
theorem k209_129 : qx sc D 209 129 [l0, l1, l2] (vi x :: st) u bb σ Q ↔ qx sc D 209 130 [l0, l1, vi x] st u bb σ Q := r_istore_n (k := 2) (by decide +kernel) (Nat.le_of_ble_eq_true rfl)
theorem k209_130 : qx sc D 209 130 [vr a, l1, l2] st u bb σ Q ↔ qx sc D 209 131 [vr a, l1, l2] (vr a :: st) u bb σ Q := r_aload_n (k := 0) (by decide +kernel) rfl
theorem k209_131 : qx sc D 209 131 ls (vr 136 :: st) u bb σ Q ↔ qx sc D 209 134 ls (vi (σ 136 70) :: st) u bb σ Q := r_getI (idx := 468) (c := 15) (k := 70) (by decide +kernel)
theorem k209_134 : qx sc D 209 134 ls st u bb σ Q ↔ qx sc D 209 135 ls (vi (-1) :: st) u bb σ Q := r_iconst (by decide +kernel)
theorem k209_135 : qx sc D 209 135 ls (vi b' :: vi a' :: st) u bb σ Q ↔ (a' = b' → qx sc D 209 138 ls st u bb σ Q) ∧ (¬ (a' = b') → qx sc D 209 163 ls st u bb σ Q) := r_ic_ne (off := 28) (t := 163) (by decide +kernel)
theorem k209_138 : qx sc D 209 138 [l0, l1, vi x] st u bb σ Q ↔ qx sc D 209 139 [l0, l1, vi x] (vi x :: st) u bb σ Q := r_iload_n (k := 2) (by decide +kernel) rfl
theorem k209_139 : qx sc D 209 139 [vr a, l1, l2] st u bb σ Q ↔ qx sc D 209 140 [vr a, l1, l2] (vr a :: st) u bb σ Q := r_aload_n (k := 0) (by decide +kernel) rfl
theorem k209_140 : qx sc D 209 140 ls (vr 136 :: st) u bb σ Q ↔ qx sc D 209 143 ls (vi (σ 136 18) :: st) u bb σ Q := r_getI (idx := 21) (c := 15) (k := 18) (by decide +kernel)
theorem k209_143 : qx sc D 209 143 ls (vi b' :: vi a' :: st) u bb σ Q ↔ (a' = b' → qx sc D 209 146 ls st u bb σ Q) ∧ (¬ (a' = b') → qx sc D 209 154 ls st u bb σ Q) := r_ic_ne (off := 11) (t := 154) (by decide +kernel)
theorem k209_146 : qx sc D 209 146 [vr a, l1, l2] st u bb σ Q ↔ qx sc D 209 147 [vr a, l1, l2] (vr a :: st) u bb σ Q := r_aload_n (k := 0) (by decide +kernel) rfl
theorem k209_147 : qx sc D 209 147 ls st u bb σ Q ↔ qx sc D 209 148 ls (vi 0 :: st) u bb σ Q := r_iconst (by decide +kernel)
theorem k209_148 : qx sc (D + 1) 209 148 ls [vi x0, vr 136] (0, 0) bb σ Q ↔ qx sc D 146 0 [vr 136, vi x0] [] (0, 0) bb σ (q_kn sc (D + 1) 209 151 ls [] (0, 0) Q) := r_callv (idx := 480) (n := 1) (m := 2) (by decide +kernel) rfl (Nat.le_of_ble_eq_true rfl) ⟨Nat.le_of_ble_eq_true rfl, Nat.le_of_ble_eq_true rfl, rfl⟩ rfl
theorem k209_151 : qx sc D 209 151 ls st u bb σ Q ↔ qx sc D 209 159 ls st u bb σ Q := r_goto (off := 8) (by decide +kernel)
theorem k209_154 : qx sc D 209 154 [vr a, l1, l2] st u bb σ Q ↔ qx sc D 209 155 [vr a, l1, l2] (vr a :: st) u bb σ Q := r_aload_n (k := 0) (by decide +kernel) rfl
theorem k209_155 : qx sc D 209 155 [l0, l1, vi x] st u bb σ Q ↔ qx sc D 209 156 [l0, l1, vi x] (vi x :: st) u bb σ Q := r_iload_n (k := 2) (by decide +kernel) rfl
theorem k209_156 : qx sc (D + 1) 209 156 ls [vi x0, vr 136] (0, 0) bb σ Q ↔ qx sc D 143 0 [vr 136, vi x0, vn, vn] [] (0, 0) bb σ (q_kn sc (D + 1) 209 159 ls [] (0, 0) Q) := r_callv (idx := 483) (n := 1) (m := 4) (by decide +kernel) rfl (Nat.le_of_ble_eq_true rfl) ⟨Nat.le_of_ble_eq_true rfl, Nat.le_of_ble_eq_true rfl, rfl⟩ rfl
theorem k209_159 : qx sc D 209 159 [l0, l1, l2] (vi x :: st) u bb σ Q ↔ qx sc D 209 160 [l0, l1, vi x] st u bb σ Q := r_istore_n (k := 2) (by decide +kernel) (Nat.le_of_ble_eq_true rfl)
theorem k209_160 : qx sc D 209 160 ls st u bb σ Q ↔ qx sc D 209 130 ls st u bb σ Q := r_goto (off := (-30)) (by decide +kernel)
theorem k209_163 : qx sc D 209 163 ls [] (0, 0) bb σ Q ↔ Q (.inl none) bb σ := r_retV (by decide +kernel)
-- 210: RowProverModel.saves(IIIZ)I
theorem k210_0 : qx sc D 210 0 [vr a, l1, l2, l3, l4, l5, l6, l7, l8, l9] st u bb σ Q ↔ qx sc D 210 1 [vr a, l1, l2, l3, l4, l5, l6, l7, l8, l9] (vr a :: st) u bb σ Q := r_aload_n (k := 0) (by decide +kernel) rfl
theorem k210_1 : qx sc D 210 1 ls st u bb σ Q ↔ qx sc D 210 2 ls (vi 0 :: st) u bb σ Q := r_iconst (by decide +kernel)
theorem k210_2 : qx sc D 210 2 ls (vi x :: vr 136 :: st) u bb σ Q ↔ qx sc D 210 5 ls st u bb (q_up σ 136 0 x) Q := r_putI (idx := 3) (c := 15) (k := 0) (by decide +kernel)
theorem k210_5 : qx sc D 210 5 [vr a, l1, l2, l3, l4, l5, l6, l7, l8, l9] st u bb σ Q ↔ qx sc D 210 6 [vr a, l1, l2, l3, l4, l5, l6, l7, l8, l9] (vr a :: st) u bb σ Q := r_aload_n (k := 0) (by decide +kernel) rfl
theorem k210_6 : qx sc D 210 6 [l0, vi x, l2, l3, l4, l5, l6, l7, l8, l9] st u bb σ Q ↔ qx sc D 210 7 [l0, vi x, l2, l3, l4, l5, l6, l7, l8, l9] (vi x :: st) u bb σ Q := r_iload_n (k := 1) (by decide +kernel) rfl
theorem k210_7 : qx sc D 210 7 ls st u bb σ Q ↔ qx sc D 210 8 ls (vi 0 :: st) u bb σ Q := r_iconst (by decide +kernel)
theorem k210_8 : qx sc D 210 8 ls st u bb σ Q ↔ qx sc D 210 9 ls (vi 2 :: st) u bb σ Q := r_iconst (by decide +kernel)
theorem k210_9 : qx sc (D + 1) 210 9 ls [vi x2, vi x1, vi x0, vr a20] (0, 0) bb σ Q ↔ qx sc D 157 0 [vi x0, vi x1, vi x2] [] (0, 0) bb σ (q_kn sc (D + 1) 210 12 ls [vr a20] (0, 0) Q) := r_calls (idx := 498) (n := 3) (m := 3) (by decide +kernel) rfl (Nat.le_of_ble_eq_true rfl) ⟨Nat.le_of_ble_eq_true rfl, Nat.le_of_ble_eq_true rfl, rfl⟩ rfl
theorem k210_12 : qx sc D 210 12 ls (vi x :: st) u bb σ Q ↔ (x = 0 → qx sc D 210 44 ls st u bb σ Q) ∧ (¬ (x = 0) → qx sc D 210 15 ls st u bb σ Q) := r_if_eq (off := 32) (t := 44) (by decide +kernel)
theorem k210_15 : qx sc D 210 15 [l0, l1, vi x, l3, l4, l5, l6, l7, l8, l9] st u bb σ Q ↔ qx sc D 210 16 [l0, l1, vi x, l3, l4, l5, l6, l7, l8, l9] (vi x :: st) u bb σ Q := r_iload_n (k := 2) (by decide +kernel) rfl
theorem k210_16 : qx sc D 210 16 ls st u bb σ Q ↔ qx sc D 210 18 ls (vi (-99) :: st) u bb σ Q := r_bipush (by decide +kernel)
theorem k210_18 : qx sc D 210 18 ls st u bb σ Q ↔ qx sc D 210 20 ls (vi 99 :: st) u bb σ Q := r_bipush (by decide +kernel)
theorem k210_20 : qx sc (D + 1) 210 20 ls [vi x2, vi x1, vi x0, vr a20] (0, 0) bb σ Q ↔ qx sc D 157 0 [vi x0, vi x1, vi x2] [] (0, 0) bb σ (q_kn sc (D + 1) 210 23 ls [vr a20] (0, 0) Q) := r_calls (idx := 498) (n := 3) (m := 3) (by decide +kernel) rfl (Nat.le_of_ble_eq_true rfl) ⟨Nat.le_of_ble_eq_true rfl, Nat.le_of_ble_eq_true rfl, rfl⟩ rfl
theorem k210_23 : qx sc D 210 23 ls (vi x :: st) u bb σ Q ↔ (x = 0 → qx sc D 210 44 ls st u bb σ Q) ∧ (¬ (x = 0) → qx sc D 210 26 ls st u bb σ Q) := r_if_eq (off := 21) (t := 44) (by decide +kernel)
theorem k210_26 : qx sc D 210 26 [l0, l1, l2, vi x, l4, l5, l6, l7, l8, l9] st u bb σ Q ↔ qx sc D 210 27 [l0, l1, l2, vi x, l4, l5, l6, l7, l8, l9] (vi x :: st) u bb σ Q := r_iload_n (k := 3) (by decide +kernel) rfl
theorem k210_27 : qx sc D 210 27 [l0, l1, vi x, l3, l4, l5, l6, l7, l8, l9] st u bb σ Q ↔ qx sc D 210 28 [l0, l1, vi x, l3, l4, l5, l6, l7, l8, l9] (vi x :: st) u bb σ Q := r_iload_n (k := 2) (by decide +kernel) rfl
theorem k210_28 : qx sc D 210 28 ls st u bb σ Q ↔ qx sc D 210 30 ls (vi 99 :: st) u bb σ Q := r_bipush (by decide +kernel)
theorem k210_30 : qx sc (D + 1) 210 30 ls [vi x2, vi x1, vi x0, vr a20] (0, 0) bb σ Q ↔ qx sc D 157 0 [vi x0, vi x1, vi x2] [] (0, 0) bb σ (q_kn sc (D + 1) 210 33 ls [vr a20] (0, 0) Q) := r_calls (idx := 498) (n := 3) (m := 3) (by decide +kernel) rfl (Nat.le_of_ble_eq_true rfl) ⟨Nat.le_of_ble_eq_true rfl, Nat.le_of_ble_eq_true rfl, rfl⟩ rfl
theorem k210_33 : qx sc D 210 33 ls (vi x :: st) u bb σ Q ↔ (x = 0 → qx sc D 210 44 ls st u bb σ Q) ∧ (¬ (x = 0) → qx sc D 210 36 ls st u bb σ Q) := r_if_eq (off := 11) (t := 44) (by decide +kernel)
theorem k210_36 : qx sc D 210 36 [l0, l1, l2, vi x, l4, l5, l6, l7, l8, l9] st u bb σ Q ↔ qx sc D 210 37 [l0, l1, l2, vi x, l4, l5, l6, l7, l8, l9] (vi x :: st) u bb σ Q := r_iload_n (k := 3) (by decide +kernel) rfl
theorem k210_37 : qx sc D 210 37 [l0, l1, vi x, l3, l4, l5, l6, l7, l8, l9] st u bb σ Q ↔ qx sc D 210 38 [l0, l1, vi x, l3, l4, l5, l6, l7, l8, l9] (vi x :: st) u bb σ Q := r_iload_n (k := 2) (by decide +kernel) rfl
theorem k210_38 : qx sc D 210 38 ls (vi b' :: vi a' :: st) u bb σ Q ↔ q_R (a' - b') ∧ qx sc D 210 39 ls (vi (a' - b') :: st) u bb σ Q := r_isub (by decide +kernel)
theorem k210_39 : qx sc D 210 39 ls st u bb σ Q ↔ qx sc D 210 41 ls (vi 20 :: st) u bb σ Q := r_bipush (by decide +kernel)
theorem k210_41 : qx sc D 210 41 ls (vi b' :: vi a' :: st) u bb σ Q ↔ (b' < a' → qx sc D 210 44 ls st u bb σ Q) ∧ (¬ (b' < a') → qx sc D 210 48 ls st u bb σ Q) := r_ic_le (off := 7) (t := 48) (by decide +kernel)
theorem k210_44 : qx sc D 210 44 ls st u bb σ Q ↔ qx sc D 210 45 ls (vi 1 :: st) u bb σ Q := r_iconst (by decide +kernel)
theorem k210_45 : qx sc D 210 45 ls st u bb σ Q ↔ qx sc D 210 49 ls st u bb σ Q := r_goto (off := 4) (by decide +kernel)
theorem k210_48 : qx sc D 210 48 ls st u bb σ Q ↔ qx sc D 210 49 ls (vi 0 :: st) u bb σ Q := r_iconst (by decide +kernel)
theorem k210_49 : qx sc D 210 49 ls st u bb σ Q ↔ qx sc D 210 50 ls (vi 1 :: st) u bb σ Q := r_iconst (by decide +kernel)
theorem k210_50 : qx sc (D + 1) 210 50 ls [vi x1, vi x0, vr 136] (0, 0) bb σ Q ↔ qx sc D 224 0 [vr 136, vi x0, vi x1] [] (0, 0) bb σ (q_kn sc (D + 1) 210 53 ls [] (0, 0) Q) := r_callv (idx := 501) (n := 2) (m := 3) (by decide +kernel) rfl (Nat.le_of_ble_eq_true rfl) ⟨Nat.le_of_ble_eq_true rfl, Nat.le_of_ble_eq_true rfl, rfl⟩ rfl
theorem k210_53 : qx sc D 210 53 ls (vi x :: st) u bb σ Q ↔ (x = 0 → qx sc D 210 58 ls st u bb σ Q) ∧ (¬ (x = 0) → qx sc D 210 56 ls st u bb σ Q) := r_if_eq (off := 5) (t := 58) (by decide +kernel)
theorem k210_56 : qx sc D 210 56 ls st u bb σ Q ↔ qx sc D 210 57 ls (vi 0 :: st) u bb σ Q := r_iconst (by decide +kernel)
theorem k210_57 : qx sc D 210 57 ls [vi x] (0, 0) bb σ Q ↔ Q (.inl (some (vi x))) bb σ := r_ret (by decide +kernel)
theorem k210_58 : qx sc D 210 58 [vr a, l1, l2, l3, l4, l5, l6, l7, l8, l9] st u bb σ Q ↔ qx sc D 210 59 [vr a, l1, l2, l3, l4, l5, l6, l7, l8, l9] (vr a :: st) u bb σ Q := r_aload_n (k := 0) (by decide +kernel) rfl
theorem k210_59 : qx sc D 210 59 ls (vr 136 :: st) u bb σ Q ↔ qx sc D 210 62 ls (vr 182 :: st) u bb σ Q := r_getR (idx := 338) (c := 15) (k := 64) (by decide +kernel)
theorem k210_62 : qx sc D 210 62 [l0, vi x, l2, l3, l4, l5, l6, l7, l8, l9] st u bb σ Q ↔ qx sc D 210 63 [l0, vi x, l2, l3, l4, l5, l6, l7, l8, l9] (vi x :: st) u bb σ Q := r_iload_n (k := 1) (by decide +kernel) rfl
theorem k210_63 : qx sc D 210 63 ls (vi i :: vr a :: st) u bb σ Q ↔ (q_ty a = 0 ∧ 0 ≤ i ∧ i < q_ln a) ∧ qx sc D 210 64 ls (vi (σ a i) :: st) u bb σ Q := r_iald (by decide +kernel)
theorem k210_64 : qx sc D 210 64 [l0, l1, l2, l3, l4, l5, l6, l7, l8, l9] (vi x :: st) u bb σ Q ↔ qx sc D 210 66 [l0, l1, l2, l3, l4, vi x, l6, l7, l8, l9] st u bb σ Q := r_istore (k := 5) (by decide +kernel) (Nat.le_of_ble_eq_true rfl)
theorem k210_66 : qx sc D 210 66 ls st u bb σ Q ↔ qx sc D 210 67 ls (vi 0 :: st) u bb σ Q := r_iconst (by decide +kernel)
theorem k210_67 : qx sc D 210 67 [l0, l1, l2, l3, l4, l5, l6, l7, l8, l9] (vi x :: st) u bb σ Q ↔ qx sc D 210 69 [l0, l1, l2, l3, l4, l5, vi x, l7, l8, l9] st u bb σ Q := r_istore (k := 6) (by decide +kernel) (Nat.le_of_ble_eq_true rfl)
theorem k210_69 : qx sc D 210 69 [l0, l1, vi x, l3, l4, l5, l6, l7, l8, l9] st u bb σ Q ↔ qx sc D 210 70 [l0, l1, vi x, l3, l4, l5, l6, l7, l8, l9] (vi x :: st) u bb σ Q := r_iload_n (k := 2) (by decide +kernel) rfl
theorem k210_70 : qx sc D 210 70 [l0, l1, l2, l3, l4, l5, l6, l7, l8, l9] (vi x :: st) u bb σ Q ↔ qx sc D 210 72 [l0, l1, l2, l3, l4, l5, l6, vi x, l8, l9] st u bb σ Q := r_istore (k := 7) (by decide +kernel) (Nat.le_of_ble_eq_true rfl)
theorem k210_72 : qx sc D 210 72 [l0, l1, vi x, l3, l4, l5, l6, l7, l8, l9] st u bb σ Q ↔ qx sc D 210 73 [l0, l1, vi x, l3, l4, l5, l6, l7, l8, l9] (vi x :: st) u bb σ Q := r_iload_n (k := 2) (by decide +kernel) rfl
theorem k210_73 : qx sc D 210 73 [l0, l1, l2, l3, l4, l5, l6, l7, l8, l9] (vi x :: st) u bb σ Q ↔ qx sc D 210 75 [l0, l1, l2, l3, l4, l5, l6, l7, vi x, l9] st u bb σ Q := r_istore (k := 8) (by decide +kernel) (Nat.le_of_ble_eq_true rfl)
theorem k210_75 : qx sc D 210 75 [l0, l1, l2, l3, l4, l5, l6, l7, vi x, l9] st u bb σ Q ↔ qx sc D 210 77 [l0, l1, l2, l3, l4, l5, l6, l7, vi x, l9] (vi x :: st) u bb σ Q := r_iload (k := 8) (by decide +kernel) rfl
theorem k210_77 : qx sc D 210 77 [l0, l1, l2, vi x, l4, l5, l6, l7, l8, l9] st u bb σ Q ↔ qx sc D 210 78 [l0, l1, l2, vi x, l4, l5, l6, l7, l8, l9] (vi x :: st) u bb σ Q := r_iload_n (k := 3) (by decide +kernel) rfl
theorem k210_78 : qx sc D 210 78 ls (vi b' :: vi a' :: st) u bb σ Q ↔ (b' < a' → qx sc D 210 145 ls st u bb σ Q) ∧ (¬ (b' < a') → qx sc D 210 81 ls st u bb σ Q) := r_ic_gt (off := 67) (t := 145) (by decide +kernel)
theorem k210_81 : qx sc D 210 81 [vr a, l1, l2, l3, l4, l5, l6, l7, l8, l9] st u bb σ Q ↔ qx sc D 210 82 [vr a, l1, l2, l3, l4, l5, l6, l7, l8, l9] (vr a :: st) u bb σ Q := r_aload_n (k := 0) (by decide +kernel) rfl
theorem k210_82 : qx sc D 210 82 ls (vr 136 :: st) u bb σ Q ↔ qx sc D 210 85 ls (vr 182 :: st) u bb σ Q := r_getR (idx := 338) (c := 15) (k := 64) (by decide +kernel)
theorem k210_85 : qx sc D 210 85 [l0, vi x, l2, l3, l4, l5, l6, l7, l8, l9] st u bb σ Q ↔ qx sc D 210 86 [l0, vi x, l2, l3, l4, l5, l6, l7, l8, l9] (vi x :: st) u bb σ Q := r_iload_n (k := 1) (by decide +kernel) rfl
theorem k210_86 : qx sc D 210 86 [l0, l1, l2, l3, l4, l5, l6, l7, vi x, l9] st u bb σ Q ↔ qx sc D 210 88 [l0, l1, l2, l3, l4, l5, l6, l7, vi x, l9] (vi x :: st) u bb σ Q := r_iload (k := 8) (by decide +kernel) rfl
theorem k210_88 : qx sc D 210 88 ls (vi x :: vi i :: vr a :: st) u bb σ Q ↔ (q_ty a = 0 ∧ 0 ≤ i ∧ i < q_ln a) ∧ qx sc D 210 89 ls st u bb (q_up σ a i x) Q := r_iast (by decide +kernel)
theorem k210_89 : qx sc D 210 89 [vr a, l1, l2, l3, l4, l5, l6, l7, l8, l9] st u bb σ Q ↔ qx sc D 210 90 [vr a, l1, l2, l3, l4, l5, l6, l7, l8, l9] (vr a :: st) u bb σ Q := r_aload_n (k := 0) (by decide +kernel) rfl
theorem k210_90 : qx sc D 210 90 ls st u bb σ Q ↔ qx sc D 210 91 ls (vi 0 :: st) u bb σ Q := r_iconst (by decide +kernel)
theorem k210_91 : qx sc (D + 1) 210 91 ls [vi x0, vr 136] (0, 0) bb σ Q ↔ qx sc D 209 0 [vr 136, vi x0, vn] [] (0, 0) bb σ (q_kn sc (D + 1) 210 94 ls [] (0, 0) Q) := r_callv (idx := 508) (n := 1) (m := 3) (by decide +kernel) rfl (Nat.le_of_ble_eq_true rfl) ⟨Nat.le_of_ble_eq_true rfl, Nat.le_of_ble_eq_true rfl, rfl⟩ rfl
theorem k210_94 : qx sc D 210 94 [vr a, l1, l2, l3, l4, l5, l6, l7, l8, l9] st u bb σ Q ↔ qx sc D 210 95 [vr a, l1, l2, l3, l4, l5, l6, l7, l8, l9] (vr a :: st) u bb σ Q := r_aload_n (k := 0) (by decide +kernel) rfl
theorem k210_95 : qx sc D 210 95 ls (vr 136 :: st) u bb σ Q ↔ qx sc D 210 98 ls (vi (σ 136 74) :: st) u bb σ Q := r_getI (idx := 446) (c := 15) (k := 74) (by decide +kernel)
theorem k210_98 : qx sc D 210 98 [l0, l1, l2, l3, l4, l5, l6, l7, l8, l9] (vi x :: st) u bb σ Q ↔ qx sc D 210 100 [l0, l1, l2, l3, l4, l5, l6, l7, l8, vi x] st u bb σ Q := r_istore (k := 9) (by decide +kernel) (Nat.le_of_ble_eq_true rfl)
theorem k210_100 : qx sc D 210 100 [vr a, l1, l2, l3, l4, l5, l6, l7, l8, l9] st u bb σ Q ↔ qx sc D 210 101 [vr a, l1, l2, l3, l4, l5, l6, l7, l8, l9] (vr a :: st) u bb σ Q := r_aload_n (k := 0) (by decide +kernel) rfl
theorem k210_101 : qx sc D 210 101 ls st u bb σ Q ↔ qx sc D 210 102 ls (vi 2 :: st) u bb σ Q := r_iconst (by decide +kernel)
theorem k210_102 : qx sc (D + 1) 210 102 ls [vi x0, vr 136] (0, 0) bb σ Q ↔ qx sc D 209 0 [vr 136, vi x0, vn] [] (0, 0) bb σ (q_kn sc (D + 1) 210 105 ls [] (0, 0) Q) := r_callv (idx := 508) (n := 1) (m := 3) (by decide +kernel) rfl (Nat.le_of_ble_eq_true rfl) ⟨Nat.le_of_ble_eq_true rfl, Nat.le_of_ble_eq_true rfl, rfl⟩ rfl
theorem k210_105 : qx sc D 210 105 [l0, l1, l2, l3, l4, l5, l6, l7, vi x, l9] st u bb σ Q ↔ qx sc D 210 107 [l0, l1, l2, l3, l4, l5, l6, l7, vi x, l9] (vi x :: st) u bb σ Q := r_iload (k := 8) (by decide +kernel) rfl
theorem k210_107 : qx sc D 210 107 [l0, l1, vi x, l3, l4, l5, l6, l7, l8, l9] st u bb σ Q ↔ qx sc D 210 108 [l0, l1, vi x, l3, l4, l5, l6, l7, l8, l9] (vi x :: st) u bb σ Q := r_iload_n (k := 2) (by decide +kernel) rfl
theorem k210_108 : qx sc D 210 108 ls (vi b' :: vi a' :: st) u bb σ Q ↔ (b' < a' → qx sc D 210 111 ls st u bb σ Q) ∧ (¬ (b' < a') → qx sc D 210 126 ls st u bb σ Q) := r_ic_le (off := 18) (t := 126) (by decide +kernel)
theorem k210_111 : qx sc D 210 111 [l0, l1, l2, l3, l4, l5, l6, l7, l8, vi x] st u bb σ Q ↔ qx sc D 210 113 [l0, l1, l2, l3, l4, l5, l6, l7, l8, vi x] (vi x :: st) u bb σ Q := r_iload (k := 9) (by decide +kernel) rfl
theorem k210_113 : qx sc D 210 113 [vr a, l1, l2, l3, l4, l5, l6, l7, l8, l9] st u bb σ Q ↔ qx sc D 210 114 [vr a, l1, l2, l3, l4, l5, l6, l7, l8, l9] (vr a :: st) u bb σ Q := r_aload_n (k := 0) (by decide +kernel) rfl
theorem k210_114 : qx sc D 210 114 ls (vr 136 :: st) u bb σ Q ↔ qx sc D 210 117 ls (vi (σ 136 74) :: st) u bb σ Q := r_getI (idx := 446) (c := 15) (k := 74) (by decide +kernel)
theorem k210_117 : qx sc D 210 117 ls (vi b' :: vi a' :: st) u bb σ Q ↔ q_R (a' - b') ∧ qx sc D 210 118 ls (vi (a' - b') :: st) u bb σ Q := r_isub (by decide +kernel)
theorem k210_118 : qx sc D 210 118 [l0, l1, l2, l3, l4, l5, vi x, l7, l8, l9] st u bb σ Q ↔ qx sc D 210 120 [l0, l1, l2, l3, l4, l5, vi x, l7, l8, l9] (vi x :: st) u bb σ Q := r_iload (k := 6) (by decide +kernel) rfl
theorem k210_120 : qx sc D 210 120 ls (vi b' :: vi a' :: st) u bb σ Q ↔ (b' < a' → qx sc D 210 126 ls st u bb σ Q) ∧ (¬ (b' < a') → qx sc D 210 123 ls st u bb σ Q) := r_ic_gt (off := 6) (t := 126) (by decide +kernel)
theorem k210_123 : qx sc D 210 123 ls st u bb σ Q ↔ qx sc D 210 139 ls st u bb σ Q := r_goto (off := 16) (by decide +kernel)
theorem k210_126 : qx sc D 210 126 [l0, l1, l2, l3, l4, l5, l6, l7, l8, vi x] st u bb σ Q ↔ qx sc D 210 128 [l0, l1, l2, l3, l4, l5, l6, l7, l8, vi x] (vi x :: st) u bb σ Q := r_iload (k := 9) (by decide +kernel) rfl
theorem k210_128 : qx sc D 210 128 [vr a, l1, l2, l3, l4, l5, l6, l7, l8, l9] st u bb σ Q ↔ qx sc D 210 129 [vr a, l1, l2, l3, l4, l5, l6, l7, l8, l9] (vr a :: st) u bb σ Q := r_aload_n (k := 0) (by decide +kernel) rfl
theorem k210_129 : qx sc D 210 129 ls (vr 136 :: st) u bb σ Q ↔ qx sc D 210 132 ls (vi (σ 136 74) :: st) u bb σ Q := r_getI (idx := 446) (c := 15) (k := 74) (by decide +kernel)
theorem k210_132 : qx sc D 210 132 ls (vi b' :: vi a' :: st) u bb σ Q ↔ q_R (a' - b') ∧ qx sc D 210 133 ls (vi (a' - b') :: st) u bb σ Q := r_isub (by decide +kernel)
theorem k210_133 : qx sc D 210 133 [l0, l1, l2, l3, l4, l5, l6, l7, l8, l9] (vi x :: st) u bb σ Q ↔ qx sc D 210 135 [l0, l1, l2, l3, l4, l5, vi x, l7, l8, l9] st u bb σ Q := r_istore (k := 6) (by decide +kernel) (Nat.le_of_ble_eq_true rfl)
theorem k210_135 : qx sc D 210 135 [l0, l1, l2, l3, l4, l5, l6, l7, vi x, l9] st u bb σ Q ↔ qx sc D 210 137 [l0, l1, l2, l3, l4, l5, l6, l7, vi x, l9] (vi x :: st) u bb σ Q := r_iload (k := 8) (by decide +kernel) rfl
theorem k210_137 : qx sc D 210 137 [l0, l1, l2, l3, l4, l5, l6, l7, l8, l9] (vi x :: st) u bb σ Q ↔ qx sc D 210 139 [l0, l1, l2, l3, l4, l5, l6, vi x, l8, l9] st u bb σ Q := r_istore (k := 7) (by decide +kernel) (Nat.le_of_ble_eq_true rfl)
theorem k210_139 : qx sc D 210 139 [l0, l1, l2, l3, l4, l5, l6, l7, vi x, l9] st u bb σ Q ↔ q_R (x + 1) ∧ qx sc D 210 142 [l0, l1, l2, l3, l4, l5, l6, l7, vi (x + 1), l9] st u bb σ Q := r_iinc (k := 8) (n := 1) (by decide +kernel) rfl
theorem k210_142 : qx sc D 210 142 ls st u bb σ Q ↔ qx sc D 210 75 ls st u bb σ Q := r_goto (off := (-67)) (by decide +kernel)
theorem k210_145 : qx sc D 210 145 [vr a, l1, l2, l3, l4, l5, l6, l7, l8, l9] st u bb σ Q ↔ qx sc D 210 146 [vr a, l1, l2, l3, l4, l5, l6, l7, l8, l9] (vr a :: st) u bb σ Q := r_aload_n (k := 0) (by decide +kernel) rfl
theorem k210_146 : qx sc D 210 146 ls (vr 136 :: st) u bb σ Q ↔ qx sc D 210 149 ls (vr 182 :: st) u bb σ Q := r_getR (idx := 338) (c := 15) (k := 64) (by decide +kernel)
theorem k210_149 : qx sc D 210 149 [l0, vi x, l2, l3, l4, l5, l6, l7, l8, l9] st u bb σ Q ↔ qx sc D 210 150 [l0, vi x, l2, l3, l4, l5, l6, l7, l8, l9] (vi x :: st) u bb σ Q := r_iload_n (k := 1) (by decide +kernel) rfl
theorem k210_150 : qx sc D 210 150 [l0, l1, l2, l3, l4, vi x, l6, l7, l8, l9] st u bb σ Q ↔ qx sc D 210 152 [l0, l1, l2, l3, l4, vi x, l6, l7, l8, l9] (vi x :: st) u bb σ Q := r_iload (k := 5) (by decide +kernel) rfl
theorem k210_152 : qx sc D 210 152 ls (vi x :: vi i :: vr a :: st) u bb σ Q ↔ (q_ty a = 0 ∧ 0 ≤ i ∧ i < q_ln a) ∧ qx sc D 210 153 ls st u bb (q_up σ a i x) Q := r_iast (by decide +kernel)
theorem k210_153 : qx sc D 210 153 [l0, l1, l2, l3, vi x, l5, l6, l7, l8, l9] st u bb σ Q ↔ qx sc D 210 155 [l0, l1, l2, l3, vi x, l5, l6, l7, l8, l9] (vi x :: st) u bb σ Q := r_iload (k := 4) (by decide +kernel) rfl
theorem k210_155 : qx sc D 210 155 ls (vi x :: st) u bb σ Q ↔ (x = 0 → qx sc D 210 163 ls st u bb σ Q) ∧ (¬ (x = 0) → qx sc D 210 158 ls st u bb σ Q) := r_if_eq (off := 8) (t := 163) (by decide +kernel)
theorem k210_158 : qx sc D 210 158 [l0, l1, l2, l3, l4, l5, vi x, l7, l8, l9] st u bb σ Q ↔ qx sc D 210 160 [l0, l1, l2, l3, l4, l5, vi x, l7, l8, l9] (vi x :: st) u bb σ Q := r_iload (k := 6) (by decide +kernel) rfl
theorem k210_160 : qx sc D 210 160 ls st u bb σ Q ↔ qx sc D 210 165 ls st u bb σ Q := r_goto (off := 5) (by decide +kernel)
theorem k210_163 : qx sc D 210 163 [l0, l1, l2, l3, l4, l5, l6, vi x, l8, l9] st u bb σ Q ↔ qx sc D 210 165 [l0, l1, l2, l3, l4, l5, l6, vi x, l8, l9] (vi x :: st) u bb σ Q := r_iload (k := 7) (by decide +kernel) rfl
theorem k210_165 : qx sc D 210 165 ls [vi x] (0, 0) bb σ Q ↔ Q (.inl (some (vi x))) bb σ := r_ret (by decide +kernel)
-- 211: RowProverModel.shown()I
theorem k211_0 : qx sc D 211 0 ls st u bb σ Q ↔ qx sc D 211 1 ls (vi 0 :: st) u bb σ Q := r_iconst (by decide +kernel)
theorem k211_1 : qx sc D 211 1 [l0, l1, l2] (vi x :: st) u bb σ Q ↔ qx sc D 211 2 [l0, vi x, l2] st u bb σ Q := r_istore_n (k := 1) (by decide +kernel) (Nat.le_of_ble_eq_true rfl)
theorem k211_2 : qx sc D 211 2 ls st u bb σ Q ↔ qx sc D 211 3 ls (vi 0 :: st) u bb σ Q := r_iconst (by decide +kernel)
theorem k211_3 : qx sc D 211 3 [l0, l1, l2] (vi x :: st) u bb σ Q ↔ qx sc D 211 4 [l0, l1, vi x] st u bb σ Q := r_istore_n (k := 2) (by decide +kernel) (Nat.le_of_ble_eq_true rfl)
theorem k211_4 : qx sc D 211 4 [l0, l1, vi x] st u bb σ Q ↔ qx sc D 211 5 [l0, l1, vi x] (vi x :: st) u bb σ Q := r_iload_n (k := 2) (by decide +kernel) rfl
theorem k211_5 : qx sc D 211 5 [vr a, l1, l2] st u bb σ Q ↔ qx sc D 211 6 [vr a, l1, l2] (vr a :: st) u bb σ Q := r_aload_n (k := 0) (by decide +kernel) rfl
theorem k211_6 : qx sc D 211 6 ls (vr 136 :: st) u bb σ Q ↔ qx sc D 211 9 ls (vi (σ 136 16) :: st) u bb σ Q := r_getI (idx := 193) (c := 15) (k := 16) (by decide +kernel)
theorem k211_9 : qx sc D 211 9 ls (vi b' :: vi a' :: st) u bb σ Q ↔ (a' < b' → qx sc D 211 12 ls st u bb σ Q) ∧ (¬ (a' < b') → qx sc D 211 50 ls st u bb σ Q) := r_ic_ge (off := 41) (t := 50) (by decide +kernel)
theorem k211_12 : qx sc D 211 12 [l0, vi x, l2] st u bb σ Q ↔ qx sc D 211 13 [l0, vi x, l2] (vi x :: st) u bb σ Q := r_iload_n (k := 1) (by decide +kernel) rfl
theorem k211_13 : qx sc D 211 13 [vr a, l1, l2] st u bb σ Q ↔ qx sc D 211 14 [vr a, l1, l2] (vr a :: st) u bb σ Q := r_aload_n (k := 0) (by decide +kernel) rfl
theorem k211_14 : qx sc D 211 14 [l0, l1, vi x] st u bb σ Q ↔ qx sc D 211 15 [l0, l1, vi x] (vi x :: st) u bb σ Q := r_iload_n (k := 2) (by decide +kernel) rfl
theorem k211_15 : qx sc D 211 15 ls st u bb σ Q ↔ qx sc D 211 16 ls (vi 0 :: st) u bb σ Q := r_iconst (by decide +kernel)
theorem k211_16 : qx sc (D + 1) 211 16 ls [vi x1, vi x0, vr 136, vi x20] (0, 0) bb σ Q ↔ qx sc D 165 0 [vr 136, vi x0, vi x1, vn] [] (0, 0) bb σ (q_kn sc (D + 1) 211 19 ls [vi x20] (0, 0) Q) := r_callv (idx := 408) (n := 2) (m := 4) (by decide +kernel) rfl (Nat.le_of_ble_eq_true rfl) ⟨Nat.le_of_ble_eq_true rfl, Nat.le_of_ble_eq_true rfl, rfl⟩ rfl
theorem k211_19 : qx sc D 211 19 ls (vi x :: st) u bb σ Q ↔ (x = 0 → qx sc D 211 26 ls st u bb σ Q) ∧ (¬ (x = 0) → qx sc D 211 22 ls st u bb σ Q) := r_if_eq (off := 7) (t := 26) (by decide +kernel)
theorem k211_22 : qx sc D 211 22 ls st u bb σ Q ↔ qx sc D 211 23 ls (vi 1 :: st) u bb σ Q := r_iconst (by decide +kernel)
theorem k211_23 : qx sc D 211 23 ls st u bb σ Q ↔ qx sc D 211 27 ls st u bb σ Q := r_goto (off := 4) (by decide +kernel)
theorem k211_26 : qx sc D 211 26 ls st u bb σ Q ↔ qx sc D 211 27 ls (vi 0 :: st) u bb σ Q := r_iconst (by decide +kernel)
theorem k211_27 : qx sc D 211 27 [vr a, l1, l2] st u bb σ Q ↔ qx sc D 211 28 [vr a, l1, l2] (vr a :: st) u bb σ Q := r_aload_n (k := 0) (by decide +kernel) rfl
theorem k211_28 : qx sc D 211 28 [l0, l1, vi x] st u bb σ Q ↔ qx sc D 211 29 [l0, l1, vi x] (vi x :: st) u bb σ Q := r_iload_n (k := 2) (by decide +kernel) rfl
theorem k211_29 : qx sc D 211 29 ls st u bb σ Q ↔ qx sc D 211 30 ls (vi 1 :: st) u bb σ Q := r_iconst (by decide +kernel)
theorem k211_30 : qx sc (D + 1) 211 30 ls [vi x1, vi x0, vr 136, vi x20, vi x21] (0, 0) bb σ Q ↔ qx sc D 165 0 [vr 136, vi x0, vi x1, vn] [] (0, 0) bb σ (q_kn sc (D + 1) 211 33 ls [vi x20, vi x21] (0, 0) Q) := r_callv (idx := 408) (n := 2) (m := 4) (by decide +kernel) rfl (Nat.le_of_ble_eq_true rfl) ⟨Nat.le_of_ble_eq_true rfl, Nat.le_of_ble_eq_true rfl, rfl⟩ rfl
theorem k211_33 : qx sc D 211 33 ls (vi x :: st) u bb σ Q ↔ (x = 0 → qx sc D 211 40 ls st u bb σ Q) ∧ (¬ (x = 0) → qx sc D 211 36 ls st u bb σ Q) := r_if_eq (off := 7) (t := 40) (by decide +kernel)
theorem k211_36 : qx sc D 211 36 ls st u bb σ Q ↔ qx sc D 211 37 ls (vi 1 :: st) u bb σ Q := r_iconst (by decide +kernel)
theorem k211_37 : qx sc D 211 37 ls st u bb σ Q ↔ qx sc D 211 41 ls st u bb σ Q := r_goto (off := 4) (by decide +kernel)
theorem k211_40 : qx sc D 211 40 ls st u bb σ Q ↔ qx sc D 211 41 ls (vi 0 :: st) u bb σ Q := r_iconst (by decide +kernel)
theorem k211_41 : qx sc D 211 41 ls (vi b' :: vi a' :: st) u bb σ Q ↔ q_R (a' + b') ∧ qx sc D 211 42 ls (vi (a' + b') :: st) u bb σ Q := r_iadd (by decide +kernel)
theorem k211_42 : qx sc D 211 42 ls (vi b' :: vi a' :: st) u bb σ Q ↔ q_R (a' + b') ∧ qx sc D 211 43 ls (vi (a' + b') :: st) u bb σ Q := r_iadd (by decide +kernel)
theorem k211_43 : qx sc D 211 43 [l0, l1, l2] (vi x :: st) u bb σ Q ↔ qx sc D 211 44 [l0, vi x, l2] st u bb σ Q := r_istore_n (k := 1) (by decide +kernel) (Nat.le_of_ble_eq_true rfl)
theorem k211_44 : qx sc D 211 44 [l0, l1, vi x] st u bb σ Q ↔ q_R (x + 1) ∧ qx sc D 211 47 [l0, l1, vi (x + 1)] st u bb σ Q := r_iinc (k := 2) (n := 1) (by decide +kernel) rfl
theorem k211_47 : qx sc D 211 47 ls st u bb σ Q ↔ qx sc D 211 4 ls st u bb σ Q := r_goto (off := (-43)) (by decide +kernel)
theorem k211_50 : qx sc D 211 50 [l0, vi x, l2] st u bb σ Q ↔ qx sc D 211 51 [l0, vi x, l2] (vi x :: st) u bb σ Q := r_iload_n (k := 1) (by decide +kernel) rfl
theorem k211_51 : qx sc D 211 51 ls [vi x] (0, 0) bb σ Q ↔ Q (.inl (some (vi x))) bb σ := r_ret (by decide +kernel)
-- 212: RowProverModel.side(II)V
theorem k212_0 : qx sc D 212 0 ls st u bb σ Q ↔ qx sc D 212 1 ls (vi 2 :: st) u bb σ Q := r_iconst (by decide +kernel)
theorem k212_1 : qx sc D 212 1 [l0, vi x, l2, l3] st u bb σ Q ↔ qx sc D 212 2 [l0, vi x, l2, l3] (vi x :: st) u bb σ Q := r_iload_n (k := 1) (by decide +kernel) rfl
theorem k212_2 : qx sc D 212 2 ls (vi b' :: vi a' :: st) u bb σ Q ↔ q_R (a' * b') ∧ qx sc D 212 3 ls (vi (a' * b') :: st) u bb σ Q := r_imul (by decide +kernel)
theorem k212_3 : qx sc D 212 3 [l0, l1, vi x, l3] st u bb σ Q ↔ qx sc D 212 4 [l0, l1, vi x, l3] (vi x :: st) u bb σ Q := r_iload_n (k := 2) (by decide +kernel) rfl
theorem k212_4 : qx sc D 212 4 ls (vi b' :: vi a' :: st) u bb σ Q ↔ q_R (a' + b') ∧ qx sc D 212 5 ls (vi (a' + b') :: st) u bb σ Q := r_iadd (by decide +kernel)
theorem k212_5 : qx sc D 212 5 [l0, l1, l2, l3] (vi x :: st) u bb σ Q ↔ qx sc D 212 6 [l0, l1, l2, vi x] st u bb σ Q := r_istore_n (k := 3) (by decide +kernel) (Nat.le_of_ble_eq_true rfl)
theorem k212_6 : qx sc D 212 6 [vr a, l1, l2, l3] st u bb σ Q ↔ qx sc D 212 7 [vr a, l1, l2, l3] (vr a :: st) u bb σ Q := r_aload_n (k := 0) (by decide +kernel) rfl
theorem k212_7 : qx sc (D + 1) 212 7 ls [vr 136] (0, 0) bb σ Q ↔ qx sc D 163 0 [vr 136] [] (0, 0) bb σ (q_kn sc (D + 1) 212 10 ls [] (0, 0) Q) := r_callv (idx := 120) (n := 0) (m := 1) (by decide +kernel) rfl (Nat.le_of_ble_eq_true rfl) ⟨Nat.le_of_ble_eq_true rfl, Nat.le_of_ble_eq_true rfl, rfl⟩ rfl
theorem k212_10 : qx sc D 212 10 ls (vi x :: st) u bb σ Q ↔ (x = 0 → qx sc D 212 35 ls st u bb σ Q) ∧ (¬ (x = 0) → qx sc D 212 13 ls st u bb σ Q) := r_if_eq (off := 25) (t := 35) (by decide +kernel)
theorem k212_13 : qx sc D 212 13 [vr a, l1, l2, l3] st u bb σ Q ↔ qx sc D 212 14 [vr a, l1, l2, l3] (vr a :: st) u bb σ Q := r_aload_n (k := 0) (by decide +kernel) rfl
theorem k212_14 : qx sc D 212 14 ls (vr 136 :: st) u bb σ Q ↔ qx sc D 212 17 ls (vr 165 :: st) u bb σ Q := r_getR (idx := 220) (c := 15) (k := 42) (by decide +kernel)
theorem k212_17 : qx sc D 212 17 [l0, l1, l2, vi x] st u bb σ Q ↔ qx sc D 212 18 [l0, l1, l2, vi x] (vi x :: st) u bb σ Q := r_iload_n (k := 3) (by decide +kernel) rfl
theorem k212_18 : qx sc D 212 18 ls st u bb σ Q ↔ qx sc D 212 19 ls (vi 0 :: st) u bb σ Q := r_iconst (by decide +kernel)
theorem k212_19 : qx sc D 212 19 ls (vi x :: vi i :: vr a :: st) u bb σ Q ↔ (q_ty a = 0 ∧ 0 ≤ i ∧ i < q_ln a) ∧ qx sc D 212 20 ls st u bb (q_up σ a i x) Q := r_iast (by decide +kernel)
theorem k212_20 : qx sc D 212 20 [vr a, l1, l2, l3] st u bb σ Q ↔ qx sc D 212 21 [vr a, l1, l2, l3] (vr a :: st) u bb σ Q := r_aload_n (k := 0) (by decide +kernel) rfl
theorem k212_21 : qx sc D 212 21 ls (vr 136 :: st) u bb σ Q ↔ qx sc D 212 24 ls (vr 166 :: st) u bb σ Q := r_getR (idx := 223) (c := 15) (k := 43) (by decide +kernel)
theorem k212_24 : qx sc D 212 24 [l0, l1, l2, vi x] st u bb σ Q ↔ qx sc D 212 25 [l0, l1, l2, vi x] (vi x :: st) u bb σ Q := r_iload_n (k := 3) (by decide +kernel) rfl
theorem k212_25 : qx sc D 212 25 [vr a, l1, l2, l3] st u bb σ Q ↔ qx sc D 212 26 [vr a, l1, l2, l3] (vr a :: st) u bb σ Q := r_aload_n (k := 0) (by decide +kernel) rfl
theorem k212_26 : qx sc D 212 26 ls st u bb σ Q ↔ qx sc D 212 28 ls (vi 99 :: st) u bb σ Q := r_bipush (by decide +kernel)
theorem k212_28 : qx sc (D + 1) 212 28 ls [vi x0, vr 136, vi x20, vr a21] (0, 0) bb σ Q ↔ qx sc D 189 0 [vr 136, vi x0, vn] [] (0, 0) bb σ (q_kn sc (D + 1) 212 31 ls [vi x20, vr a21] (0, 0) Q) := r_callv (idx := 131) (n := 1) (m := 3) (by decide +kernel) rfl (Nat.le_of_ble_eq_true rfl) ⟨Nat.le_of_ble_eq_true rfl, Nat.le_of_ble_eq_true rfl, rfl⟩ rfl
theorem k212_31 : qx sc D 212 31 ls (vi x :: vi i :: vr a :: st) u bb σ Q ↔ (q_ty a = 0 ∧ 0 ≤ i ∧ i < q_ln a) ∧ qx sc D 212 32 ls st u bb (q_up σ a i x) Q := r_iast (by decide +kernel)
theorem k212_32 : qx sc D 212 32 ls st u bb σ Q ↔ qx sc D 212 81 ls st u bb σ Q := r_goto (off := 49) (by decide +kernel)
theorem k212_35 : qx sc D 212 35 [vr a, l1, l2, l3] st u bb σ Q ↔ qx sc D 212 36 [vr a, l1, l2, l3] (vr a :: st) u bb σ Q := r_aload_n (k := 0) (by decide +kernel) rfl
theorem k212_36 : qx sc D 212 36 ls st u bb σ Q ↔ qx sc D 212 38 ls (vi 35 :: st) u bb σ Q := r_bipush (by decide +kernel)
theorem k212_38 : qx sc (D + 1) 212 38 ls [vi x0, vr 136] (0, 0) bb σ Q ↔ qx sc D 219 0 [vr 136, vi x0] [] (0, 0) bb σ (q_kn sc (D + 1) 212 41 ls [] (0, 0) Q) := r_callv (idx := 87) (n := 1) (m := 2) (by decide +kernel) rfl (Nat.le_of_ble_eq_true rfl) ⟨Nat.le_of_ble_eq_true rfl, Nat.le_of_ble_eq_true rfl, rfl⟩ rfl
theorem k212_41 : qx sc D 212 41 ls (vi x :: st) u bb σ Q ↔ (x = 0 → qx sc D 212 64 ls st u bb σ Q) ∧ (¬ (x = 0) → qx sc D 212 44 ls st u bb σ Q) := r_if_eq (off := 23) (t := 64) (by decide +kernel)
theorem k212_44 : qx sc D 212 44 [vr a, l1, l2, l3] st u bb σ Q ↔ qx sc D 212 45 [vr a, l1, l2, l3] (vr a :: st) u bb σ Q := r_aload_n (k := 0) (by decide +kernel) rfl
theorem k212_45 : qx sc D 212 45 ls (vr 136 :: st) u bb σ Q ↔ qx sc D 212 48 ls (vr 165 :: st) u bb σ Q := r_getR (idx := 220) (c := 15) (k := 42) (by decide +kernel)
theorem k212_48 : qx sc D 212 48 [l0, l1, l2, vi x] st u bb σ Q ↔ qx sc D 212 49 [l0, l1, l2, vi x] (vi x :: st) u bb σ Q := r_iload_n (k := 3) (by decide +kernel) rfl
theorem k212_49 : qx sc D 212 49 ls st u bb σ Q ↔ qx sc D 212 50 ls (vi 2 :: st) u bb σ Q := r_iconst (by decide +kernel)
theorem k212_50 : qx sc D 212 50 ls (vi x :: vi i :: vr a :: st) u bb σ Q ↔ (q_ty a = 0 ∧ 0 ≤ i ∧ i < q_ln a) ∧ qx sc D 212 51 ls st u bb (q_up σ a i x) Q := r_iast (by decide +kernel)
theorem k212_51 : qx sc D 212 51 [vr a, l1, l2, l3] st u bb σ Q ↔ qx sc D 212 52 [vr a, l1, l2, l3] (vr a :: st) u bb σ Q := r_aload_n (k := 0) (by decide +kernel) rfl
theorem k212_52 : qx sc D 212 52 ls (vr 136 :: st) u bb σ Q ↔ qx sc D 212 55 ls (vr 166 :: st) u bb σ Q := r_getR (idx := 223) (c := 15) (k := 43) (by decide +kernel)
theorem k212_55 : qx sc D 212 55 [l0, l1, l2, vi x] st u bb σ Q ↔ qx sc D 212 56 [l0, l1, l2, vi x] (vi x :: st) u bb σ Q := r_iload_n (k := 3) (by decide +kernel) rfl
theorem k212_56 : qx sc D 212 56 [vr a, l1, l2, l3] st u bb σ Q ↔ qx sc D 212 57 [vr a, l1, l2, l3] (vr a :: st) u bb σ Q := r_aload_n (k := 0) (by decide +kernel) rfl
theorem k212_57 : qx sc (D + 1) 212 57 ls [vr 136, vi x20, vr a21] (0, 0) bb σ Q ↔ qx sc D 206 0 [vr 136] [] (0, 0) bb σ (q_kn sc (D + 1) 212 60 ls [vi x20, vr a21] (0, 0) Q) := r_callv (idx := 190) (n := 0) (m := 1) (by decide +kernel) rfl (Nat.le_of_ble_eq_true rfl) ⟨Nat.le_of_ble_eq_true rfl, Nat.le_of_ble_eq_true rfl, rfl⟩ rfl
theorem k212_60 : qx sc D 212 60 ls (vi x :: vi i :: vr a :: st) u bb σ Q ↔ (q_ty a = 0 ∧ 0 ≤ i ∧ i < q_ln a) ∧ qx sc D 212 61 ls st u bb (q_up σ a i x) Q := r_iast (by decide +kernel)
theorem k212_61 : qx sc D 212 61 ls st u bb σ Q ↔ qx sc D 212 81 ls st u bb σ Q := r_goto (off := 20) (by decide +kernel)
theorem k212_64 : qx sc D 212 64 [vr a, l1, l2, l3] st u bb σ Q ↔ qx sc D 212 65 [vr a, l1, l2, l3] (vr a :: st) u bb σ Q := r_aload_n (k := 0) (by decide +kernel) rfl
theorem k212_65 : qx sc D 212 65 ls (vr 136 :: st) u bb σ Q ↔ qx sc D 212 68 ls (vr 165 :: st) u bb σ Q := r_getR (idx := 220) (c := 15) (k := 42) (by decide +kernel)
theorem k212_68 : qx sc D 212 68 [l0, l1, l2, vi x] st u bb σ Q ↔ qx sc D 212 69 [l0, l1, l2, vi x] (vi x :: st) u bb σ Q := r_iload_n (k := 3) (by decide +kernel) rfl
theorem k212_69 : qx sc D 212 69 ls st u bb σ Q ↔ qx sc D 212 70 ls (vi 1 :: st) u bb σ Q := r_iconst (by decide +kernel)
theorem k212_70 : qx sc D 212 70 ls (vi x :: vi i :: vr a :: st) u bb σ Q ↔ (q_ty a = 0 ∧ 0 ≤ i ∧ i < q_ln a) ∧ qx sc D 212 71 ls st u bb (q_up σ a i x) Q := r_iast (by decide +kernel)
theorem k212_71 : qx sc D 212 71 [vr a, l1, l2, l3] st u bb σ Q ↔ qx sc D 212 72 [vr a, l1, l2, l3] (vr a :: st) u bb σ Q := r_aload_n (k := 0) (by decide +kernel) rfl
theorem k212_72 : qx sc D 212 72 ls (vr 136 :: st) u bb σ Q ↔ qx sc D 212 75 ls (vr 166 :: st) u bb σ Q := r_getR (idx := 223) (c := 15) (k := 43) (by decide +kernel)
theorem k212_75 : qx sc D 212 75 [l0, l1, l2, vi x] st u bb σ Q ↔ qx sc D 212 76 [l0, l1, l2, vi x] (vi x :: st) u bb σ Q := r_iload_n (k := 3) (by decide +kernel) rfl
theorem k212_76 : qx sc D 212 76 [vr a, l1, l2, l3] st u bb σ Q ↔ qx sc D 212 77 [vr a, l1, l2, l3] (vr a :: st) u bb σ Q := r_aload_n (k := 0) (by decide +kernel) rfl
theorem k212_77 : qx sc (D + 1) 212 77 ls [vr 136, vi x20, vr a21] (0, 0) bb σ Q ↔ qx sc D 228 0 [vr 136] [] (0, 0) bb σ (q_kn sc (D + 1) 212 80 ls [vi x20, vr a21] (0, 0) Q) := r_callv (idx := 183) (n := 0) (m := 1) (by decide +kernel) rfl (Nat.le_of_ble_eq_true rfl) ⟨Nat.le_of_ble_eq_true rfl, Nat.le_of_ble_eq_true rfl, rfl⟩ rfl
theorem k212_80 : qx sc D 212 80 ls (vi x :: vi i :: vr a :: st) u bb σ Q ↔ (q_ty a = 0 ∧ 0 ≤ i ∧ i < q_ln a) ∧ qx sc D 212 81 ls st u bb (q_up σ a i x) Q := r_iast (by decide +kernel)
theorem k212_81 : qx sc D 212 81 ls [] (0, 0) bb σ Q ↔ Q (.inl none) bb σ := r_retV (by decide +kernel)
-- 213: RowProverModel.sideNow(I)I
theorem k213_0 : qx sc D 213 0 [vr a, l1] st u bb σ Q ↔ qx sc D 213 1 [vr a, l1] (vr a :: st) u bb σ Q := r_aload_n (k := 0) (by decide +kernel) rfl
theorem k213_1 : qx sc D 213 1 ls (vr 136 :: st) u bb σ Q ↔ qx sc D 213 4 ls (vr 165 :: st) u bb σ Q := r_getR (idx := 220) (c := 15) (k := 42) (by decide +kernel)
theorem k213_4 : qx sc D 213 4 [l0, vi x] st u bb σ Q ↔ qx sc D 213 5 [l0, vi x] (vi x :: st) u bb σ Q := r_iload_n (k := 1) (by decide +kernel) rfl
theorem k213_5 : qx sc D 213 5 ls (vi i :: vr a :: st) u bb σ Q ↔ (q_ty a = 0 ∧ 0 ≤ i ∧ i < q_ln a) ∧ qx sc D 213 6 ls (vi (σ a i) :: st) u bb σ Q := r_iald (by decide +kernel)
theorem k213_6 : qx sc D 213 6 ls (vi x :: st) u bb σ Q ↔ (x = 0 → qx sc D 213 9 ls st u bb σ Q) ∧ (¬ (x = 0) → qx sc D 213 18 ls st u bb σ Q) := r_if_ne (off := 12) (t := 18) (by decide +kernel)
theorem k213_9 : qx sc D 213 9 [vr a, l1] st u bb σ Q ↔ qx sc D 213 10 [vr a, l1] (vr a :: st) u bb σ Q := r_aload_n (k := 0) (by decide +kernel) rfl
theorem k213_10 : qx sc D 213 10 ls (vr 136 :: st) u bb σ Q ↔ qx sc D 213 13 ls (vr 166 :: st) u bb σ Q := r_getR (idx := 223) (c := 15) (k := 43) (by decide +kernel)
theorem k213_13 : qx sc D 213 13 [l0, vi x] st u bb σ Q ↔ qx sc D 213 14 [l0, vi x] (vi x :: st) u bb σ Q := r_iload_n (k := 1) (by decide +kernel) rfl
theorem k213_14 : qx sc D 213 14 ls (vi i :: vr a :: st) u bb σ Q ↔ (q_ty a = 0 ∧ 0 ≤ i ∧ i < q_ln a) ∧ qx sc D 213 15 ls (vi (σ a i) :: st) u bb σ Q := r_iald (by decide +kernel)
theorem k213_15 : qx sc D 213 15 ls st u bb σ Q ↔ qx sc D 213 52 ls st u bb σ Q := r_goto (off := 37) (by decide +kernel)
theorem k213_18 : qx sc D 213 18 [vr a, l1] st u bb σ Q ↔ qx sc D 213 19 [vr a, l1] (vr a :: st) u bb σ Q := r_aload_n (k := 0) (by decide +kernel) rfl
theorem k213_19 : qx sc D 213 19 ls (vr 136 :: st) u bb σ Q ↔ qx sc D 213 22 ls (vr 165 :: st) u bb σ Q := r_getR (idx := 220) (c := 15) (k := 42) (by decide +kernel)
theorem k213_22 : qx sc D 213 22 [l0, vi x] st u bb σ Q ↔ qx sc D 213 23 [l0, vi x] (vi x :: st) u bb σ Q := r_iload_n (k := 1) (by decide +kernel) rfl
theorem k213_23 : qx sc D 213 23 ls (vi i :: vr a :: st) u bb σ Q ↔ (q_ty a = 0 ∧ 0 ≤ i ∧ i < q_ln a) ∧ qx sc D 213 24 ls (vi (σ a i) :: st) u bb σ Q := r_iald (by decide +kernel)
theorem k213_24 : qx sc D 213 24 ls st u bb σ Q ↔ qx sc D 213 25 ls (vi 2 :: st) u bb σ Q := r_iconst (by decide +kernel)
theorem k213_25 : qx sc D 213 25 ls (vi b' :: vi a' :: st) u bb σ Q ↔ (a' = b' → qx sc D 213 28 ls st u bb σ Q) ∧ (¬ (a' = b') → qx sc D 213 41 ls st u bb σ Q) := r_ic_ne (off := 16) (t := 41) (by decide +kernel)
theorem k213_28 : qx sc D 213 28 [vr a, l1] st u bb σ Q ↔ qx sc D 213 29 [vr a, l1] (vr a :: st) u bb σ Q := r_aload_n (k := 0) (by decide +kernel) rfl
theorem k213_29 : qx sc D 213 29 [vr a, l1] st u bb σ Q ↔ qx sc D 213 30 [vr a, l1] (vr a :: st) u bb σ Q := r_aload_n (k := 0) (by decide +kernel) rfl
theorem k213_30 : qx sc D 213 30 ls (vr 136 :: st) u bb σ Q ↔ qx sc D 213 33 ls (vr 166 :: st) u bb σ Q := r_getR (idx := 223) (c := 15) (k := 43) (by decide +kernel)
theorem k213_33 : qx sc D 213 33 [l0, vi x] st u bb σ Q ↔ qx sc D 213 34 [l0, vi x] (vi x :: st) u bb σ Q := r_iload_n (k := 1) (by decide +kernel) rfl
theorem k213_34 : qx sc D 213 34 ls (vi i :: vr a :: st) u bb σ Q ↔ (q_ty a = 0 ∧ 0 ≤ i ∧ i < q_ln a) ∧ qx sc D 213 35 ls (vi (σ a i) :: st) u bb σ Q := r_iald (by decide +kernel)
theorem k213_35 : qx sc (D + 1) 213 35 ls [vi x0, vr 136] (0, 0) bb σ Q ↔ qx sc D 176 0 [vr 136, vi x0] [] (0, 0) bb σ (q_kn sc (D + 1) 213 38 ls [] (0, 0) Q) := r_callv (idx := 440) (n := 1) (m := 2) (by decide +kernel) rfl (Nat.le_of_ble_eq_true rfl) ⟨Nat.le_of_ble_eq_true rfl, Nat.le_of_ble_eq_true rfl, rfl⟩ rfl
theorem k213_38 : qx sc D 213 38 ls st u bb σ Q ↔ qx sc D 213 52 ls st u bb σ Q := r_goto (off := 14) (by decide +kernel)
theorem k213_41 : qx sc D 213 41 [vr a, l1] st u bb σ Q ↔ qx sc D 213 42 [vr a, l1] (vr a :: st) u bb σ Q := r_aload_n (k := 0) (by decide +kernel) rfl
theorem k213_42 : qx sc D 213 42 ls (vr 136 :: st) u bb σ Q ↔ qx sc D 213 45 ls (vr 183 :: st) u bb σ Q := r_getR (idx := 341) (c := 15) (k := 65) (by decide +kernel)
theorem k213_45 : qx sc D 213 45 [vr a, l1] st u bb σ Q ↔ qx sc D 213 46 [vr a, l1] (vr a :: st) u bb σ Q := r_aload_n (k := 0) (by decide +kernel) rfl
theorem k213_46 : qx sc D 213 46 ls (vr 136 :: st) u bb σ Q ↔ qx sc D 213 49 ls (vr 166 :: st) u bb σ Q := r_getR (idx := 223) (c := 15) (k := 43) (by decide +kernel)
theorem k213_49 : qx sc D 213 49 [l0, vi x] st u bb σ Q ↔ qx sc D 213 50 [l0, vi x] (vi x :: st) u bb σ Q := r_iload_n (k := 1) (by decide +kernel) rfl
theorem k213_50 : qx sc D 213 50 ls (vi i :: vr a :: st) u bb σ Q ↔ (q_ty a = 0 ∧ 0 ≤ i ∧ i < q_ln a) ∧ qx sc D 213 51 ls (vi (σ a i) :: st) u bb σ Q := r_iald (by decide +kernel)
theorem k213_51 : qx sc D 213 51 ls (vi i :: vr a :: st) u bb σ Q ↔ (q_ty a = 0 ∧ 0 ≤ i ∧ i < q_ln a) ∧ qx sc D 213 52 ls (vi (σ a i) :: st) u bb σ Q := r_iald (by decide +kernel)
theorem k213_52 : qx sc D 213 52 ls [vi x] (0, 0) bb σ Q ↔ Q (.inl (some (vi x))) bb σ := r_ret (by decide +kernel)
-- 214: RowProverModel.sideOfTest(I)I
theorem k214_0 : qx sc D 214 0 [vr a, l1, l2, l3, l4] st u bb σ Q ↔ qx sc D 214 1 [vr a, l1, l2, l3, l4] (vr a :: st) u bb σ Q := r_aload_n (k := 0) (by decide +kernel) rfl
theorem k214_1 : qx sc D 214 1 ls (vr 136 :: st) u bb σ Q ↔ qx sc D 214 4 ls (vr 149 :: st) u bb σ Q := r_getR (idx := 39) (c := 15) (k := 26) (by decide +kernel)
theorem k214_4 : qx sc D 214 4 [l0, vi x, l2, l3, l4] st u bb σ Q ↔ qx sc D 214 5 [l0, vi x, l2, l3, l4] (vi x :: st) u bb σ Q := r_iload_n (k := 1) (by decide +kernel) rfl
theorem k214_5 : qx sc D 214 5 ls (vi i :: vr a :: st) u bb σ Q ↔ (q_ty a = 0 ∧ 0 ≤ i ∧ i < q_ln a) ∧ qx sc D 214 6 ls (vi (σ a i) :: st) u bb σ Q := r_iald (by decide +kernel)
theorem k214_6 : qx sc D 214 6 [l0, l1, l2, l3, l4] (vi x :: st) u bb σ Q ↔ qx sc D 214 7 [l0, l1, vi x, l3, l4] st u bb σ Q := r_istore_n (k := 2) (by decide +kernel) (Nat.le_of_ble_eq_true rfl)
theorem k214_7 : qx sc D 214 7 [vr a, l1, l2, l3, l4] st u bb σ Q ↔ qx sc D 214 8 [vr a, l1, l2, l3, l4] (vr a :: st) u bb σ Q := r_aload_n (k := 0) (by decide +kernel) rfl
theorem k214_8 : qx sc D 214 8 ls (vr 136 :: st) u bb σ Q ↔ qx sc D 214 11 ls (vr 165 :: st) u bb σ Q := r_getR (idx := 220) (c := 15) (k := 42) (by decide +kernel)
theorem k214_11 : qx sc D 214 11 ls st u bb σ Q ↔ qx sc D 214 12 ls (vi 2 :: st) u bb σ Q := r_iconst (by decide +kernel)
theorem k214_12 : qx sc D 214 12 [l0, l1, vi x, l3, l4] st u bb σ Q ↔ qx sc D 214 13 [l0, l1, vi x, l3, l4] (vi x :: st) u bb σ Q := r_iload_n (k := 2) (by decide +kernel) rfl
theorem k214_13 : qx sc D 214 13 ls (vi b' :: vi a' :: st) u bb σ Q ↔ q_R (a' * b') ∧ qx sc D 214 14 ls (vi (a' * b') :: st) u bb σ Q := r_imul (by decide +kernel)
theorem k214_14 : qx sc D 214 14 ls (vi i :: vr a :: st) u bb σ Q ↔ (q_ty a = 0 ∧ 0 ≤ i ∧ i < q_ln a) ∧ qx sc D 214 15 ls (vi (σ a i) :: st) u bb σ Q := r_iald (by decide +kernel)
theorem k214_15 : qx sc D 214 15 ls st u bb σ Q ↔ qx sc D 214 16 ls (vi 1 :: st) u bb σ Q := r_iconst (by decide +kernel)
theorem k214_16 : qx sc D 214 16 ls (vi b' :: vi a' :: st) u bb σ Q ↔ (a' = b' → qx sc D 214 19 ls st u bb σ Q) ∧ (¬ (a' = b') → qx sc D 214 40 ls st u bb σ Q) := r_ic_ne (off := 24) (t := 40) (by decide +kernel)
theorem k214_19 : qx sc D 214 19 [vr a, l1, l2, l3, l4] st u bb σ Q ↔ qx sc D 214 20 [vr a, l1, l2, l3, l4] (vr a :: st) u bb σ Q := r_aload_n (k := 0) (by decide +kernel) rfl
theorem k214_20 : qx sc D 214 20 ls (vr 136 :: st) u bb σ Q ↔ qx sc D 214 23 ls (vr 147 :: st) u bb σ Q := r_getR (idx := 33) (c := 15) (k := 24) (by decide +kernel)
theorem k214_23 : qx sc D 214 23 [l0, vi x, l2, l3, l4] st u bb σ Q ↔ qx sc D 214 24 [l0, vi x, l2, l3, l4] (vi x :: st) u bb σ Q := r_iload_n (k := 1) (by decide +kernel) rfl
theorem k214_24 : qx sc D 214 24 ls (vi i :: vr a :: st) u bb σ Q ↔ (q_ty a = 0 ∧ 0 ≤ i ∧ i < q_ln a) ∧ qx sc D 214 25 ls (vi (σ a i) :: st) u bb σ Q := r_iald (by decide +kernel)
theorem k214_25 : qx sc D 214 25 [vr a, l1, l2, l3, l4] st u bb σ Q ↔ qx sc D 214 26 [vr a, l1, l2, l3, l4] (vr a :: st) u bb σ Q := r_aload_n (k := 0) (by decide +kernel) rfl
theorem k214_26 : qx sc D 214 26 ls (vr 136 :: st) u bb σ Q ↔ qx sc D 214 29 ls (vr 166 :: st) u bb σ Q := r_getR (idx := 223) (c := 15) (k := 43) (by decide +kernel)
theorem k214_29 : qx sc D 214 29 ls st u bb σ Q ↔ qx sc D 214 30 ls (vi 2 :: st) u bb σ Q := r_iconst (by decide +kernel)
theorem k214_30 : qx sc D 214 30 [l0, l1, vi x, l3, l4] st u bb σ Q ↔ qx sc D 214 31 [l0, l1, vi x, l3, l4] (vi x :: st) u bb σ Q := r_iload_n (k := 2) (by decide +kernel) rfl
theorem k214_31 : qx sc D 214 31 ls (vi b' :: vi a' :: st) u bb σ Q ↔ q_R (a' * b') ∧ qx sc D 214 32 ls (vi (a' * b') :: st) u bb σ Q := r_imul (by decide +kernel)
theorem k214_32 : qx sc D 214 32 ls (vi i :: vr a :: st) u bb σ Q ↔ (q_ty a = 0 ∧ 0 ≤ i ∧ i < q_ln a) ∧ qx sc D 214 33 ls (vi (σ a i) :: st) u bb σ Q := r_iald (by decide +kernel)
theorem k214_33 : qx sc D 214 33 ls (vi b' :: vi a' :: st) u bb σ Q ↔ (a' = b' → qx sc D 214 36 ls st u bb σ Q) ∧ (¬ (a' = b') → qx sc D 214 40 ls st u bb σ Q) := r_ic_ne (off := 7) (t := 40) (by decide +kernel)
theorem k214_36 : qx sc D 214 36 ls st u bb σ Q ↔ qx sc D 214 37 ls (vi 1 :: st) u bb σ Q := r_iconst (by decide +kernel)
theorem k214_37 : qx sc D 214 37 ls st u bb σ Q ↔ qx sc D 214 41 ls st u bb σ Q := r_goto (off := 4) (by decide +kernel)
theorem k214_40 : qx sc D 214 40 ls st u bb σ Q ↔ qx sc D 214 41 ls (vi 0 :: st) u bb σ Q := r_iconst (by decide +kernel)
theorem k214_41 : qx sc D 214 41 [l0, l1, l2, l3, l4] (vi x :: st) u bb σ Q ↔ qx sc D 214 42 [l0, l1, l2, vi x, l4] st u bb σ Q := r_istore_n (k := 3) (by decide +kernel) (Nat.le_of_ble_eq_true rfl)
theorem k214_42 : qx sc D 214 42 [l0, l1, l2, vi x, l4] st u bb σ Q ↔ qx sc D 214 43 [l0, l1, l2, vi x, l4] (vi x :: st) u bb σ Q := r_iload_n (k := 3) (by decide +kernel) rfl
theorem k214_43 : qx sc D 214 43 ls (vi x :: st) u bb σ Q ↔ (x = 0 → qx sc D 214 54 ls st u bb σ Q) ∧ (¬ (x = 0) → qx sc D 214 46 ls st u bb σ Q) := r_if_eq (off := 11) (t := 54) (by decide +kernel)
theorem k214_46 : qx sc D 214 46 ls st u bb σ Q ↔ qx sc D 214 47 ls (vi 2 :: st) u bb σ Q := r_iconst (by decide +kernel)
theorem k214_47 : qx sc D 214 47 [l0, l1, vi x, l3, l4] st u bb σ Q ↔ qx sc D 214 48 [l0, l1, vi x, l3, l4] (vi x :: st) u bb σ Q := r_iload_n (k := 2) (by decide +kernel) rfl
theorem k214_48 : qx sc D 214 48 ls (vi b' :: vi a' :: st) u bb σ Q ↔ q_R (a' * b') ∧ qx sc D 214 49 ls (vi (a' * b') :: st) u bb σ Q := r_imul (by decide +kernel)
theorem k214_49 : qx sc D 214 49 ls st u bb σ Q ↔ qx sc D 214 50 ls (vi 1 :: st) u bb σ Q := r_iconst (by decide +kernel)
theorem k214_50 : qx sc D 214 50 ls (vi b' :: vi a' :: st) u bb σ Q ↔ q_R (a' + b') ∧ qx sc D 214 51 ls (vi (a' + b') :: st) u bb σ Q := r_iadd (by decide +kernel)
theorem k214_51 : qx sc D 214 51 ls st u bb σ Q ↔ qx sc D 214 57 ls st u bb σ Q := r_goto (off := 6) (by decide +kernel)
theorem k214_54 : qx sc D 214 54 ls st u bb σ Q ↔ qx sc D 214 55 ls (vi 2 :: st) u bb σ Q := r_iconst (by decide +kernel)
theorem k214_55 : qx sc D 214 55 [l0, l1, vi x, l3, l4] st u bb σ Q ↔ qx sc D 214 56 [l0, l1, vi x, l3, l4] (vi x :: st) u bb σ Q := r_iload_n (k := 2) (by decide +kernel) rfl
theorem k214_56 : qx sc D 214 56 ls (vi b' :: vi a' :: st) u bb σ Q ↔ q_R (a' * b') ∧ qx sc D 214 57 ls (vi (a' * b') :: st) u bb σ Q := r_imul (by decide +kernel)
theorem k214_57 : qx sc D 214 57 [l0, l1, l2, l3, l4] (vi x :: st) u bb σ Q ↔ qx sc D 214 59 [l0, l1, l2, l3, vi x] st u bb σ Q := r_istore (k := 4) (by decide +kernel) (Nat.le_of_ble_eq_true rfl)
theorem k214_59 : qx sc D 214 59 [vr a, l1, l2, l3, l4] st u bb σ Q ↔ qx sc D 214 60 [vr a, l1, l2, l3, l4] (vr a :: st) u bb σ Q := r_aload_n (k := 0) (by decide +kernel) rfl
theorem k214_60 : qx sc D 214 60 ls (vr 136 :: st) u bb σ Q ↔ qx sc D 214 63 ls (vr 165 :: st) u bb σ Q := r_getR (idx := 220) (c := 15) (k := 42) (by decide +kernel)
theorem k214_63 : qx sc D 214 63 [l0, l1, l2, l3, vi x] st u bb σ Q ↔ qx sc D 214 65 [l0, l1, l2, l3, vi x] (vi x :: st) u bb σ Q := r_iload (k := 4) (by decide +kernel) rfl
theorem k214_65 : qx sc D 214 65 ls (vi i :: vr a :: st) u bb σ Q ↔ (q_ty a = 0 ∧ 0 ≤ i ∧ i < q_ln a) ∧ qx sc D 214 66 ls (vi (σ a i) :: st) u bb σ Q := r_iald (by decide +kernel)
theorem k214_66 : qx sc D 214 66 ls (vi x :: st) u bb σ Q ↔ (x = 0 → qx sc D 214 69 ls st u bb σ Q) ∧ (¬ (x = 0) → qx sc D 214 75 ls st u bb σ Q) := r_if_ne (off := 9) (t := 75) (by decide +kernel)
theorem k214_69 : qx sc D 214 69 ls st u bb σ Q ↔ qx sc D 214 72 ls (vi 1001 :: st) u bb σ Q := r_sipush (by decide +kernel)
theorem k214_72 : qx sc D 214 72 ls st u bb σ Q ↔ qx sc D 214 99 ls st u bb σ Q := r_goto (off := 27) (by decide +kernel)
theorem k214_75 : qx sc D 214 75 [vr a, l1, l2, l3, l4] st u bb σ Q ↔ qx sc D 214 76 [vr a, l1, l2, l3, l4] (vr a :: st) u bb σ Q := r_aload_n (k := 0) (by decide +kernel) rfl
theorem k214_76 : qx sc D 214 76 ls (vr 136 :: st) u bb σ Q ↔ qx sc D 214 79 ls (vr 165 :: st) u bb σ Q := r_getR (idx := 220) (c := 15) (k := 42) (by decide +kernel)
theorem k214_79 : qx sc D 214 79 [l0, l1, l2, l3, vi x] st u bb σ Q ↔ qx sc D 214 81 [l0, l1, l2, l3, vi x] (vi x :: st) u bb σ Q := r_iload (k := 4) (by decide +kernel) rfl
theorem k214_81 : qx sc D 214 81 ls (vi i :: vr a :: st) u bb σ Q ↔ (q_ty a = 0 ∧ 0 ≤ i ∧ i < q_ln a) ∧ qx sc D 214 82 ls (vi (σ a i) :: st) u bb σ Q := r_iald (by decide +kernel)
theorem k214_82 : qx sc D 214 82 ls st u bb σ Q ↔ qx sc D 214 83 ls (vi 2 :: st) u bb σ Q := r_iconst (by decide +kernel)
theorem k214_83 : qx sc D 214 83 ls (vi b' :: vi a' :: st) u bb σ Q ↔ (a' = b' → qx sc D 214 86 ls st u bb σ Q) ∧ (¬ (a' = b') → qx sc D 214 92 ls st u bb σ Q) := r_ic_ne (off := 9) (t := 92) (by decide +kernel)
theorem k214_86 : qx sc D 214 86 ls st u bb σ Q ↔ qx sc D 214 89 ls (vi 1000 :: st) u bb σ Q := r_sipush (by decide +kernel)
theorem k214_89 : qx sc D 214 89 ls st u bb σ Q ↔ qx sc D 214 99 ls st u bb σ Q := r_goto (off := 10) (by decide +kernel)
theorem k214_92 : qx sc D 214 92 [vr a, l1, l2, l3, l4] st u bb σ Q ↔ qx sc D 214 93 [vr a, l1, l2, l3, l4] (vr a :: st) u bb σ Q := r_aload_n (k := 0) (by decide +kernel) rfl
theorem k214_93 : qx sc D 214 93 ls (vr 136 :: st) u bb σ Q ↔ qx sc D 214 96 ls (vr 167 :: st) u bb σ Q := r_getR (idx := 233) (c := 15) (k := 44) (by decide +kernel)
theorem k214_96 : qx sc D 214 96 [l0, l1, l2, l3, vi x] st u bb σ Q ↔ qx sc D 214 98 [l0, l1, l2, l3, vi x] (vi x :: st) u bb σ Q := r_iload (k := 4) (by decide +kernel) rfl
theorem k214_98 : qx sc D 214 98 ls (vi i :: vr a :: st) u bb σ Q ↔ (q_ty a = 0 ∧ 0 ≤ i ∧ i < q_ln a) ∧ qx sc D 214 99 ls (vi (σ a i) :: st) u bb σ Q := r_iald (by decide +kernel)
theorem k214_99 : qx sc D 214 99 ls [vi x] (0, 0) bb σ Q ↔ Q (.inl (some (vi x))) bb σ := r_ret (by decide +kernel)
-- 215: RowProverModel.stands(IZ)I
theorem k215_0 : qx sc D 215 0 [vr a, l1, l2] st u bb σ Q ↔ qx sc D 215 1 [vr a, l1, l2] (vr a :: st) u bb σ Q := r_aload_n (k := 0) (by decide +kernel) rfl
theorem k215_1 : qx sc D 215 1 ls st u bb σ Q ↔ qx sc D 215 2 ls (vi 0 :: st) u bb σ Q := r_iconst (by decide +kernel)
theorem k215_2 : qx sc D 215 2 ls (vi x :: vr 136 :: st) u bb σ Q ↔ qx sc D 215 5 ls st u bb (q_up σ 136 0 x) Q := r_putI (idx := 3) (c := 15) (k := 0) (by decide +kernel)
theorem k215_5 : qx sc D 215 5 [vr a, l1, l2] st u bb σ Q ↔ qx sc D 215 6 [vr a, l1, l2] (vr a :: st) u bb σ Q := r_aload_n (k := 0) (by decide +kernel) rfl
theorem k215_6 : qx sc D 215 6 [l0, vi x, l2] st u bb σ Q ↔ qx sc D 215 7 [l0, vi x, l2] (vi x :: st) u bb σ Q := r_iload_n (k := 1) (by decide +kernel) rfl
theorem k215_7 : qx sc (D + 1) 215 7 ls [vi x0, vr 136] (0, 0) bb σ Q ↔ qx sc D 187 0 [vr 136, vi x0] [] (0, 0) bb σ (q_kn sc (D + 1) 215 10 ls [] (0, 0) Q) := r_callv (idx := 514) (n := 1) (m := 2) (by decide +kernel) rfl (Nat.le_of_ble_eq_true rfl) ⟨Nat.le_of_ble_eq_true rfl, Nat.le_of_ble_eq_true rfl, rfl⟩ rfl
theorem k215_10 : qx sc D 215 10 ls (vi x :: st) u bb σ Q ↔ (x = 0 → qx sc D 215 17 ls st u bb σ Q) ∧ (¬ (x = 0) → qx sc D 215 13 ls st u bb σ Q) := r_if_eq (off := 7) (t := 17) (by decide +kernel)
theorem k215_13 : qx sc D 215 13 ls st u bb σ Q ↔ qx sc D 215 14 ls (vi 0 :: st) u bb σ Q := r_iconst (by decide +kernel)
theorem k215_14 : qx sc D 215 14 ls st u bb σ Q ↔ qx sc D 215 36 ls st u bb σ Q := r_goto (off := 22) (by decide +kernel)
theorem k215_17 : qx sc D 215 17 [l0, l1, vi x] st u bb σ Q ↔ qx sc D 215 18 [l0, l1, vi x] (vi x :: st) u bb σ Q := r_iload_n (k := 2) (by decide +kernel) rfl
theorem k215_18 : qx sc D 215 18 ls (vi x :: st) u bb σ Q ↔ (x = 0 → qx sc D 215 30 ls st u bb σ Q) ∧ (¬ (x = 0) → qx sc D 215 21 ls st u bb σ Q) := r_if_eq (off := 12) (t := 30) (by decide +kernel)
theorem k215_21 : qx sc D 215 21 [vr a, l1, l2] st u bb σ Q ↔ qx sc D 215 22 [vr a, l1, l2] (vr a :: st) u bb σ Q := r_aload_n (k := 0) (by decide +kernel) rfl
theorem k215_22 : qx sc D 215 22 ls (vr 136 :: st) u bb σ Q ↔ qx sc D 215 25 ls (vr 175 :: st) u bb σ Q := r_getR (idx := 316) (c := 15) (k := 56) (by decide +kernel)
theorem k215_25 : qx sc D 215 25 [l0, vi x, l2] st u bb σ Q ↔ qx sc D 215 26 [l0, vi x, l2] (vi x :: st) u bb σ Q := r_iload_n (k := 1) (by decide +kernel) rfl
theorem k215_26 : qx sc D 215 26 ls (vi i :: vr a :: st) u bb σ Q ↔ (q_ty a = 0 ∧ 0 ≤ i ∧ i < q_ln a) ∧ qx sc D 215 27 ls (vi (σ a i) :: st) u bb σ Q := r_iald (by decide +kernel)
theorem k215_27 : qx sc D 215 27 ls st u bb σ Q ↔ qx sc D 215 36 ls st u bb σ Q := r_goto (off := 9) (by decide +kernel)
theorem k215_30 : qx sc D 215 30 [vr a, l1, l2] st u bb σ Q ↔ qx sc D 215 31 [vr a, l1, l2] (vr a :: st) u bb σ Q := r_aload_n (k := 0) (by decide +kernel) rfl
theorem k215_31 : qx sc D 215 31 ls (vr 136 :: st) u bb σ Q ↔ qx sc D 215 34 ls (vr 174 :: st) u bb σ Q := r_getR (idx := 313) (c := 15) (k := 55) (by decide +kernel)
theorem k215_34 : qx sc D 215 34 [l0, vi x, l2] st u bb σ Q ↔ qx sc D 215 35 [l0, vi x, l2] (vi x :: st) u bb σ Q := r_iload_n (k := 1) (by decide +kernel) rfl
theorem k215_35 : qx sc D 215 35 ls (vi i :: vr a :: st) u bb σ Q ↔ (q_ty a = 0 ∧ 0 ≤ i ∧ i < q_ln a) ∧ qx sc D 215 36 ls (vi (σ a i) :: st) u bb σ Q := r_iald (by decide +kernel)
theorem k215_36 : qx sc D 215 36 ls [vi x] (0, 0) bb σ Q ↔ Q (.inl (some (vi x))) bb σ := r_ret (by decide +kernel)
-- 216: RowProverModel.statement(II)I
theorem k216_0 : qx sc D 216 0 [vr a, l1, l2] st u bb σ Q ↔ qx sc D 216 1 [vr a, l1, l2] (vr a :: st) u bb σ Q := r_aload_n (k := 0) (by decide +kernel) rfl
theorem k216_1 : qx sc D 216 1 ls st u bb σ Q ↔ qx sc D 216 2 ls (vi 0 :: st) u bb σ Q := r_iconst (by decide +kernel)
theorem k216_2 : qx sc D 216 2 ls (vi x :: vr 136 :: st) u bb σ Q ↔ qx sc D 216 5 ls st u bb (q_up σ 136 0 x) Q := r_putI (idx := 3) (c := 15) (k := 0) (by decide +kernel)
theorem k216_5 : qx sc D 216 5 [vr a, l1, l2] st u bb σ Q ↔ qx sc D 216 6 [vr a, l1, l2] (vr a :: st) u bb σ Q := r_aload_n (k := 0) (by decide +kernel) rfl
theorem k216_6 : qx sc D 216 6 [l0, vi x, l2] st u bb σ Q ↔ qx sc D 216 7 [l0, vi x, l2] (vi x :: st) u bb σ Q := r_iload_n (k := 1) (by decide +kernel) rfl
theorem k216_7 : qx sc D 216 7 ls st u bb σ Q ↔ qx sc D 216 8 ls (vi 0 :: st) u bb σ Q := r_iconst (by decide +kernel)
theorem k216_8 : qx sc D 216 8 [vr a, l1, l2] st u bb σ Q ↔ qx sc D 216 9 [vr a, l1, l2] (vr a :: st) u bb σ Q := r_aload_n (k := 0) (by decide +kernel) rfl
theorem k216_9 : qx sc D 216 9 ls (vr 136 :: st) u bb σ Q ↔ qx sc D 216 12 ls (vi (σ 136 14) :: st) u bb σ Q := r_getI (idx := 148) (c := 15) (k := 14) (by decide +kernel)
theorem k216_12 : qx sc D 216 12 ls st u bb σ Q ↔ qx sc D 216 13 ls (vi 1 :: st) u bb σ Q := r_iconst (by decide +kernel)
theorem k216_13 : qx sc D 216 13 ls (vi b' :: vi a' :: st) u bb σ Q ↔ q_R (a' - b') ∧ qx sc D 216 14 ls (vi (a' - b') :: st) u bb σ Q := r_isub (by decide +kernel)
theorem k216_14 : qx sc (D + 1) 216 14 ls [vi x2, vi x1, vi x0, vr a20] (0, 0) bb σ Q ↔ qx sc D 157 0 [vi x0, vi x1, vi x2] [] (0, 0) bb σ (q_kn sc (D + 1) 216 17 ls [vr a20] (0, 0) Q) := r_calls (idx := 498) (n := 3) (m := 3) (by decide +kernel) rfl (Nat.le_of_ble_eq_true rfl) ⟨Nat.le_of_ble_eq_true rfl, Nat.le_of_ble_eq_true rfl, rfl⟩ rfl
theorem k216_17 : qx sc D 216 17 ls (vi x :: st) u bb σ Q ↔ (x = 0 → qx sc D 216 20 ls st u bb σ Q) ∧ (¬ (x = 0) → qx sc D 216 24 ls st u bb σ Q) := r_if_ne (off := 7) (t := 24) (by decide +kernel)
theorem k216_20 : qx sc D 216 20 ls st u bb σ Q ↔ qx sc D 216 21 ls (vi 1 :: st) u bb σ Q := r_iconst (by decide +kernel)
theorem k216_21 : qx sc D 216 21 ls st u bb σ Q ↔ qx sc D 216 25 ls st u bb σ Q := r_goto (off := 4) (by decide +kernel)
theorem k216_24 : qx sc D 216 24 ls st u bb σ Q ↔ qx sc D 216 25 ls (vi 0 :: st) u bb σ Q := r_iconst (by decide +kernel)
theorem k216_25 : qx sc D 216 25 ls st u bb σ Q ↔ qx sc D 216 26 ls (vi 1 :: st) u bb σ Q := r_iconst (by decide +kernel)
theorem k216_26 : qx sc (D + 1) 216 26 ls [vi x1, vi x0, vr 136] (0, 0) bb σ Q ↔ qx sc D 224 0 [vr 136, vi x0, vi x1] [] (0, 0) bb σ (q_kn sc (D + 1) 216 29 ls [] (0, 0) Q) := r_callv (idx := 501) (n := 2) (m := 3) (by decide +kernel) rfl (Nat.le_of_ble_eq_true rfl) ⟨Nat.le_of_ble_eq_true rfl, Nat.le_of_ble_eq_true rfl, rfl⟩ rfl
theorem k216_29 : qx sc D 216 29 ls (vi x :: st) u bb σ Q ↔ (x = 0 → qx sc D 216 32 ls st u bb σ Q) ∧ (¬ (x = 0) → qx sc D 216 54 ls st u bb σ Q) := r_if_ne (off := 25) (t := 54) (by decide +kernel)
theorem k216_32 : qx sc D 216 32 [vr a, l1, l2] st u bb σ Q ↔ qx sc D 216 33 [vr a, l1, l2] (vr a :: st) u bb σ Q := r_aload_n (k := 0) (by decide +kernel) rfl
theorem k216_33 : qx sc D 216 33 [l0, l1, vi x] st u bb σ Q ↔ qx sc D 216 34 [l0, l1, vi x] (vi x :: st) u bb σ Q := r_iload_n (k := 2) (by decide +kernel) rfl
theorem k216_34 : qx sc D 216 34 ls st u bb σ Q ↔ qx sc D 216 35 ls (vi 0 :: st) u bb σ Q := r_iconst (by decide +kernel)
theorem k216_35 : qx sc D 216 35 ls st u bb σ Q ↔ qx sc D 216 36 ls (vi 4 :: st) u bb σ Q := r_iconst (by decide +kernel)
theorem k216_36 : qx sc (D + 1) 216 36 ls [vi x2, vi x1, vi x0, vr a20] (0, 0) bb σ Q ↔ qx sc D 157 0 [vi x0, vi x1, vi x2] [] (0, 0) bb σ (q_kn sc (D + 1) 216 39 ls [vr a20] (0, 0) Q) := r_calls (idx := 498) (n := 3) (m := 3) (by decide +kernel) rfl (Nat.le_of_ble_eq_true rfl) ⟨Nat.le_of_ble_eq_true rfl, Nat.le_of_ble_eq_true rfl, rfl⟩ rfl
theorem k216_39 : qx sc D 216 39 ls (vi x :: st) u bb σ Q ↔ (x = 0 → qx sc D 216 42 ls st u bb σ Q) ∧ (¬ (x = 0) → qx sc D 216 46 ls st u bb σ Q) := r_if_ne (off := 7) (t := 46) (by decide +kernel)
theorem k216_42 : qx sc D 216 42 ls st u bb σ Q ↔ qx sc D 216 43 ls (vi 1 :: st) u bb σ Q := r_iconst (by decide +kernel)
theorem k216_43 : qx sc D 216 43 ls st u bb σ Q ↔ qx sc D 216 47 ls st u bb σ Q := r_goto (off := 4) (by decide +kernel)
theorem k216_46 : qx sc D 216 46 ls st u bb σ Q ↔ qx sc D 216 47 ls (vi 0 :: st) u bb σ Q := r_iconst (by decide +kernel)
theorem k216_47 : qx sc D 216 47 ls st u bb σ Q ↔ qx sc D 216 48 ls (vi 2 :: st) u bb σ Q := r_iconst (by decide +kernel)
theorem k216_48 : qx sc (D + 1) 216 48 ls [vi x1, vi x0, vr 136] (0, 0) bb σ Q ↔ qx sc D 224 0 [vr 136, vi x0, vi x1] [] (0, 0) bb σ (q_kn sc (D + 1) 216 51 ls [] (0, 0) Q) := r_callv (idx := 501) (n := 2) (m := 3) (by decide +kernel) rfl (Nat.le_of_ble_eq_true rfl) ⟨Nat.le_of_ble_eq_true rfl, Nat.le_of_ble_eq_true rfl, rfl⟩ rfl
theorem k216_51 : qx sc D 216 51 ls (vi x :: st) u bb σ Q ↔ (x = 0 → qx sc D 216 56 ls st u bb σ Q) ∧ (¬ (x = 0) → qx sc D 216 54 ls st u bb σ Q) := r_if_eq (off := 5) (t := 56) (by decide +kernel)
theorem k216_54 : qx sc D 216 54 ls st u bb σ Q ↔ qx sc D 216 55 ls (vi 0 :: st) u bb σ Q := r_iconst (by decide +kernel)
theorem k216_55 : qx sc D 216 55 ls [vi x] (0, 0) bb σ Q ↔ Q (.inl (some (vi x))) bb σ := r_ret (by decide +kernel)
theorem k216_56 : qx sc D 216 56 [l0, l1, vi x] st u bb σ Q ↔ qx sc D 216 57 [l0, l1, vi x] (vi x :: st) u bb σ Q := r_iload_n (k := 2) (by decide +kernel) rfl
theorem k216_57 : qx sc D 216 57 ls (vi x :: st) u bb σ Q ↔ qx sc D 216 (if x < 0 ∨ 3 < x then 116 else [88, 95, 102, 109].getD (x - 0).toNat 0) ls st u bb σ Q := r_tsw (d := 59) (lo := 0) (hi := 3) (offs := #[31, 38, 45, 52]) (dt := 116) (tg := [88, 95, 102, 109]) (by decide +kernel)
theorem k216_88 : qx sc D 216 88 [vr a, l1, l2] st u bb σ Q ↔ qx sc D 216 89 [vr a, l1, l2] (vr a :: st) u bb σ Q := r_aload_n (k := 0) (by decide +kernel) rfl
theorem k216_89 : qx sc D 216 89 ls (vr 136 :: st) u bb σ Q ↔ qx sc D 216 92 ls (vr 142 :: st) u bb σ Q := r_getR (idx := 166) (c := 15) (k := 19) (by decide +kernel)
theorem k216_92 : qx sc D 216 92 [l0, vi x, l2] st u bb σ Q ↔ qx sc D 216 93 [l0, vi x, l2] (vi x :: st) u bb σ Q := r_iload_n (k := 1) (by decide +kernel) rfl
theorem k216_93 : qx sc D 216 93 ls (vi i :: vr a :: st) u bb σ Q ↔ (q_ty a = 0 ∧ 0 ≤ i ∧ i < q_ln a) ∧ qx sc D 216 94 ls (vi (σ a i) :: st) u bb σ Q := r_iald (by decide +kernel)
theorem k216_94 : qx sc D 216 94 ls [vi x] (0, 0) bb σ Q ↔ Q (.inl (some (vi x))) bb σ := r_ret (by decide +kernel)
theorem k216_95 : qx sc D 216 95 [vr a, l1, l2] st u bb σ Q ↔ qx sc D 216 96 [vr a, l1, l2] (vr a :: st) u bb σ Q := r_aload_n (k := 0) (by decide +kernel) rfl
theorem k216_96 : qx sc D 216 96 ls (vr 136 :: st) u bb σ Q ↔ qx sc D 216 99 ls (vr 143 :: st) u bb σ Q := r_getR (idx := 151) (c := 15) (k := 20) (by decide +kernel)
theorem k216_99 : qx sc D 216 99 [l0, vi x, l2] st u bb σ Q ↔ qx sc D 216 100 [l0, vi x, l2] (vi x :: st) u bb σ Q := r_iload_n (k := 1) (by decide +kernel) rfl
theorem k216_100 : qx sc D 216 100 ls (vi i :: vr a :: st) u bb σ Q ↔ (q_ty a = 0 ∧ 0 ≤ i ∧ i < q_ln a) ∧ qx sc D 216 101 ls (vi (σ a i) :: st) u bb σ Q := r_iald (by decide +kernel)
theorem k216_101 : qx sc D 216 101 ls [vi x] (0, 0) bb σ Q ↔ Q (.inl (some (vi x))) bb σ := r_ret (by decide +kernel)
theorem k216_102 : qx sc D 216 102 [vr a, l1, l2] st u bb σ Q ↔ qx sc D 216 103 [vr a, l1, l2] (vr a :: st) u bb σ Q := r_aload_n (k := 0) (by decide +kernel) rfl
theorem k216_103 : qx sc D 216 103 ls (vr 136 :: st) u bb σ Q ↔ qx sc D 216 106 ls (vr 144 :: st) u bb σ Q := r_getR (idx := 154) (c := 15) (k := 21) (by decide +kernel)
theorem k216_106 : qx sc D 216 106 [l0, vi x, l2] st u bb σ Q ↔ qx sc D 216 107 [l0, vi x, l2] (vi x :: st) u bb σ Q := r_iload_n (k := 1) (by decide +kernel) rfl
theorem k216_107 : qx sc D 216 107 ls (vi i :: vr a :: st) u bb σ Q ↔ (q_ty a = 0 ∧ 0 ≤ i ∧ i < q_ln a) ∧ qx sc D 216 108 ls (vi (σ a i) :: st) u bb σ Q := r_iald (by decide +kernel)
theorem k216_108 : qx sc D 216 108 ls [vi x] (0, 0) bb σ Q ↔ Q (.inl (some (vi x))) bb σ := r_ret (by decide +kernel)
theorem k216_109 : qx sc D 216 109 [vr a, l1, l2] st u bb σ Q ↔ qx sc D 216 110 [vr a, l1, l2] (vr a :: st) u bb σ Q := r_aload_n (k := 0) (by decide +kernel) rfl
theorem k216_110 : qx sc D 216 110 ls (vr 136 :: st) u bb σ Q ↔ qx sc D 216 113 ls (vr 145 :: st) u bb σ Q := r_getR (idx := 157) (c := 15) (k := 22) (by decide +kernel)
theorem k216_113 : qx sc D 216 113 [l0, vi x, l2] st u bb σ Q ↔ qx sc D 216 114 [l0, vi x, l2] (vi x :: st) u bb σ Q := r_iload_n (k := 1) (by decide +kernel) rfl
theorem k216_114 : qx sc D 216 114 ls (vi i :: vr a :: st) u bb σ Q ↔ (q_ty a = 0 ∧ 0 ≤ i ∧ i < q_ln a) ∧ qx sc D 216 115 ls (vi (σ a i) :: st) u bb σ Q := r_iald (by decide +kernel)
theorem k216_115 : qx sc D 216 115 ls [vi x] (0, 0) bb σ Q ↔ Q (.inl (some (vi x))) bb σ := r_ret (by decide +kernel)
theorem k216_116 : qx sc D 216 116 [vr a, l1, l2] st u bb σ Q ↔ qx sc D 216 117 [vr a, l1, l2] (vr a :: st) u bb σ Q := r_aload_n (k := 0) (by decide +kernel) rfl
theorem k216_117 : qx sc D 216 117 ls (vr 136 :: st) u bb σ Q ↔ qx sc D 216 120 ls (vr 146 :: st) u bb σ Q := r_getR (idx := 160) (c := 15) (k := 23) (by decide +kernel)
theorem k216_120 : qx sc D 216 120 [l0, vi x, l2] st u bb σ Q ↔ qx sc D 216 121 [l0, vi x, l2] (vi x :: st) u bb σ Q := r_iload_n (k := 1) (by decide +kernel) rfl
theorem k216_121 : qx sc D 216 121 ls (vi i :: vr a :: st) u bb σ Q ↔ (q_ty a = 0 ∧ 0 ≤ i ∧ i < q_ln a) ∧ qx sc D 216 122 ls (vi (σ a i) :: st) u bb σ Q := r_iald (by decide +kernel)
theorem k216_122 : qx sc D 216 122 ls [vi x] (0, 0) bb σ Q ↔ Q (.inl (some (vi x))) bb σ := r_ret (by decide +kernel)
-- 217: RowProverModel.statementsTold()V
theorem k217_0 : qx sc D 217 0 [vr a, l1] st u bb σ Q ↔ qx sc D 217 1 [vr a, l1] (vr a :: st) u bb σ Q := r_aload_n (k := 0) (by decide +kernel) rfl
theorem k217_1 : qx sc (D + 1) 217 1 ls [vr 136] (0, 0) bb σ Q ↔ qx sc D 154 0 [vr 136] [] (0, 0) bb σ (q_kn sc (D + 1) 217 4 ls [] (0, 0) Q) := r_callv (idx := 83) (n := 0) (m := 1) (by decide +kernel) rfl (Nat.le_of_ble_eq_true rfl) ⟨Nat.le_of_ble_eq_true rfl, Nat.le_of_ble_eq_true rfl, rfl⟩ rfl
theorem k217_4 : qx sc D 217 4 ls (vi x :: st) u bb σ Q ↔ (x = 0 → qx sc D 217 7 ls st u bb σ Q) ∧ (¬ (x = 0) → qx sc D 217 183 ls st u bb σ Q) := r_if_ne (off := 179) (t := 183) (by decide +kernel)
theorem k217_7 : qx sc D 217 7 [vr a, l1] st u bb σ Q ↔ qx sc D 217 8 [vr a, l1] (vr a :: st) u bb σ Q := r_aload_n (k := 0) (by decide +kernel) rfl
theorem k217_8 : qx sc (D + 1) 217 8 ls [vr 136] (0, 0) bb σ Q ↔ qx sc D 167 0 [vr 136] [] (0, 0) bb σ (q_kn sc (D + 1) 217 11 ls [] (0, 0) Q) := r_callv (idx := 145) (n := 0) (m := 1) (by decide +kernel) rfl (Nat.le_of_ble_eq_true rfl) ⟨Nat.le_of_ble_eq_true rfl, Nat.le_of_ble_eq_true rfl, rfl⟩ rfl
theorem k217_11 : qx sc D 217 11 ls (vi x :: st) u bb σ Q ↔ (x = 0 → qx sc D 217 183 ls st u bb σ Q) ∧ (¬ (x = 0) → qx sc D 217 14 ls st u bb σ Q) := r_if_eq (off := 172) (t := 183) (by decide +kernel)
theorem k217_14 : qx sc D 217 14 [vr a, l1] st u bb σ Q ↔ qx sc D 217 15 [vr a, l1] (vr a :: st) u bb σ Q := r_aload_n (k := 0) (by decide +kernel) rfl
theorem k217_15 : qx sc D 217 15 ls (vr 136 :: st) u bb σ Q ↔ qx sc D 217 18 ls (vi (σ 136 14) :: st) u bb σ Q := r_getI (idx := 148) (c := 15) (k := 14) (by decide +kernel)
theorem k217_18 : qx sc D 217 18 ls st u bb σ Q ↔ qx sc D 217 20 ls (vi 40 :: st) u bb σ Q := r_bipush (by decide +kernel)
theorem k217_20 : qx sc D 217 20 ls (vi b' :: vi a' :: st) u bb σ Q ↔ (a' = b' → qx sc D 217 23 ls st u bb σ Q) ∧ (¬ (a' = b') → qx sc D 217 28 ls st u bb σ Q) := r_ic_ne (off := 8) (t := 28) (by decide +kernel)
theorem k217_23 : qx sc D 217 23 [vr a, l1] st u bb σ Q ↔ qx sc D 217 24 [vr a, l1] (vr a :: st) u bb σ Q := r_aload_n (k := 0) (by decide +kernel) rfl
theorem k217_24 : qx sc (D + 1) 217 24 ls [vr 136] (0, 0) bb σ Q ↔ qx sc D 148 0 [vr 136] [] (0, 0) bb σ (q_kn sc (D + 1) 217 27 ls [] (0, 0) Q) := r_callv (idx := 91) (n := 0) (m := 1) (by decide +kernel) rfl (Nat.le_of_ble_eq_true rfl) ⟨Nat.le_of_ble_eq_true rfl, Nat.le_of_ble_eq_true rfl, rfl⟩ rfl
theorem k217_27 : qx sc D 217 27 ls [] (0, 0) bb σ Q ↔ Q (.inl none) bb σ := r_retV (by decide +kernel)
theorem k217_28 : qx sc D 217 28 [vr a, l1] st u bb σ Q ↔ qx sc D 217 29 [vr a, l1] (vr a :: st) u bb σ Q := r_aload_n (k := 0) (by decide +kernel) rfl
theorem k217_29 : qx sc D 217 29 ls (vr 136 :: st) u bb σ Q ↔ qx sc D 217 32 ls (vi (σ 136 14) :: st) u bb σ Q := r_getI (idx := 148) (c := 15) (k := 14) (by decide +kernel)
theorem k217_32 : qx sc D 217 32 [l0, l1] (vi x :: st) u bb σ Q ↔ qx sc D 217 33 [l0, vi x] st u bb σ Q := r_istore_n (k := 1) (by decide +kernel) (Nat.le_of_ble_eq_true rfl)
theorem k217_33 : qx sc D 217 33 [vr a, l1] st u bb σ Q ↔ qx sc D 217 34 [vr a, l1] (vr a :: st) u bb σ Q := r_aload_n (k := 0) (by decide +kernel) rfl
theorem k217_34 : qx sc D 217 34 ls (vr a :: st) u bb σ Q ↔ qx sc D 217 35 ls (vr a :: vr a :: st) u bb σ Q := r_dupA (by decide +kernel)
theorem k217_35 : qx sc D 217 35 ls (vr 136 :: st) u bb σ Q ↔ qx sc D 217 38 ls (vi (σ 136 14) :: st) u bb σ Q := r_getI (idx := 148) (c := 15) (k := 14) (by decide +kernel)
theorem k217_38 : qx sc D 217 38 ls st u bb σ Q ↔ qx sc D 217 39 ls (vi 1 :: st) u bb σ Q := r_iconst (by decide +kernel)
theorem k217_39 : qx sc D 217 39 ls (vi b' :: vi a' :: st) u bb σ Q ↔ q_R (a' + b') ∧ qx sc D 217 40 ls (vi (a' + b') :: st) u bb σ Q := r_iadd (by decide +kernel)
theorem k217_40 : qx sc D 217 40 ls (vi x :: vr 136 :: st) u bb σ Q ↔ qx sc D 217 43 ls st u bb (q_up σ 136 14 x) Q := r_putI (idx := 148) (c := 15) (k := 14) (by decide +kernel)
theorem k217_43 : qx sc D 217 43 [vr a, l1] st u bb σ Q ↔ qx sc D 217 44 [vr a, l1] (vr a :: st) u bb σ Q := r_aload_n (k := 0) (by decide +kernel) rfl
theorem k217_44 : qx sc D 217 44 ls (vr 136 :: st) u bb σ Q ↔ qx sc D 217 47 ls (vr 143 :: st) u bb σ Q := r_getR (idx := 151) (c := 15) (k := 20) (by decide +kernel)
theorem k217_47 : qx sc D 217 47 [l0, vi x] st u bb σ Q ↔ qx sc D 217 48 [l0, vi x] (vi x :: st) u bb σ Q := r_iload_n (k := 1) (by decide +kernel) rfl
theorem k217_48 : qx sc D 217 48 ls st u bb σ Q ↔ qx sc D 217 49 ls (vi (-1) :: st) u bb σ Q := r_iconst (by decide +kernel)
theorem k217_49 : qx sc D 217 49 ls (vi x :: vi i :: vr a :: st) u bb σ Q ↔ (q_ty a = 0 ∧ 0 ≤ i ∧ i < q_ln a) ∧ qx sc D 217 50 ls st u bb (q_up σ a i x) Q := r_iast (by decide +kernel)
theorem k217_50 : qx sc D 217 50 [vr a, l1] st u bb σ Q ↔ qx sc D 217 51 [vr a, l1] (vr a :: st) u bb σ Q := r_aload_n (k := 0) (by decide +kernel) rfl
theorem k217_51 : qx sc D 217 51 ls (vr 136 :: st) u bb σ Q ↔ qx sc D 217 54 ls (vr 144 :: st) u bb σ Q := r_getR (idx := 154) (c := 15) (k := 21) (by decide +kernel)
theorem k217_54 : qx sc D 217 54 [l0, vi x] st u bb σ Q ↔ qx sc D 217 55 [l0, vi x] (vi x :: st) u bb σ Q := r_iload_n (k := 1) (by decide +kernel) rfl
theorem k217_55 : qx sc D 217 55 ls st u bb σ Q ↔ qx sc D 217 56 ls (vi (-1) :: st) u bb σ Q := r_iconst (by decide +kernel)
theorem k217_56 : qx sc D 217 56 ls (vi x :: vi i :: vr a :: st) u bb σ Q ↔ (q_ty a = 0 ∧ 0 ≤ i ∧ i < q_ln a) ∧ qx sc D 217 57 ls st u bb (q_up σ a i x) Q := r_iast (by decide +kernel)
theorem k217_57 : qx sc D 217 57 [vr a, l1] st u bb σ Q ↔ qx sc D 217 58 [vr a, l1] (vr a :: st) u bb σ Q := r_aload_n (k := 0) (by decide +kernel) rfl
theorem k217_58 : qx sc D 217 58 ls (vr 136 :: st) u bb σ Q ↔ qx sc D 217 61 ls (vr 145 :: st) u bb σ Q := r_getR (idx := 157) (c := 15) (k := 22) (by decide +kernel)
theorem k217_61 : qx sc D 217 61 [l0, vi x] st u bb σ Q ↔ qx sc D 217 62 [l0, vi x] (vi x :: st) u bb σ Q := r_iload_n (k := 1) (by decide +kernel) rfl
theorem k217_62 : qx sc D 217 62 ls st u bb σ Q ↔ qx sc D 217 63 ls (vi (-1) :: st) u bb σ Q := r_iconst (by decide +kernel)
theorem k217_63 : qx sc D 217 63 ls (vi x :: vi i :: vr a :: st) u bb σ Q ↔ (q_ty a = 0 ∧ 0 ≤ i ∧ i < q_ln a) ∧ qx sc D 217 64 ls st u bb (q_up σ a i x) Q := r_iast (by decide +kernel)
theorem k217_64 : qx sc D 217 64 [vr a, l1] st u bb σ Q ↔ qx sc D 217 65 [vr a, l1] (vr a :: st) u bb σ Q := r_aload_n (k := 0) (by decide +kernel) rfl
theorem k217_65 : qx sc D 217 65 ls (vr 136 :: st) u bb σ Q ↔ qx sc D 217 68 ls (vr 146 :: st) u bb σ Q := r_getR (idx := 160) (c := 15) (k := 23) (by decide +kernel)
theorem k217_68 : qx sc D 217 68 [l0, vi x] st u bb σ Q ↔ qx sc D 217 69 [l0, vi x] (vi x :: st) u bb σ Q := r_iload_n (k := 1) (by decide +kernel) rfl
theorem k217_69 : qx sc D 217 69 [vr a, l1] st u bb σ Q ↔ qx sc D 217 70 [vr a, l1] (vr a :: st) u bb σ Q := r_aload_n (k := 0) (by decide +kernel) rfl
theorem k217_70 : qx sc D 217 70 ls (vr 136 :: st) u bb σ Q ↔ qx sc D 217 73 ls (vi (σ 136 49) :: st) u bb σ Q := r_getI (idx := 163) (c := 15) (k := 49) (by decide +kernel)
theorem k217_73 : qx sc D 217 73 ls (vi x :: vi i :: vr a :: st) u bb σ Q ↔ (q_ty a = 0 ∧ 0 ≤ i ∧ i < q_ln a) ∧ qx sc D 217 74 ls st u bb (q_up σ a i x) Q := r_iast (by decide +kernel)
theorem k217_74 : qx sc D 217 74 [vr a, l1] st u bb σ Q ↔ qx sc D 217 75 [vr a, l1] (vr a :: st) u bb σ Q := r_aload_n (k := 0) (by decide +kernel) rfl
theorem k217_75 : qx sc D 217 75 ls st u bb σ Q ↔ qx sc D 217 77 ls (vr (q_tr 7) :: st) u bb σ Q := r_ldcS (idx := 139) (by decide +kernel)
theorem k217_77 : qx sc (D + 1) 217 77 ls [vr a0, vr 136] (0, 0) bb σ Q ↔ qx sc D 221 0 [vr 136, vr a0, vn] [] (0, 0) bb σ (q_kn sc (D + 1) 217 80 ls [] (0, 0) Q) := r_callv (idx := 125) (n := 1) (m := 3) (by decide +kernel) rfl (Nat.le_of_ble_eq_true rfl) ⟨Nat.le_of_ble_eq_true rfl, Nat.le_of_ble_eq_true rfl, rfl⟩ rfl
theorem k217_80 : qx sc D 217 80 ls (vi x :: st) u bb σ Q ↔ (x = 0 → qx sc D 217 98 ls st u bb σ Q) ∧ (¬ (x = 0) → qx sc D 217 83 ls st u bb σ Q) := r_if_eq (off := 18) (t := 98) (by decide +kernel)
theorem k217_83 : qx sc D 217 83 [vr a, l1] st u bb σ Q ↔ qx sc D 217 84 [vr a, l1] (vr a :: st) u bb σ Q := r_aload_n (k := 0) (by decide +kernel) rfl
theorem k217_84 : qx sc D 217 84 ls (vr 136 :: st) u bb σ Q ↔ qx sc D 217 87 ls (vr 142 :: st) u bb σ Q := r_getR (idx := 166) (c := 15) (k := 19) (by decide +kernel)
theorem k217_87 : qx sc D 217 87 [l0, vi x] st u bb σ Q ↔ qx sc D 217 88 [l0, vi x] (vi x :: st) u bb σ Q := r_iload_n (k := 1) (by decide +kernel) rfl
theorem k217_88 : qx sc D 217 88 ls st u bb σ Q ↔ qx sc D 217 89 ls (vi 2 :: st) u bb σ Q := r_iconst (by decide +kernel)
theorem k217_89 : qx sc D 217 89 ls (vi x :: vi i :: vr a :: st) u bb σ Q ↔ (q_ty a = 0 ∧ 0 ≤ i ∧ i < q_ln a) ∧ qx sc D 217 90 ls st u bb (q_up σ a i x) Q := r_iast (by decide +kernel)
theorem k217_90 : qx sc D 217 90 [vr a, l1] st u bb σ Q ↔ qx sc D 217 91 [vr a, l1] (vr a :: st) u bb σ Q := r_aload_n (k := 0) (by decide +kernel) rfl
theorem k217_91 : qx sc D 217 91 [l0, vi x] st u bb σ Q ↔ qx sc D 217 92 [l0, vi x] (vi x :: st) u bb σ Q := r_iload_n (k := 1) (by decide +kernel) rfl
theorem k217_92 : qx sc (D + 1) 217 92 ls [vi x0, vr 136] (0, 0) bb σ Q ↔ qx sc D 196 0 [vr 136, vi x0, vn, vn, vn] [] (0, 0) bb σ (q_kn sc (D + 1) 217 95 ls [] (0, 0) Q) := r_callv (idx := 169) (n := 1) (m := 5) (by decide +kernel) rfl (Nat.le_of_ble_eq_true rfl) ⟨Nat.le_of_ble_eq_true rfl, Nat.le_of_ble_eq_true rfl, rfl⟩ rfl
theorem k217_95 : qx sc D 217 95 ls st u bb σ Q ↔ qx sc D 217 180 ls st u bb σ Q := r_goto (off := 85) (by decide +kernel)
theorem k217_98 : qx sc D 217 98 [vr a, l1] st u bb σ Q ↔ qx sc D 217 99 [vr a, l1] (vr a :: st) u bb σ Q := r_aload_n (k := 0) (by decide +kernel) rfl
theorem k217_99 : qx sc D 217 99 ls st u bb σ Q ↔ qx sc D 217 101 ls (vr (q_tr 8) :: st) u bb σ Q := r_ldcS (idx := 141) (by decide +kernel)
theorem k217_101 : qx sc (D + 1) 217 101 ls [vr a0, vr 136] (0, 0) bb σ Q ↔ qx sc D 221 0 [vr 136, vr a0, vn] [] (0, 0) bb σ (q_kn sc (D + 1) 217 104 ls [] (0, 0) Q) := r_callv (idx := 125) (n := 1) (m := 3) (by decide +kernel) rfl (Nat.le_of_ble_eq_true rfl) ⟨Nat.le_of_ble_eq_true rfl, Nat.le_of_ble_eq_true rfl, rfl⟩ rfl
theorem k217_104 : qx sc D 217 104 ls (vi x :: st) u bb σ Q ↔ (x = 0 → qx sc D 217 122 ls st u bb σ Q) ∧ (¬ (x = 0) → qx sc D 217 107 ls st u bb σ Q) := r_if_eq (off := 18) (t := 122) (by decide +kernel)
theorem k217_107 : qx sc D 217 107 [vr a, l1] st u bb σ Q ↔ qx sc D 217 108 [vr a, l1] (vr a :: st) u bb σ Q := r_aload_n (k := 0) (by decide +kernel) rfl
theorem k217_108 : qx sc D 217 108 ls (vr 136 :: st) u bb σ Q ↔ qx sc D 217 111 ls (vr 142 :: st) u bb σ Q := r_getR (idx := 166) (c := 15) (k := 19) (by decide +kernel)
theorem k217_111 : qx sc D 217 111 [l0, vi x] st u bb σ Q ↔ qx sc D 217 112 [l0, vi x] (vi x :: st) u bb σ Q := r_iload_n (k := 1) (by decide +kernel) rfl
theorem k217_112 : qx sc D 217 112 ls st u bb σ Q ↔ qx sc D 217 113 ls (vi 3 :: st) u bb σ Q := r_iconst (by decide +kernel)
theorem k217_113 : qx sc D 217 113 ls (vi x :: vi i :: vr a :: st) u bb σ Q ↔ (q_ty a = 0 ∧ 0 ≤ i ∧ i < q_ln a) ∧ qx sc D 217 114 ls st u bb (q_up σ a i x) Q := r_iast (by decide +kernel)
theorem k217_114 : qx sc D 217 114 [vr a, l1] st u bb σ Q ↔ qx sc D 217 115 [vr a, l1] (vr a :: st) u bb σ Q := r_aload_n (k := 0) (by decide +kernel) rfl
theorem k217_115 : qx sc D 217 115 [l0, vi x] st u bb σ Q ↔ qx sc D 217 116 [l0, vi x] (vi x :: st) u bb σ Q := r_iload_n (k := 1) (by decide +kernel) rfl
theorem k217_116 : qx sc (D + 1) 217 116 ls [vi x0, vr 136] (0, 0) bb σ Q ↔ qx sc D 139 0 [vr 136, vi x0, vn, vn, vn, vn, vn, vn, vn, vn, vn, vn, vn] [] (0, 0) bb σ (q_kn sc (D + 1) 217 119 ls [] (0, 0) Q) := r_callv (idx := 171) (n := 1) (m := 13) (by decide +kernel) rfl (Nat.le_of_ble_eq_true rfl) ⟨Nat.le_of_ble_eq_true rfl, Nat.le_of_ble_eq_true rfl, rfl⟩ rfl
theorem k217_119 : qx sc D 217 119 ls st u bb σ Q ↔ qx sc D 217 180 ls st u bb σ Q := r_goto (off := 61) (by decide +kernel)
theorem k217_122 : qx sc D 217 122 [vr a, l1] st u bb σ Q ↔ qx sc D 217 123 [vr a, l1] (vr a :: st) u bb σ Q := r_aload_n (k := 0) (by decide +kernel) rfl
theorem k217_123 : qx sc D 217 123 ls st u bb σ Q ↔ qx sc D 217 125 ls (vr (q_tr 9) :: st) u bb σ Q := r_ldcS (idx := 143) (by decide +kernel)
theorem k217_125 : qx sc (D + 1) 217 125 ls [vr a0, vr 136] (0, 0) bb σ Q ↔ qx sc D 221 0 [vr 136, vr a0, vn] [] (0, 0) bb σ (q_kn sc (D + 1) 217 128 ls [] (0, 0) Q) := r_callv (idx := 125) (n := 1) (m := 3) (by decide +kernel) rfl (Nat.le_of_ble_eq_true rfl) ⟨Nat.le_of_ble_eq_true rfl, Nat.le_of_ble_eq_true rfl, rfl⟩ rfl
theorem k217_128 : qx sc D 217 128 ls (vi x :: st) u bb σ Q ↔ (x = 0 → qx sc D 217 146 ls st u bb σ Q) ∧ (¬ (x = 0) → qx sc D 217 131 ls st u bb σ Q) := r_if_eq (off := 18) (t := 146) (by decide +kernel)
theorem k217_131 : qx sc D 217 131 [vr a, l1] st u bb σ Q ↔ qx sc D 217 132 [vr a, l1] (vr a :: st) u bb σ Q := r_aload_n (k := 0) (by decide +kernel) rfl
theorem k217_132 : qx sc D 217 132 ls (vr 136 :: st) u bb σ Q ↔ qx sc D 217 135 ls (vr 142 :: st) u bb σ Q := r_getR (idx := 166) (c := 15) (k := 19) (by decide +kernel)
theorem k217_135 : qx sc D 217 135 [l0, vi x] st u bb σ Q ↔ qx sc D 217 136 [l0, vi x] (vi x :: st) u bb σ Q := r_iload_n (k := 1) (by decide +kernel) rfl
theorem k217_136 : qx sc D 217 136 ls st u bb σ Q ↔ qx sc D 217 137 ls (vi 4 :: st) u bb σ Q := r_iconst (by decide +kernel)
theorem k217_137 : qx sc D 217 137 ls (vi x :: vi i :: vr a :: st) u bb σ Q ↔ (q_ty a = 0 ∧ 0 ≤ i ∧ i < q_ln a) ∧ qx sc D 217 138 ls st u bb (q_up σ a i x) Q := r_iast (by decide +kernel)
theorem k217_138 : qx sc D 217 138 [vr a, l1] st u bb σ Q ↔ qx sc D 217 139 [vr a, l1] (vr a :: st) u bb σ Q := r_aload_n (k := 0) (by decide +kernel) rfl
theorem k217_139 : qx sc D 217 139 [l0, vi x] st u bb σ Q ↔ qx sc D 217 140 [l0, vi x] (vi x :: st) u bb σ Q := r_iload_n (k := 1) (by decide +kernel) rfl
theorem k217_140 : qx sc (D + 1) 217 140 ls [vi x0, vr 136] (0, 0) bb σ Q ↔ qx sc D 205 0 [vr 136, vi x0, vn, vn, vn, vn, vn, vn, vn, vn, vn, vn] [] (0, 0) bb σ (q_kn sc (D + 1) 217 143 ls [] (0, 0) Q) := r_callv (idx := 174) (n := 1) (m := 12) (by decide +kernel) rfl (Nat.le_of_ble_eq_true rfl) ⟨Nat.le_of_ble_eq_true rfl, Nat.le_of_ble_eq_true rfl, rfl⟩ rfl
theorem k217_143 : qx sc D 217 143 ls st u bb σ Q ↔ qx sc D 217 180 ls st u bb σ Q := r_goto (off := 37) (by decide +kernel)
theorem k217_146 : qx sc D 217 146 [vr a, l1] st u bb σ Q ↔ qx sc D 217 147 [vr a, l1] (vr a :: st) u bb σ Q := r_aload_n (k := 0) (by decide +kernel) rfl
theorem k217_147 : qx sc (D + 1) 217 147 ls [vr 136] (0, 0) bb σ Q ↔ qx sc D 164 0 [vr 136] [] (0, 0) bb σ (q_kn sc (D + 1) 217 150 ls [] (0, 0) Q) := r_callv (idx := 114) (n := 0) (m := 1) (by decide +kernel) rfl (Nat.le_of_ble_eq_true rfl) ⟨Nat.le_of_ble_eq_true rfl, Nat.le_of_ble_eq_true rfl, rfl⟩ rfl
theorem k217_150 : qx sc D 217 150 ls (vi x :: st) u bb σ Q ↔ (x = 0 → qx sc D 217 168 ls st u bb σ Q) ∧ (¬ (x = 0) → qx sc D 217 153 ls st u bb σ Q) := r_if_eq (off := 18) (t := 168) (by decide +kernel)
theorem k217_153 : qx sc D 217 153 [vr a, l1] st u bb σ Q ↔ qx sc D 217 154 [vr a, l1] (vr a :: st) u bb σ Q := r_aload_n (k := 0) (by decide +kernel) rfl
theorem k217_154 : qx sc D 217 154 ls (vr 136 :: st) u bb σ Q ↔ qx sc D 217 157 ls (vr 142 :: st) u bb σ Q := r_getR (idx := 166) (c := 15) (k := 19) (by decide +kernel)
theorem k217_157 : qx sc D 217 157 [l0, vi x] st u bb σ Q ↔ qx sc D 217 158 [l0, vi x] (vi x :: st) u bb σ Q := r_iload_n (k := 1) (by decide +kernel) rfl
theorem k217_158 : qx sc D 217 158 ls st u bb σ Q ↔ qx sc D 217 159 ls (vi 1 :: st) u bb σ Q := r_iconst (by decide +kernel)
theorem k217_159 : qx sc D 217 159 ls (vi x :: vi i :: vr a :: st) u bb σ Q ↔ (q_ty a = 0 ∧ 0 ≤ i ∧ i < q_ln a) ∧ qx sc D 217 160 ls st u bb (q_up σ a i x) Q := r_iast (by decide +kernel)
theorem k217_160 : qx sc D 217 160 [vr a, l1] st u bb σ Q ↔ qx sc D 217 161 [vr a, l1] (vr a :: st) u bb σ Q := r_aload_n (k := 0) (by decide +kernel) rfl
theorem k217_161 : qx sc D 217 161 [l0, vi x] st u bb σ Q ↔ qx sc D 217 162 [l0, vi x] (vi x :: st) u bb σ Q := r_iload_n (k := 1) (by decide +kernel) rfl
theorem k217_162 : qx sc (D + 1) 217 162 ls [vi x0, vr 136] (0, 0) bb σ Q ↔ qx sc D 218 0 [vr 136, vi x0, vn, vn, vn, vn] [] (0, 0) bb σ (q_kn sc (D + 1) 217 165 ls [] (0, 0) Q) := r_callv (idx := 177) (n := 1) (m := 6) (by decide +kernel) rfl (Nat.le_of_ble_eq_true rfl) ⟨Nat.le_of_ble_eq_true rfl, Nat.le_of_ble_eq_true rfl, rfl⟩ rfl
theorem k217_165 : qx sc D 217 165 ls st u bb σ Q ↔ qx sc D 217 180 ls st u bb σ Q := r_goto (off := 15) (by decide +kernel)
theorem k217_168 : qx sc D 217 168 [vr a, l1] st u bb σ Q ↔ qx sc D 217 169 [vr a, l1] (vr a :: st) u bb σ Q := r_aload_n (k := 0) (by decide +kernel) rfl
theorem k217_169 : qx sc D 217 169 ls (vr 136 :: st) u bb σ Q ↔ qx sc D 217 172 ls (vr 142 :: st) u bb σ Q := r_getR (idx := 166) (c := 15) (k := 19) (by decide +kernel)
theorem k217_172 : qx sc D 217 172 [l0, vi x] st u bb σ Q ↔ qx sc D 217 173 [l0, vi x] (vi x :: st) u bb σ Q := r_iload_n (k := 1) (by decide +kernel) rfl
theorem k217_173 : qx sc D 217 173 ls st u bb σ Q ↔ qx sc D 217 174 ls (vi 0 :: st) u bb σ Q := r_iconst (by decide +kernel)
theorem k217_174 : qx sc D 217 174 ls (vi x :: vi i :: vr a :: st) u bb σ Q ↔ (q_ty a = 0 ∧ 0 ≤ i ∧ i < q_ln a) ∧ qx sc D 217 175 ls st u bb (q_up σ a i x) Q := r_iast (by decide +kernel)
theorem k217_175 : qx sc D 217 175 [vr a, l1] st u bb σ Q ↔ qx sc D 217 176 [vr a, l1] (vr a :: st) u bb σ Q := r_aload_n (k := 0) (by decide +kernel) rfl
theorem k217_176 : qx sc D 217 176 [l0, vi x] st u bb σ Q ↔ qx sc D 217 177 [l0, vi x] (vi x :: st) u bb σ Q := r_iload_n (k := 1) (by decide +kernel) rfl
theorem k217_177 : qx sc (D + 1) 217 177 ls [vi x0, vr 136] (0, 0) bb σ Q ↔ qx sc D 128 0 [vr 136, vi x0, vn, vn, vn, vn, vn, vn, vn, vn] [] (0, 0) bb σ (q_kn sc (D + 1) 217 180 ls [] (0, 0) Q) := r_callv (idx := 180) (n := 1) (m := 10) (by decide +kernel) rfl (Nat.le_of_ble_eq_true rfl) ⟨Nat.le_of_ble_eq_true rfl, Nat.le_of_ble_eq_true rfl, rfl⟩ rfl
theorem k217_180 : qx sc D 217 180 ls st u bb σ Q ↔ qx sc D 217 0 ls st u bb σ Q := r_goto (off := (-180)) (by decide +kernel)
theorem k217_183 : qx sc D 217 183 ls [] (0, 0) bb σ Q ↔ Q (.inl none) bb σ := r_retV (by decide +kernel)
-- 218: RowProverModel.store(I)V
theorem k218_0 : qx sc D 218 0 [vr a, l1, l2, l3, l4, l5] st u bb σ Q ↔ qx sc D 218 1 [vr a, l1, l2, l3, l4, l5] (vr a :: st) u bb σ Q := r_aload_n (k := 0) (by decide +kernel) rfl
theorem k218_1 : qx sc D 218 1 ls st u bb σ Q ↔ qx sc D 218 2 ls (vi 0 :: st) u bb σ Q := r_iconst (by decide +kernel)
theorem k218_2 : qx sc D 218 2 [l0, vi x, l2, l3, l4, l5] st u bb σ Q ↔ qx sc D 218 3 [l0, vi x, l2, l3, l4, l5] (vi x :: st) u bb σ Q := r_iload_n (k := 1) (by decide +kernel) rfl
theorem k218_3 : qx sc D 218 3 ls st u bb σ Q ↔ qx sc D 218 4 ls (vi 0 :: st) u bb σ Q := r_iconst (by decide +kernel)
theorem k218_4 : qx sc (D + 1) 218 4 ls [vi x2, vi x1, vi x0, vr 136] (0, 0) bb σ Q ↔ qx sc D 172 0 [vr 136, vi x0, vi x1, vi x2] [] (0, 0) bb σ (q_kn sc (D + 1) 218 7 ls [] (0, 0) Q) := r_callv (idx := 186) (n := 3) (m := 4) (by decide +kernel) rfl (Nat.le_of_ble_eq_true rfl) ⟨Nat.le_of_ble_eq_true rfl, Nat.le_of_ble_eq_true rfl, rfl⟩ rfl
theorem k218_7 : qx sc D 218 7 [l0, l1, l2, l3, l4, l5] (vi x :: st) u bb σ Q ↔ qx sc D 218 8 [l0, l1, vi x, l3, l4, l5] st u bb σ Q := r_istore_n (k := 2) (by decide +kernel) (Nat.le_of_ble_eq_true rfl)
theorem k218_8 : qx sc D 218 8 [vr a, l1, l2, l3, l4, l5] st u bb σ Q ↔ qx sc D 218 9 [vr a, l1, l2, l3, l4, l5] (vr a :: st) u bb σ Q := r_aload_n (k := 0) (by decide +kernel) rfl
theorem k218_9 : qx sc D 218 9 [l0, vi x, l2, l3, l4, l5] st u bb σ Q ↔ qx sc D 218 10 [l0, vi x, l2, l3, l4, l5] (vi x :: st) u bb σ Q := r_iload_n (k := 1) (by decide +kernel) rfl
theorem k218_10 : qx sc (D + 1) 218 10 ls [vi x0, vr 136] (0, 0) bb σ Q ↔ qx sc D 200 0 [vr 136, vi x0, vn, vn, vn, vn, vn] [] (0, 0) bb σ (q_kn sc (D + 1) 218 13 ls [] (0, 0) Q) := r_callv (idx := 215) (n := 1) (m := 7) (by decide +kernel) rfl (Nat.le_of_ble_eq_true rfl) ⟨Nat.le_of_ble_eq_true rfl, Nat.le_of_ble_eq_true rfl, rfl⟩ rfl
theorem k218_13 : qx sc D 218 13 [l0, l1, l2, l3, l4, l5] (vi x :: st) u bb σ Q ↔ qx sc D 218 14 [l0, l1, l2, vi x, l4, l5] st u bb σ Q := r_istore_n (k := 3) (by decide +kernel) (Nat.le_of_ble_eq_true rfl)
theorem k218_14 : qx sc D 218 14 [vr a, l1, l2, l3, l4, l5] st u bb σ Q ↔ qx sc D 218 15 [vr a, l1, l2, l3, l4, l5] (vr a :: st) u bb σ Q := r_aload_n (k := 0) (by decide +kernel) rfl
theorem k218_15 : qx sc D 218 15 ls st u bb σ Q ↔ qx sc D 218 17 ls (vi 61 :: st) u bb σ Q := r_bipush (by decide +kernel)
theorem k218_17 : qx sc (D + 1) 218 17 ls [vi x0, vr 136] (0, 0) bb σ Q ↔ qx sc D 127 0 [vr 136, vi x0] [] (0, 0) bb σ (q_kn sc (D + 1) 218 20 ls [] (0, 0) Q) := r_callv (idx := 135) (n := 1) (m := 2) (by decide +kernel) rfl (Nat.le_of_ble_eq_true rfl) ⟨Nat.le_of_ble_eq_true rfl, Nat.le_of_ble_eq_true rfl, rfl⟩ rfl
theorem k218_20 : qx sc D 218 20 [vr a, l1, l2, l3, l4, l5] st u bb σ Q ↔ qx sc D 218 21 [vr a, l1, l2, l3, l4, l5] (vr a :: st) u bb σ Q := r_aload_n (k := 0) (by decide +kernel) rfl
theorem k218_21 : qx sc (D + 1) 218 21 ls [vr 136] (0, 0) bb σ Q ↔ qx sc D 228 0 [vr 136] [] (0, 0) bb σ (q_kn sc (D + 1) 218 24 ls [] (0, 0) Q) := r_callv (idx := 183) (n := 0) (m := 1) (by decide +kernel) rfl (Nat.le_of_ble_eq_true rfl) ⟨Nat.le_of_ble_eq_true rfl, Nat.le_of_ble_eq_true rfl, rfl⟩ rfl
theorem k218_24 : qx sc D 218 24 [l0, l1, l2, l3, l4, l5] (vi x :: st) u bb σ Q ↔ qx sc D 218 26 [l0, l1, l2, l3, vi x, l5] st u bb σ Q := r_istore (k := 4) (by decide +kernel) (Nat.le_of_ble_eq_true rfl)
theorem k218_26 : qx sc D 218 26 [vr a, l1, l2, l3, l4, l5] st u bb σ Q ↔ qx sc D 218 27 [vr a, l1, l2, l3, l4, l5] (vr a :: st) u bb σ Q := r_aload_n (k := 0) (by decide +kernel) rfl
theorem k218_27 : qx sc D 218 27 ls st u bb σ Q ↔ qx sc D 218 29 ls (vi 59 :: st) u bb σ Q := r_bipush (by decide +kernel)
theorem k218_29 : qx sc (D + 1) 218 29 ls [vi x0, vr 136] (0, 0) bb σ Q ↔ qx sc D 127 0 [vr 136, vi x0] [] (0, 0) bb σ (q_kn sc (D + 1) 218 32 ls [] (0, 0) Q) := r_callv (idx := 135) (n := 1) (m := 2) (by decide +kernel) rfl (Nat.le_of_ble_eq_true rfl) ⟨Nat.le_of_ble_eq_true rfl, Nat.le_of_ble_eq_true rfl, rfl⟩ rfl
theorem k218_32 : qx sc D 218 32 [vr a, l1, l2, l3, l4, l5] st u bb σ Q ↔ qx sc D 218 33 [vr a, l1, l2, l3, l4, l5] (vr a :: st) u bb σ Q := r_aload_n (k := 0) (by decide +kernel) rfl
theorem k218_33 : qx sc (D + 1) 218 33 ls [vr 136] (0, 0) bb σ Q ↔ qx sc D 154 0 [vr 136] [] (0, 0) bb σ (q_kn sc (D + 1) 218 36 ls [] (0, 0) Q) := r_callv (idx := 83) (n := 0) (m := 1) (by decide +kernel) rfl (Nat.le_of_ble_eq_true rfl) ⟨Nat.le_of_ble_eq_true rfl, Nat.le_of_ble_eq_true rfl, rfl⟩ rfl
theorem k218_36 : qx sc D 218 36 ls (vi x :: st) u bb σ Q ↔ (x = 0 → qx sc D 218 40 ls st u bb σ Q) ∧ (¬ (x = 0) → qx sc D 218 39 ls st u bb σ Q) := r_if_eq (off := 4) (t := 40) (by decide +kernel)
theorem k218_39 : qx sc D 218 39 ls [] (0, 0) bb σ Q ↔ Q (.inl none) bb σ := r_retV (by decide +kernel)
theorem k218_40 : qx sc D 218 40 [vr a, l1, l2, l3, l4, l5] st u bb σ Q ↔ qx sc D 218 41 [vr a, l1, l2, l3, l4, l5] (vr a :: st) u bb σ Q := r_aload_n (k := 0) (by decide +kernel) rfl
theorem k218_41 : qx sc D 218 41 ls (vr 136 :: st) u bb σ Q ↔ qx sc D 218 44 ls (vr 143 :: st) u bb σ Q := r_getR (idx := 151) (c := 15) (k := 20) (by decide +kernel)
theorem k218_44 : qx sc D 218 44 [l0, vi x, l2, l3, l4, l5] st u bb σ Q ↔ qx sc D 218 45 [l0, vi x, l2, l3, l4, l5] (vi x :: st) u bb σ Q := r_iload_n (k := 1) (by decide +kernel) rfl
theorem k218_45 : qx sc D 218 45 [vr a, l1, l2, l3, l4, l5] st u bb σ Q ↔ qx sc D 218 46 [vr a, l1, l2, l3, l4, l5] (vr a :: st) u bb σ Q := r_aload_n (k := 0) (by decide +kernel) rfl
theorem k218_46 : qx sc D 218 46 ls (vr 136 :: st) u bb σ Q ↔ qx sc D 218 49 ls (vr 147 :: st) u bb σ Q := r_getR (idx := 33) (c := 15) (k := 24) (by decide +kernel)
theorem k218_49 : qx sc D 218 49 [vr a, l1, l2, l3, l4, l5] st u bb σ Q ↔ qx sc D 218 50 [vr a, l1, l2, l3, l4, l5] (vr a :: st) u bb σ Q := r_aload_n (k := 0) (by decide +kernel) rfl
theorem k218_50 : qx sc D 218 50 ls (vr 136 :: st) u bb σ Q ↔ qx sc D 218 53 ls (vr 157 :: st) u bb σ Q := r_getR (idx := 202) (c := 15) (k := 34) (by decide +kernel)
theorem k218_53 : qx sc D 218 53 [l0, l1, l2, vi x, l4, l5] st u bb σ Q ↔ qx sc D 218 54 [l0, l1, l2, vi x, l4, l5] (vi x :: st) u bb σ Q := r_iload_n (k := 3) (by decide +kernel) rfl
theorem k218_54 : qx sc D 218 54 ls (vi i :: vr a :: st) u bb σ Q ↔ (q_ty a = 0 ∧ 0 ≤ i ∧ i < q_ln a) ∧ qx sc D 218 55 ls (vi (σ a i) :: st) u bb σ Q := r_iald (by decide +kernel)
theorem k218_55 : qx sc D 218 55 ls (vi i :: vr a :: st) u bb σ Q ↔ (q_ty a = 0 ∧ 0 ≤ i ∧ i < q_ln a) ∧ qx sc D 218 56 ls (vi (σ a i) :: st) u bb σ Q := r_iald (by decide +kernel)
theorem k218_56 : qx sc D 218 56 ls (vi x :: vi i :: vr a :: st) u bb σ Q ↔ (q_ty a = 0 ∧ 0 ≤ i ∧ i < q_ln a) ∧ qx sc D 218 57 ls st u bb (q_up σ a i x) Q := r_iast (by decide +kernel)
theorem k218_57 : qx sc D 218 57 [vr a, l1, l2, l3, l4, l5] st u bb σ Q ↔ qx sc D 218 58 [vr a, l1, l2, l3, l4, l5] (vr a :: st) u bb σ Q := r_aload_n (k := 0) (by decide +kernel) rfl
theorem k218_58 : qx sc D 218 58 ls st u bb σ Q ↔ qx sc D 218 59 ls (vi 3 :: st) u bb σ Q := r_iconst (by decide +kernel)
theorem k218_59 : qx sc D 218 59 [l0, l1, l2, vi x, l4, l5] st u bb σ Q ↔ qx sc D 218 60 [l0, l1, l2, vi x, l4, l5] (vi x :: st) u bb σ Q := r_iload_n (k := 3) (by decide +kernel) rfl
theorem k218_60 : qx sc D 218 60 [l0, l1, l2, l3, vi x, l5] st u bb σ Q ↔ qx sc D 218 62 [l0, l1, l2, l3, vi x, l5] (vi x :: st) u bb σ Q := r_iload (k := 4) (by decide +kernel) rfl
theorem k218_62 : qx sc (D + 1) 218 62 ls [vi x2, vi x1, vi x0, vr 136] (0, 0) bb σ Q ↔ qx sc D 172 0 [vr 136, vi x0, vi x1, vi x2] [] (0, 0) bb σ (q_kn sc (D + 1) 218 65 ls [] (0, 0) Q) := r_callv (idx := 186) (n := 3) (m := 4) (by decide +kernel) rfl (Nat.le_of_ble_eq_true rfl) ⟨Nat.le_of_ble_eq_true rfl, Nat.le_of_ble_eq_true rfl, rfl⟩ rfl
theorem k218_65 : qx sc D 218 65 [l0, l1, l2, l3, l4, l5] (vi x :: st) u bb σ Q ↔ qx sc D 218 67 [l0, l1, l2, l3, l4, vi x] st u bb σ Q := r_istore (k := 5) (by decide +kernel) (Nat.le_of_ble_eq_true rfl)
theorem k218_67 : qx sc D 218 67 ls [] (0, 0) bb σ Q ↔ Q (.inl none) bb σ := r_retV (by decide +kernel)
-- 219: RowProverModel.takes(I)Z
theorem k219_0 : qx sc D 219 0 [vr a, l1] st u bb σ Q ↔ qx sc D 219 1 [vr a, l1] (vr a :: st) u bb σ Q := r_aload_n (k := 0) (by decide +kernel) rfl
theorem k219_1 : qx sc (D + 1) 219 1 ls [vr 136] (0, 0) bb σ Q ↔ qx sc D 130 0 [vr 136] [] (0, 0) bb σ (q_kn sc (D + 1) 219 4 ls [] (0, 0) Q) := r_callv (idx := 79) (n := 0) (m := 1) (by decide +kernel) rfl (Nat.le_of_ble_eq_true rfl) ⟨Nat.le_of_ble_eq_true rfl, Nat.le_of_ble_eq_true rfl, rfl⟩ rfl
theorem k219_4 : qx sc D 219 4 [vr a, l1] st u bb σ Q ↔ qx sc D 219 5 [vr a, l1] (vr a :: st) u bb σ Q := r_aload_n (k := 0) (by decide +kernel) rfl
theorem k219_5 : qx sc (D + 1) 219 5 ls [vr 136] (0, 0) bb σ Q ↔ qx sc D 154 0 [vr 136] [] (0, 0) bb σ (q_kn sc (D + 1) 219 8 ls [] (0, 0) Q) := r_callv (idx := 83) (n := 0) (m := 1) (by decide +kernel) rfl (Nat.le_of_ble_eq_true rfl) ⟨Nat.le_of_ble_eq_true rfl, Nat.le_of_ble_eq_true rfl, rfl⟩ rfl
theorem k219_8 : qx sc D 219 8 ls (vi x :: st) u bb σ Q ↔ (x = 0 → qx sc D 219 11 ls st u bb σ Q) ∧ (¬ (x = 0) → qx sc D 219 20 ls st u bb σ Q) := r_if_ne (off := 12) (t := 20) (by decide +kernel)
theorem k219_11 : qx sc D 219 11 [vr a, l1] st u bb σ Q ↔ qx sc D 219 12 [vr a, l1] (vr a :: st) u bb σ Q := r_aload_n (k := 0) (by decide +kernel) rfl
theorem k219_12 : qx sc D 219 12 [l0, vi x] st u bb σ Q ↔ qx sc D 219 13 [l0, vi x] (vi x :: st) u bb σ Q := r_iload_n (k := 1) (by decide +kernel) rfl
theorem k219_13 : qx sc D 219 13 [l0, vi x] st u bb σ Q ↔ qx sc D 219 14 [l0, vi x] (vi x :: st) u bb σ Q := r_iload_n (k := 1) (by decide +kernel) rfl
theorem k219_14 : qx sc (D + 1) 219 14 ls [vi x1, vi x0, vr 136] (0, 0) bb σ Q ↔ qx sc D 159 0 [vr 136, vi x0, vi x1] [] (0, 0) bb σ (q_kn sc (D + 1) 219 17 ls [] (0, 0) Q) := r_callv (idx := 72) (n := 2) (m := 3) (by decide +kernel) rfl (Nat.le_of_ble_eq_true rfl) ⟨Nat.le_of_ble_eq_true rfl, Nat.le_of_ble_eq_true rfl, rfl⟩ rfl
theorem k219_17 : qx sc D 219 17 ls (vi x :: st) u bb σ Q ↔ (x = 0 → qx sc D 219 20 ls st u bb σ Q) ∧ (¬ (x = 0) → qx sc D 219 22 ls st u bb σ Q) := r_if_ne (off := 5) (t := 22) (by decide +kernel)
theorem k219_20 : qx sc D 219 20 ls st u bb σ Q ↔ qx sc D 219 21 ls (vi 0 :: st) u bb σ Q := r_iconst (by decide +kernel)
theorem k219_21 : qx sc D 219 21 ls [vi x] (0, 0) bb σ Q ↔ (x = 0 ∨ x = 1) ∧ Q (.inl (some (vi x))) bb σ := r_retB (by decide +kernel)
theorem k219_22 : qx sc D 219 22 [vr a, l1] st u bb σ Q ↔ qx sc D 219 23 [vr a, l1] (vr a :: st) u bb σ Q := r_aload_n (k := 0) (by decide +kernel) rfl
theorem k219_23 : qx sc D 219 23 ls (vr a :: st) u bb σ Q ↔ qx sc D 219 24 ls (vr a :: vr a :: st) u bb σ Q := r_dupA (by decide +kernel)
theorem k219_24 : qx sc D 219 24 ls (vr 136 :: st) u bb σ Q ↔ qx sc D 219 27 ls (vi (σ 136 8) :: st) u bb σ Q := r_getI (idx := 63) (c := 15) (k := 8) (by decide +kernel)
theorem k219_27 : qx sc D 219 27 ls st u bb σ Q ↔ qx sc D 219 28 ls (vi 1 :: st) u bb σ Q := r_iconst (by decide +kernel)
theorem k219_28 : qx sc D 219 28 ls (vi b' :: vi a' :: st) u bb σ Q ↔ q_R (a' + b') ∧ qx sc D 219 29 ls (vi (a' + b') :: st) u bb σ Q := r_iadd (by decide +kernel)
theorem k219_29 : qx sc D 219 29 ls (vi x :: vr 136 :: st) u bb σ Q ↔ qx sc D 219 32 ls st u bb (q_up σ 136 8 x) Q := r_putI (idx := 63) (c := 15) (k := 8) (by decide +kernel)
theorem k219_32 : qx sc D 219 32 ls st u bb σ Q ↔ qx sc D 219 33 ls (vi 1 :: st) u bb σ Q := r_iconst (by decide +kernel)
theorem k219_33 : qx sc D 219 33 ls [vi x] (0, 0) bb σ Q ↔ (x = 0 ∨ x = 1) ∧ Q (.inl (some (vi x))) bb σ := r_retB (by decide +kernel)
-- 220: RowProverModel.takesNow(I)V
theorem k220_0 : qx sc D 220 0 ls st u bb σ Q ↔ qx sc D 220 1 ls (vi 0 :: st) u bb σ Q := r_iconst (by decide +kernel)
theorem k220_1 : qx sc D 220 1 [l0, l1, l2] (vi x :: st) u bb σ Q ↔ qx sc D 220 2 [l0, l1, vi x] st u bb σ Q := r_istore_n (k := 2) (by decide +kernel) (Nat.le_of_ble_eq_true rfl)
theorem k220_2 : qx sc D 220 2 [l0, l1, vi x] st u bb σ Q ↔ qx sc D 220 3 [l0, l1, vi x] (vi x :: st) u bb σ Q := r_iload_n (k := 2) (by decide +kernel) rfl
theorem k220_3 : qx sc D 220 3 ls st u bb σ Q ↔ qx sc D 220 5 ls (vi 8 :: st) u bb σ Q := r_bipush (by decide +kernel)
theorem k220_5 : qx sc D 220 5 ls (vi b' :: vi a' :: st) u bb σ Q ↔ (a' < b' → qx sc D 220 8 ls st u bb σ Q) ∧ (¬ (a' < b') → qx sc D 220 28 ls st u bb σ Q) := r_ic_ge (off := 23) (t := 28) (by decide +kernel)
theorem k220_8 : qx sc D 220 8 [vr a, l1, l2] st u bb σ Q ↔ qx sc D 220 9 [vr a, l1, l2] (vr a :: st) u bb σ Q := r_aload_n (k := 0) (by decide +kernel) rfl
theorem k220_9 : qx sc D 220 9 ls (vr 136 :: st) u bb σ Q ↔ qx sc D 220 12 ls (vr 171 :: st) u bb σ Q := r_getR (idx := 57) (c := 15) (k := 48) (by decide +kernel)
theorem k220_12 : qx sc D 220 12 [l0, l1, vi x] st u bb σ Q ↔ qx sc D 220 13 [l0, l1, vi x] (vi x :: st) u bb σ Q := r_iload_n (k := 2) (by decide +kernel) rfl
theorem k220_13 : qx sc D 220 13 [vr a, l1, l2] st u bb σ Q ↔ qx sc D 220 14 [vr a, l1, l2] (vr a :: st) u bb σ Q := r_aload_n (k := 0) (by decide +kernel) rfl
theorem k220_14 : qx sc D 220 14 ls (vr 136 :: st) u bb σ Q ↔ qx sc D 220 17 ls (vr 172 :: st) u bb σ Q := r_getR (idx := 248) (c := 15) (k := 50) (by decide +kernel)
theorem k220_17 : qx sc D 220 17 [l0, vi x, l2] st u bb σ Q ↔ qx sc D 220 18 [l0, vi x, l2] (vi x :: st) u bb σ Q := r_iload_n (k := 1) (by decide +kernel) rfl
theorem k220_18 : qx sc D 220 18 [l0, l1, vi x] st u bb σ Q ↔ qx sc D 220 19 [l0, l1, vi x] (vi x :: st) u bb σ Q := r_iload_n (k := 2) (by decide +kernel) rfl
theorem k220_19 : qx sc D 220 19 ls (vi b' :: vi a' :: st) u bb σ Q ↔ q_R (a' + b') ∧ qx sc D 220 20 ls (vi (a' + b') :: st) u bb σ Q := r_iadd (by decide +kernel)
theorem k220_20 : qx sc D 220 20 ls (vi i :: vr a :: st) u bb σ Q ↔ (q_ty a = 0 ∧ 0 ≤ i ∧ i < q_ln a) ∧ qx sc D 220 21 ls (vi (σ a i) :: st) u bb σ Q := r_iald (by decide +kernel)
theorem k220_21 : qx sc D 220 21 ls (vi x :: vi i :: vr a :: st) u bb σ Q ↔ (q_ty a = 0 ∧ 0 ≤ i ∧ i < q_ln a) ∧ qx sc D 220 22 ls st u bb (q_up σ a i x) Q := r_iast (by decide +kernel)
theorem k220_22 : qx sc D 220 22 [l0, l1, vi x] st u bb σ Q ↔ q_R (x + 1) ∧ qx sc D 220 25 [l0, l1, vi (x + 1)] st u bb σ Q := r_iinc (k := 2) (n := 1) (by decide +kernel) rfl
theorem k220_25 : qx sc D 220 25 ls st u bb σ Q ↔ qx sc D 220 2 ls st u bb σ Q := r_goto (off := (-23)) (by decide +kernel)
theorem k220_28 : qx sc D 220 28 ls [] (0, 0) bb σ Q ↔ Q (.inl none) bb σ := r_retV (by decide +kernel)
-- 221: RowProverModel.takesWord(Ljava/lang/String;)Z
theorem k221_0 : qx sc D 221 0 [vr a, l1, l2] st u bb σ Q ↔ qx sc D 221 1 [vr a, l1, l2] (vr a :: st) u bb σ Q := r_aload_n (k := 0) (by decide +kernel) rfl
theorem k221_1 : qx sc D 221 1 [l0, vr a, l2] st u bb σ Q ↔ qx sc D 221 2 [l0, vr a, l2] (vr a :: st) u bb σ Q := r_aload_n (k := 1) (by decide +kernel) rfl
theorem k221_2 : qx sc (D + 1) 221 2 ls [vr a0, vr 136] (0, 0) bb σ Q ↔ qx sc D 169 0 [vr 136, vr a0, vn, vn] [] (0, 0) bb σ (q_kn sc (D + 1) 221 5 ls [] (0, 0) Q) := r_callv (idx := 107) (n := 1) (m := 4) (by decide +kernel) rfl (Nat.le_of_ble_eq_true rfl) ⟨Nat.le_of_ble_eq_true rfl, Nat.le_of_ble_eq_true rfl, rfl⟩ rfl
theorem k221_5 : qx sc D 221 5 [l0, l1, l2] (vi x :: st) u bb σ Q ↔ qx sc D 221 6 [l0, l1, vi x] st u bb σ Q := r_istore_n (k := 2) (by decide +kernel) (Nat.le_of_ble_eq_true rfl)
theorem k221_6 : qx sc D 221 6 [l0, l1, vi x] st u bb σ Q ↔ qx sc D 221 7 [l0, l1, vi x] (vi x :: st) u bb σ Q := r_iload_n (k := 2) (by decide +kernel) rfl
theorem k221_7 : qx sc D 221 7 ls (vi x :: st) u bb σ Q ↔ (x = 0 → qx sc D 221 23 ls st u bb σ Q) ∧ (¬ (x = 0) → qx sc D 221 10 ls st u bb σ Q) := r_if_eq (off := 16) (t := 23) (by decide +kernel)
theorem k221_10 : qx sc D 221 10 [vr a, l1, l2] st u bb σ Q ↔ qx sc D 221 11 [vr a, l1, l2] (vr a :: st) u bb σ Q := r_aload_n (k := 0) (by decide +kernel) rfl
theorem k221_11 : qx sc D 221 11 ls (vr a :: st) u bb σ Q ↔ qx sc D 221 12 ls (vr a :: vr a :: st) u bb σ Q := r_dupA (by decide +kernel)
theorem k221_12 : qx sc D 221 12 ls (vr 136 :: st) u bb σ Q ↔ qx sc D 221 15 ls (vi (σ 136 8) :: st) u bb σ Q := r_getI (idx := 63) (c := 15) (k := 8) (by decide +kernel)
theorem k221_15 : qx sc D 221 15 [l0, vr a, l2] st u bb σ Q ↔ qx sc D 221 16 [l0, vr a, l2] (vr a :: st) u bb σ Q := r_aload_n (k := 1) (by decide +kernel) rfl
theorem k221_16 (hj : b < 12) : qx sc D 221 16 ls [vr (q_tr b), vi x20, vr a21] (0, 0) bb σ Q ↔ qx sc D 221 19 ls [vi ((pm_tx.getD b []).length : Nat), vi x20, vr a21] (0, 0) bb σ Q := r_slen (idx := 98) (y' := 0) (by decide +kernel) hj (Nat.le_of_ble_eq_true rfl) (Nat.le_of_ble_eq_true rfl)
theorem k221_19 : qx sc D 221 19 ls (vi b' :: vi a' :: st) u bb σ Q ↔ q_R (a' + b') ∧ qx sc D 221 20 ls (vi (a' + b') :: st) u bb σ Q := r_iadd (by decide +kernel)
theorem k221_20 : qx sc D 221 20 ls (vi x :: vr 136 :: st) u bb σ Q ↔ qx sc D 221 23 ls st u bb (q_up σ 136 8 x) Q := r_putI (idx := 63) (c := 15) (k := 8) (by decide +kernel)
theorem k221_23 : qx sc D 221 23 [l0, l1, vi x] st u bb σ Q ↔ qx sc D 221 24 [l0, l1, vi x] (vi x :: st) u bb σ Q := r_iload_n (k := 2) (by decide +kernel) rfl
theorem k221_24 : qx sc D 221 24 ls [vi x] (0, 0) bb σ Q ↔ (x = 0 ∨ x = 1) ∧ Q (.inl (some (vi x))) bb σ := r_retB (by decide +kernel)
-- 222: RowProverModel.test(I)V
theorem k222_0 : qx sc D 222 0 [vr a, l1] st u bb σ Q ↔ qx sc D 222 1 [vr a, l1] (vr a :: st) u bb σ Q := r_aload_n (k := 0) (by decide +kernel) rfl
theorem k222_1 : qx sc D 222 1 [l0, vi x] st u bb σ Q ↔ qx sc D 222 2 [l0, vi x] (vi x :: st) u bb σ Q := r_iload_n (k := 1) (by decide +kernel) rfl
theorem k222_2 : qx sc D 222 2 ls st u bb σ Q ↔ qx sc D 222 3 ls (vi 0 :: st) u bb σ Q := r_iconst (by decide +kernel)
theorem k222_3 : qx sc (D + 1) 222 3 ls [vi x1, vi x0, vr 136] (0, 0) bb σ Q ↔ qx sc D 212 0 [vr 136, vi x0, vi x1, vn] [] (0, 0) bb σ (q_kn sc (D + 1) 222 6 ls [] (0, 0) Q) := r_callv (idx := 226) (n := 2) (m := 4) (by decide +kernel) rfl (Nat.le_of_ble_eq_true rfl) ⟨Nat.le_of_ble_eq_true rfl, Nat.le_of_ble_eq_true rfl, rfl⟩ rfl
theorem k222_6 : qx sc D 222 6 [vr a, l1] st u bb σ Q ↔ qx sc D 222 7 [vr a, l1] (vr a :: st) u bb σ Q := r_aload_n (k := 0) (by decide +kernel) rfl
theorem k222_7 : qx sc (D + 1) 222 7 ls [vr 136] (0, 0) bb σ Q ↔ qx sc D 154 0 [vr 136] [] (0, 0) bb σ (q_kn sc (D + 1) 222 10 ls [] (0, 0) Q) := r_callv (idx := 83) (n := 0) (m := 1) (by decide +kernel) rfl (Nat.le_of_ble_eq_true rfl) ⟨Nat.le_of_ble_eq_true rfl, Nat.le_of_ble_eq_true rfl, rfl⟩ rfl
theorem k222_10 : qx sc D 222 10 ls (vi x :: st) u bb σ Q ↔ (x = 0 → qx sc D 222 14 ls st u bb σ Q) ∧ (¬ (x = 0) → qx sc D 222 13 ls st u bb σ Q) := r_if_eq (off := 4) (t := 14) (by decide +kernel)
theorem k222_13 : qx sc D 222 13 ls [] (0, 0) bb σ Q ↔ Q (.inl none) bb σ := r_retV (by decide +kernel)
theorem k222_14 : qx sc D 222 14 [vr a, l1] st u bb σ Q ↔ qx sc D 222 15 [vr a, l1] (vr a :: st) u bb σ Q := r_aload_n (k := 0) (by decide +kernel) rfl
theorem k222_15 : qx sc D 222 15 ls st u bb σ Q ↔ qx sc D 222 17 ls (vi 60 :: st) u bb σ Q := r_bipush (by decide +kernel)
theorem k222_17 : qx sc (D + 1) 222 17 ls [vi x0, vr 136] (0, 0) bb σ Q ↔ qx sc D 219 0 [vr 136, vi x0] [] (0, 0) bb σ (q_kn sc (D + 1) 222 20 ls [] (0, 0) Q) := r_callv (idx := 87) (n := 1) (m := 2) (by decide +kernel) rfl (Nat.le_of_ble_eq_true rfl) ⟨Nat.le_of_ble_eq_true rfl, Nat.le_of_ble_eq_true rfl, rfl⟩ rfl
theorem k222_20 : qx sc D 222 20 ls (vi x :: st) u bb σ Q ↔ (x = 0 → qx sc D 222 63 ls st u bb σ Q) ∧ (¬ (x = 0) → qx sc D 222 23 ls st u bb σ Q) := r_if_eq (off := 43) (t := 63) (by decide +kernel)
theorem k222_23 : qx sc D 222 23 [vr a, l1] st u bb σ Q ↔ qx sc D 222 24 [vr a, l1] (vr a :: st) u bb σ Q := r_aload_n (k := 0) (by decide +kernel) rfl
theorem k222_24 : qx sc D 222 24 ls (vr 136 :: st) u bb σ Q ↔ qx sc D 222 27 ls (vr 164 :: st) u bb σ Q := r_getR (idx := 230) (c := 15) (k := 41) (by decide +kernel)
theorem k222_27 : qx sc D 222 27 [l0, vi x] st u bb σ Q ↔ qx sc D 222 28 [l0, vi x] (vi x :: st) u bb σ Q := r_iload_n (k := 1) (by decide +kernel) rfl
theorem k222_28 : qx sc D 222 28 [vr a, l1] st u bb σ Q ↔ qx sc D 222 29 [vr a, l1] (vr a :: st) u bb σ Q := r_aload_n (k := 0) (by decide +kernel) rfl
theorem k222_29 : qx sc D 222 29 ls st u bb σ Q ↔ qx sc D 222 31 ls (vi 61 :: st) u bb σ Q := r_bipush (by decide +kernel)
theorem k222_31 : qx sc D 222 31 ls st u bb σ Q ↔ qx sc D 222 33 ls (vi 61 :: st) u bb σ Q := r_bipush (by decide +kernel)
theorem k222_33 : qx sc (D + 1) 222 33 ls [vi x1, vi x0, vr 136, vi x20, vr a21] (0, 0) bb σ Q ↔ qx sc D 159 0 [vr 136, vi x0, vi x1] [] (0, 0) bb σ (q_kn sc (D + 1) 222 36 ls [vi x20, vr a21] (0, 0) Q) := r_callv (idx := 72) (n := 2) (m := 3) (by decide +kernel) rfl (Nat.le_of_ble_eq_true rfl) ⟨Nat.le_of_ble_eq_true rfl, Nat.le_of_ble_eq_true rfl, rfl⟩ rfl
theorem k222_36 : qx sc D 222 36 ls (vi x :: st) u bb σ Q ↔ (x = 0 → qx sc D 222 43 ls st u bb σ Q) ∧ (¬ (x = 0) → qx sc D 222 39 ls st u bb σ Q) := r_if_eq (off := 7) (t := 43) (by decide +kernel)
theorem k222_39 : qx sc D 222 39 ls st u bb σ Q ↔ qx sc D 222 40 ls (vi 1 :: st) u bb σ Q := r_iconst (by decide +kernel)
theorem k222_40 : qx sc D 222 40 ls st u bb σ Q ↔ qx sc D 222 44 ls st u bb σ Q := r_goto (off := 4) (by decide +kernel)
theorem k222_43 : qx sc D 222 43 ls st u bb σ Q ↔ qx sc D 222 44 ls (vi 0 :: st) u bb σ Q := r_iconst (by decide +kernel)
theorem k222_44 : qx sc D 222 44 ls (vi x :: vi i :: vr a :: st) u bb σ Q ↔ (q_ty a = 0 ∧ 0 ≤ i ∧ i < q_ln a) ∧ qx sc D 222 45 ls st u bb (q_up σ a i x) Q := r_iast (by decide +kernel)
theorem k222_45 : qx sc D 222 45 [vr a, l1] st u bb σ Q ↔ qx sc D 222 46 [vr a, l1] (vr a :: st) u bb σ Q := r_aload_n (k := 0) (by decide +kernel) rfl
theorem k222_46 : qx sc D 222 46 ls (vr a :: st) u bb σ Q ↔ qx sc D 222 47 ls (vr a :: vr a :: st) u bb σ Q := r_dupA (by decide +kernel)
theorem k222_47 : qx sc D 222 47 ls (vr 136 :: st) u bb σ Q ↔ qx sc D 222 50 ls (vi (σ 136 8) :: st) u bb σ Q := r_getI (idx := 63) (c := 15) (k := 8) (by decide +kernel)
theorem k222_50 : qx sc D 222 50 [vr a, l1] st u bb σ Q ↔ qx sc D 222 51 [vr a, l1] (vr a :: st) u bb σ Q := r_aload_n (k := 0) (by decide +kernel) rfl
theorem k222_51 : qx sc D 222 51 ls (vr 136 :: st) u bb σ Q ↔ qx sc D 222 54 ls (vr 164 :: st) u bb σ Q := r_getR (idx := 230) (c := 15) (k := 41) (by decide +kernel)
theorem k222_54 : qx sc D 222 54 [l0, vi x] st u bb σ Q ↔ qx sc D 222 55 [l0, vi x] (vi x :: st) u bb σ Q := r_iload_n (k := 1) (by decide +kernel) rfl
theorem k222_55 : qx sc D 222 55 ls (vi i :: vr a :: st) u bb σ Q ↔ (q_ty a = 0 ∧ 0 ≤ i ∧ i < q_ln a) ∧ qx sc D 222 56 ls (vi (σ a i) :: st) u bb σ Q := r_iald (by decide +kernel)
theorem k222_56 : qx sc D 222 56 ls (vi b' :: vi a' :: st) u bb σ Q ↔ q_R (a' + b') ∧ qx sc D 222 57 ls (vi (a' + b') :: st) u bb σ Q := r_iadd (by decide +kernel)
theorem k222_57 : qx sc D 222 57 ls (vi x :: vr 136 :: st) u bb σ Q ↔ qx sc D 222 60 ls st u bb (q_up σ 136 8 x) Q := r_putI (idx := 63) (c := 15) (k := 8) (by decide +kernel)
theorem k222_60 : qx sc D 222 60 ls st u bb σ Q ↔ qx sc D 222 86 ls st u bb σ Q := r_goto (off := 26) (by decide +kernel)
theorem k222_63 : qx sc D 222 63 [vr a, l1] st u bb σ Q ↔ qx sc D 222 64 [vr a, l1] (vr a :: st) u bb σ Q := r_aload_n (k := 0) (by decide +kernel) rfl
theorem k222_64 : qx sc D 222 64 ls st u bb σ Q ↔ qx sc D 222 66 ls (vi 61 :: st) u bb σ Q := r_bipush (by decide +kernel)
theorem k222_66 : qx sc (D + 1) 222 66 ls [vi x0, vr 136] (0, 0) bb σ Q ↔ qx sc D 219 0 [vr 136, vi x0] [] (0, 0) bb σ (q_kn sc (D + 1) 222 69 ls [] (0, 0) Q) := r_callv (idx := 87) (n := 1) (m := 2) (by decide +kernel) rfl (Nat.le_of_ble_eq_true rfl) ⟨Nat.le_of_ble_eq_true rfl, Nat.le_of_ble_eq_true rfl, rfl⟩ rfl
theorem k222_69 : qx sc D 222 69 ls (vi x :: st) u bb σ Q ↔ (x = 0 → qx sc D 222 82 ls st u bb σ Q) ∧ (¬ (x = 0) → qx sc D 222 72 ls st u bb σ Q) := r_if_eq (off := 13) (t := 82) (by decide +kernel)
theorem k222_72 : qx sc D 222 72 [vr a, l1] st u bb σ Q ↔ qx sc D 222 73 [vr a, l1] (vr a :: st) u bb σ Q := r_aload_n (k := 0) (by decide +kernel) rfl
theorem k222_73 : qx sc D 222 73 ls (vr 136 :: st) u bb σ Q ↔ qx sc D 222 76 ls (vr 164 :: st) u bb σ Q := r_getR (idx := 230) (c := 15) (k := 41) (by decide +kernel)
theorem k222_76 : qx sc D 222 76 [l0, vi x] st u bb σ Q ↔ qx sc D 222 77 [l0, vi x] (vi x :: st) u bb σ Q := r_iload_n (k := 1) (by decide +kernel) rfl
theorem k222_77 : qx sc D 222 77 ls st u bb σ Q ↔ qx sc D 222 78 ls (vi 2 :: st) u bb σ Q := r_iconst (by decide +kernel)
theorem k222_78 : qx sc D 222 78 ls (vi x :: vi i :: vr a :: st) u bb σ Q ↔ (q_ty a = 0 ∧ 0 ≤ i ∧ i < q_ln a) ∧ qx sc D 222 79 ls st u bb (q_up σ a i x) Q := r_iast (by decide +kernel)
theorem k222_79 : qx sc D 222 79 ls st u bb σ Q ↔ qx sc D 222 86 ls st u bb σ Q := r_goto (off := 7) (by decide +kernel)
theorem k222_82 : qx sc D 222 82 [vr a, l1] st u bb σ Q ↔ qx sc D 222 83 [vr a, l1] (vr a :: st) u bb σ Q := r_aload_n (k := 0) (by decide +kernel) rfl
theorem k222_83 : qx sc (D + 1) 222 83 ls [vr 136] (0, 0) bb σ Q ↔ qx sc D 148 0 [vr 136] [] (0, 0) bb σ (q_kn sc (D + 1) 222 86 ls [] (0, 0) Q) := r_callv (idx := 91) (n := 0) (m := 1) (by decide +kernel) rfl (Nat.le_of_ble_eq_true rfl) ⟨Nat.le_of_ble_eq_true rfl, Nat.le_of_ble_eq_true rfl, rfl⟩ rfl
theorem k222_86 : qx sc D 222 86 [vr a, l1] st u bb σ Q ↔ qx sc D 222 87 [vr a, l1] (vr a :: st) u bb σ Q := r_aload_n (k := 0) (by decide +kernel) rfl
theorem k222_87 : qx sc D 222 87 [l0, vi x] st u bb σ Q ↔ qx sc D 222 88 [l0, vi x] (vi x :: st) u bb σ Q := r_iload_n (k := 1) (by decide +kernel) rfl
theorem k222_88 : qx sc D 222 88 ls st u bb σ Q ↔ qx sc D 222 89 ls (vi 1 :: st) u bb σ Q := r_iconst (by decide +kernel)
theorem k222_89 : qx sc (D + 1) 222 89 ls [vi x1, vi x0, vr 136] (0, 0) bb σ Q ↔ qx sc D 212 0 [vr 136, vi x0, vi x1, vn] [] (0, 0) bb σ (q_kn sc (D + 1) 222 92 ls [] (0, 0) Q) := r_callv (idx := 226) (n := 2) (m := 4) (by decide +kernel) rfl (Nat.le_of_ble_eq_true rfl) ⟨Nat.le_of_ble_eq_true rfl, Nat.le_of_ble_eq_true rfl, rfl⟩ rfl
theorem k222_92 : qx sc D 222 92 ls [] (0, 0) bb σ Q ↔ Q (.inl none) bb σ := r_retV (by decide +kernel)
-- 223: RowProverModel.thrown()I
theorem k223_0 : qx sc D 223 0 [vr a] st u bb σ Q ↔ qx sc D 223 1 [vr a] (vr a :: st) u bb σ Q := r_aload_n (k := 0) (by decide +kernel) rfl
theorem k223_1 : qx sc D 223 1 ls (vr 136 :: st) u bb σ Q ↔ qx sc D 223 4 ls (vi (σ 136 0) :: st) u bb σ Q := r_getI (idx := 3) (c := 15) (k := 0) (by decide +kernel)
theorem k223_4 : qx sc D 223 4 ls [vi x] (0, 0) bb σ Q ↔ Q (.inl (some (vi x))) bb σ := r_ret (by decide +kernel)
-- 224: RowProverModel.throwsIf(ZI)Z
theorem k224_0 : qx sc D 224 0 [l0, vi x, l2] st u bb σ Q ↔ qx sc D 224 1 [l0, vi x, l2] (vi x :: st) u bb σ Q := r_iload_n (k := 1) (by decide +kernel) rfl
theorem k224_1 : qx sc D 224 1 ls (vi x :: st) u bb σ Q ↔ (x = 0 → qx sc D 224 9 ls st u bb σ Q) ∧ (¬ (x = 0) → qx sc D 224 4 ls st u bb σ Q) := r_if_eq (off := 8) (t := 9) (by decide +kernel)
theorem k224_4 : qx sc D 224 4 [vr a, l1, l2] st u bb σ Q ↔ qx sc D 224 5 [vr a, l1, l2] (vr a :: st) u bb σ Q := r_aload_n (k := 0) (by decide +kernel) rfl
theorem k224_5 : qx sc D 224 5 [l0, l1, vi x] st u bb σ Q ↔ qx sc D 224 6 [l0, l1, vi x] (vi x :: st) u bb σ Q := r_iload_n (k := 2) (by decide +kernel) rfl
theorem k224_6 : qx sc D 224 6 ls (vi x :: vr 136 :: st) u bb σ Q ↔ qx sc D 224 9 ls st u bb (q_up σ 136 0 x) Q := r_putI (idx := 3) (c := 15) (k := 0) (by decide +kernel)
theorem k224_9 : qx sc D 224 9 [l0, vi x, l2] st u bb σ Q ↔ qx sc D 224 10 [l0, vi x, l2] (vi x :: st) u bb σ Q := r_iload_n (k := 1) (by decide +kernel) rfl
theorem k224_10 : qx sc D 224 10 ls [vi x] (0, 0) bb σ Q ↔ (x = 0 ∨ x = 1) ∧ Q (.inl (some (vi x))) bb σ := r_retB (by decide +kernel)
-- 225: RowProverModel.told(I)I
theorem k225_0 : qx sc D 225 0 [vi x] st u bb σ Q ↔ qx sc D 225 1 [vi x] (vi x :: st) u bb σ Q := r_iload_n (k := 0) (by decide +kernel) rfl
theorem k225_1 : qx sc D 225 1 ls st u bb σ Q ↔ qx sc D 225 4 ls (vi 268435456 :: st) u bb σ Q := r_ldc_w (idx := 361) (v := 268435456) (by decide +kernel)
theorem k225_4 : qx sc D 225 4 ls (vi b' :: vi a' :: st) u bb σ Q ↔ (a' = b' → qx sc D 225 14 ls st u bb σ Q) ∧ (¬ (a' = b') → qx sc D 225 7 ls st u bb σ Q) := r_ic_eq (off := 10) (t := 14) (by decide +kernel)
theorem k225_7 : qx sc D 225 7 [vi x] st u bb σ Q ↔ qx sc D 225 8 [vi x] (vi x :: st) u bb σ Q := r_iload_n (k := 0) (by decide +kernel) rfl
theorem k225_8 : qx sc D 225 8 ls st u bb σ Q ↔ qx sc D 225 11 ls (vi (-268435456) :: st) u bb σ Q := r_ldc_w (idx := 362) (v := (-268435456)) (by decide +kernel)
theorem k225_11 : qx sc D 225 11 ls (vi b' :: vi a' :: st) u bb σ Q ↔ (a' = b' → qx sc D 225 14 ls st u bb σ Q) ∧ (¬ (a' = b') → qx sc D 225 20 ls st u bb σ Q) := r_ic_ne (off := 9) (t := 20) (by decide +kernel)
theorem k225_14 : qx sc D 225 14 ls st u bb σ Q ↔ qx sc D 225 17 ls (vi 99999 :: st) u bb σ Q := r_ldc_w (idx := 517) (v := 99999) (by decide +kernel)
theorem k225_17 : qx sc D 225 17 ls st u bb σ Q ↔ qx sc D 225 21 ls st u bb σ Q := r_goto (off := 4) (by decide +kernel)
theorem k225_20 : qx sc D 225 20 [vi x] st u bb σ Q ↔ qx sc D 225 21 [vi x] (vi x :: st) u bb σ Q := r_iload_n (k := 0) (by decide +kernel) rfl
theorem k225_21 : qx sc D 225 21 ls [vi x] (0, 0) bb σ Q ↔ Q (.inl (some (vi x))) bb σ := r_ret (by decide +kernel)
-- 226: RowProverModel.toldIn(II)I
theorem k226_0 : qx sc D 226 0 ls st u bb σ Q ↔ qx sc D 226 1 ls (vi 0 :: st) u bb σ Q := r_iconst (by decide +kernel)
theorem k226_1 : qx sc D 226 1 [l0, l1, l2, l3, l4] (vi x :: st) u bb σ Q ↔ qx sc D 226 2 [l0, l1, l2, vi x, l4] st u bb σ Q := r_istore_n (k := 3) (by decide +kernel) (Nat.le_of_ble_eq_true rfl)
theorem k226_2 : qx sc D 226 2 [l0, vi x, l2, l3, l4] st u bb σ Q ↔ qx sc D 226 3 [l0, vi x, l2, l3, l4] (vi x :: st) u bb σ Q := r_iload_n (k := 1) (by decide +kernel) rfl
theorem k226_3 : qx sc D 226 3 [l0, l1, l2, l3, l4] (vi x :: st) u bb σ Q ↔ qx sc D 226 5 [l0, l1, l2, l3, vi x] st u bb σ Q := r_istore (k := 4) (by decide +kernel) (Nat.le_of_ble_eq_true rfl)
theorem k226_5 : qx sc D 226 5 [l0, l1, l2, l3, vi x] st u bb σ Q ↔ qx sc D 226 7 [l0, l1, l2, l3, vi x] (vi x :: st) u bb σ Q := r_iload (k := 4) (by decide +kernel) rfl
theorem k226_7 : qx sc D 226 7 [l0, l1, vi x, l3, l4] st u bb σ Q ↔ qx sc D 226 8 [l0, l1, vi x, l3, l4] (vi x :: st) u bb σ Q := r_iload_n (k := 2) (by decide +kernel) rfl
theorem k226_8 : qx sc D 226 8 ls (vi b' :: vi a' :: st) u bb σ Q ↔ (a' < b' → qx sc D 226 11 ls st u bb σ Q) ∧ (¬ (a' < b') → qx sc D 226 50 ls st u bb σ Q) := r_ic_ge (off := 42) (t := 50) (by decide +kernel)
theorem k226_11 : qx sc D 226 11 [vr a, l1, l2, l3, l4] st u bb σ Q ↔ qx sc D 226 12 [vr a, l1, l2, l3, l4] (vr a :: st) u bb σ Q := r_aload_n (k := 0) (by decide +kernel) rfl
theorem k226_12 : qx sc D 226 12 ls (vr 136 :: st) u bb σ Q ↔ qx sc D 226 15 ls (vr 142 :: st) u bb σ Q := r_getR (idx := 166) (c := 15) (k := 19) (by decide +kernel)
theorem k226_15 : qx sc D 226 15 [l0, l1, l2, l3, vi x] st u bb σ Q ↔ qx sc D 226 17 [l0, l1, l2, l3, vi x] (vi x :: st) u bb σ Q := r_iload (k := 4) (by decide +kernel) rfl
theorem k226_17 : qx sc D 226 17 ls (vi i :: vr a :: st) u bb σ Q ↔ (q_ty a = 0 ∧ 0 ≤ i ∧ i < q_ln a) ∧ qx sc D 226 18 ls (vi (σ a i) :: st) u bb σ Q := r_iald (by decide +kernel)
theorem k226_18 : qx sc D 226 18 ls (vi x :: st) u bb σ Q ↔ (x = 0 → qx sc D 226 21 ls st u bb σ Q) ∧ (¬ (x = 0) → qx sc D 226 44 ls st u bb σ Q) := r_if_ne (off := 26) (t := 44) (by decide +kernel)
theorem k226_21 : qx sc D 226 21 [vr a, l1, l2, l3, l4] st u bb σ Q ↔ qx sc D 226 22 [vr a, l1, l2, l3, l4] (vr a :: st) u bb σ Q := r_aload_n (k := 0) (by decide +kernel) rfl
theorem k226_22 : qx sc D 226 22 ls (vr 136 :: st) u bb σ Q ↔ qx sc D 226 25 ls (vr 143 :: st) u bb σ Q := r_getR (idx := 151) (c := 15) (k := 20) (by decide +kernel)
theorem k226_25 : qx sc D 226 25 [l0, l1, l2, l3, vi x] st u bb σ Q ↔ qx sc D 226 27 [l0, l1, l2, l3, vi x] (vi x :: st) u bb σ Q := r_iload (k := 4) (by decide +kernel) rfl
theorem k226_27 : qx sc D 226 27 ls (vi i :: vr a :: st) u bb σ Q ↔ (q_ty a = 0 ∧ 0 ≤ i ∧ i < q_ln a) ∧ qx sc D 226 28 ls (vi (σ a i) :: st) u bb σ Q := r_iald (by decide +kernel)
theorem k226_28 : qx sc D 226 28 ls st u bb σ Q ↔ qx sc D 226 29 ls (vi (-1) :: st) u bb σ Q := r_iconst (by decide +kernel)
theorem k226_29 : qx sc D 226 29 ls (vi b' :: vi a' :: st) u bb σ Q ↔ (a' = b' → qx sc D 226 44 ls st u bb σ Q) ∧ (¬ (a' = b') → qx sc D 226 32 ls st u bb σ Q) := r_ic_eq (off := 15) (t := 44) (by decide +kernel)
theorem k226_32 : qx sc D 226 32 [l0, l1, l2, vi x, l4] st u bb σ Q ↔ qx sc D 226 33 [l0, l1, l2, vi x, l4] (vi x :: st) u bb σ Q := r_iload_n (k := 3) (by decide +kernel) rfl
theorem k226_33 : qx sc D 226 33 ls st u bb σ Q ↔ qx sc D 226 34 ls (vi 1 :: st) u bb σ Q := r_iconst (by decide +kernel)
theorem k226_34 : qx sc D 226 34 [vr a, l1, l2, l3, l4] st u bb σ Q ↔ qx sc D 226 35 [vr a, l1, l2, l3, l4] (vr a :: st) u bb σ Q := r_aload_n (k := 0) (by decide +kernel) rfl
theorem k226_35 : qx sc D 226 35 ls (vr 136 :: st) u bb σ Q ↔ qx sc D 226 38 ls (vr 143 :: st) u bb σ Q := r_getR (idx := 151) (c := 15) (k := 20) (by decide +kernel)
theorem k226_38 : qx sc D 226 38 [l0, l1, l2, l3, vi x] st u bb σ Q ↔ qx sc D 226 40 [l0, l1, l2, l3, vi x] (vi x :: st) u bb σ Q := r_iload (k := 4) (by decide +kernel) rfl
theorem k226_40 : qx sc D 226 40 ls (vi i :: vr a :: st) u bb σ Q ↔ (q_ty a = 0 ∧ 0 ≤ i ∧ i < q_ln a) ∧ qx sc D 226 41 ls (vi (σ a i) :: st) u bb σ Q := r_iald (by decide +kernel)
theorem k226_41 : qx sc D 226 41 ls (vi b' :: vi a' :: st) u bb σ Q ↔ qx sc D 226 42 ls (vi (q_I a' <<< (q_I b' &&& 31)).toInt :: st) u bb σ Q := r_ishl (by decide +kernel)
theorem k226_42 : qx sc D 226 42 ls (vi b' :: vi a' :: st) u bb σ Q ↔ qx sc D 226 43 ls (vi (q_I a' ||| q_I b').toInt :: st) u bb σ Q := r_ior (by decide +kernel)
theorem k226_43 : qx sc D 226 43 [l0, l1, l2, l3, l4] (vi x :: st) u bb σ Q ↔ qx sc D 226 44 [l0, l1, l2, vi x, l4] st u bb σ Q := r_istore_n (k := 3) (by decide +kernel) (Nat.le_of_ble_eq_true rfl)
theorem k226_44 : qx sc D 226 44 [l0, l1, l2, l3, vi x] st u bb σ Q ↔ q_R (x + 1) ∧ qx sc D 226 47 [l0, l1, l2, l3, vi (x + 1)] st u bb σ Q := r_iinc (k := 4) (n := 1) (by decide +kernel) rfl
theorem k226_47 : qx sc D 226 47 ls st u bb σ Q ↔ qx sc D 226 5 ls st u bb σ Q := r_goto (off := (-42)) (by decide +kernel)
theorem k226_50 : qx sc D 226 50 [l0, l1, l2, vi x, l4] st u bb σ Q ↔ qx sc D 226 51 [l0, l1, l2, vi x, l4] (vi x :: st) u bb σ Q := r_iload_n (k := 3) (by decide +kernel) rfl
theorem k226_51 : qx sc D 226 51 ls [vi x] (0, 0) bb σ Q ↔ Q (.inl (some (vi x))) bb σ := r_ret (by decide +kernel)
-- 227: RowProverModel.valued(I)I
theorem k227_0 : qx sc D 227 0 [vr a, l1] st u bb σ Q ↔ qx sc D 227 1 [vr a, l1] (vr a :: st) u bb σ Q := r_aload_n (k := 0) (by decide +kernel) rfl
theorem k227_1 : qx sc D 227 1 ls (vr 136 :: st) u bb σ Q ↔ qx sc D 227 4 ls (vr 152 :: st) u bb σ Q := r_getR (idx := 48) (c := 15) (k := 29) (by decide +kernel)
theorem k227_4 : qx sc D 227 4 [l0, vi x] st u bb σ Q ↔ qx sc D 227 5 [l0, vi x] (vi x :: st) u bb σ Q := r_iload_n (k := 1) (by decide +kernel) rfl
theorem k227_5 : qx sc D 227 5 ls (vi i :: vr a :: st) u bb σ Q ↔ (q_ty a = 0 ∧ 0 ≤ i ∧ i < q_ln a) ∧ qx sc D 227 6 ls (vi (σ a i) :: st) u bb σ Q := r_iald (by decide +kernel)
theorem k227_6 : qx sc D 227 6 ls (vi x :: st) u bb σ Q ↔ qx sc D 227 (if x < 0 ∨ 3 < x then 89 else [36, 43, 62, 73].getD (x - 0).toNat 0) ls st u bb σ Q := r_tsw (d := 83) (lo := 0) (hi := 3) (offs := #[30, 37, 56, 67]) (dt := 89) (tg := [36, 43, 62, 73]) (by decide +kernel)
theorem k227_36 : qx sc D 227 36 [vr a, l1] st u bb σ Q ↔ qx sc D 227 37 [vr a, l1] (vr a :: st) u bb σ Q := r_aload_n (k := 0) (by decide +kernel) rfl
theorem k227_37 : qx sc D 227 37 ls (vr 136 :: st) u bb σ Q ↔ qx sc D 227 40 ls (vr 154 :: st) u bb σ Q := r_getR (idx := 54) (c := 15) (k := 31) (by decide +kernel)
theorem k227_40 : qx sc D 227 40 [l0, vi x] st u bb σ Q ↔ qx sc D 227 41 [l0, vi x] (vi x :: st) u bb σ Q := r_iload_n (k := 1) (by decide +kernel) rfl
theorem k227_41 : qx sc D 227 41 ls (vi i :: vr a :: st) u bb σ Q ↔ (q_ty a = 0 ∧ 0 ≤ i ∧ i < q_ln a) ∧ qx sc D 227 42 ls (vi (σ a i) :: st) u bb σ Q := r_iald (by decide +kernel)
theorem k227_42 : qx sc D 227 42 ls [vi x] (0, 0) bb σ Q ↔ Q (.inl (some (vi x))) bb σ := r_ret (by decide +kernel)
theorem k227_43 : qx sc D 227 43 [vr a, l1] st u bb σ Q ↔ qx sc D 227 44 [vr a, l1] (vr a :: st) u bb σ Q := r_aload_n (k := 0) (by decide +kernel) rfl
theorem k227_44 : qx sc D 227 44 ls (vr 136 :: st) u bb σ Q ↔ qx sc D 227 47 ls (vr 183 :: st) u bb σ Q := r_getR (idx := 341) (c := 15) (k := 65) (by decide +kernel)
theorem k227_47 : qx sc D 227 47 [vr a, l1] st u bb σ Q ↔ qx sc D 227 48 [vr a, l1] (vr a :: st) u bb σ Q := r_aload_n (k := 0) (by decide +kernel) rfl
theorem k227_48 : qx sc D 227 48 ls (vr 136 :: st) u bb σ Q ↔ qx sc D 227 51 ls (vr 153 :: st) u bb σ Q := r_getR (idx := 51) (c := 15) (k := 30) (by decide +kernel)
theorem k227_51 : qx sc D 227 51 [l0, vi x] st u bb σ Q ↔ qx sc D 227 52 [l0, vi x] (vi x :: st) u bb σ Q := r_iload_n (k := 1) (by decide +kernel) rfl
theorem k227_52 : qx sc D 227 52 ls (vi i :: vr a :: st) u bb σ Q ↔ (q_ty a = 0 ∧ 0 ≤ i ∧ i < q_ln a) ∧ qx sc D 227 53 ls (vi (σ a i) :: st) u bb σ Q := r_iald (by decide +kernel)
theorem k227_53 : qx sc D 227 53 ls (vi i :: vr a :: st) u bb σ Q ↔ (q_ty a = 0 ∧ 0 ≤ i ∧ i < q_ln a) ∧ qx sc D 227 54 ls (vi (σ a i) :: st) u bb σ Q := r_iald (by decide +kernel)
theorem k227_54 : qx sc D 227 54 [vr a, l1] st u bb σ Q ↔ qx sc D 227 55 [vr a, l1] (vr a :: st) u bb σ Q := r_aload_n (k := 0) (by decide +kernel) rfl
theorem k227_55 : qx sc D 227 55 ls (vr 136 :: st) u bb σ Q ↔ qx sc D 227 58 ls (vr 154 :: st) u bb σ Q := r_getR (idx := 54) (c := 15) (k := 31) (by decide +kernel)
theorem k227_58 : qx sc D 227 58 [l0, vi x] st u bb σ Q ↔ qx sc D 227 59 [l0, vi x] (vi x :: st) u bb σ Q := r_iload_n (k := 1) (by decide +kernel) rfl
theorem k227_59 : qx sc D 227 59 ls (vi i :: vr a :: st) u bb σ Q ↔ (q_ty a = 0 ∧ 0 ≤ i ∧ i < q_ln a) ∧ qx sc D 227 60 ls (vi (σ a i) :: st) u bb σ Q := r_iald (by decide +kernel)
theorem k227_60 : qx sc D 227 60 ls (vi b' :: vi a' :: st) u bb σ Q ↔ q_R (a' + b') ∧ qx sc D 227 61 ls (vi (a' + b') :: st) u bb σ Q := r_iadd (by decide +kernel)
theorem k227_61 : qx sc D 227 61 ls [vi x] (0, 0) bb σ Q ↔ Q (.inl (some (vi x))) bb σ := r_ret (by decide +kernel)
theorem k227_62 : qx sc D 227 62 [vr a, l1] st u bb σ Q ↔ qx sc D 227 63 [vr a, l1] (vr a :: st) u bb σ Q := r_aload_n (k := 0) (by decide +kernel) rfl
theorem k227_63 : qx sc D 227 63 [vr a, l1] st u bb σ Q ↔ qx sc D 227 64 [vr a, l1] (vr a :: st) u bb σ Q := r_aload_n (k := 0) (by decide +kernel) rfl
theorem k227_64 : qx sc D 227 64 ls (vr 136 :: st) u bb σ Q ↔ qx sc D 227 67 ls (vr 153 :: st) u bb σ Q := r_getR (idx := 51) (c := 15) (k := 30) (by decide +kernel)
theorem k227_67 : qx sc D 227 67 [l0, vi x] st u bb σ Q ↔ qx sc D 227 68 [l0, vi x] (vi x :: st) u bb σ Q := r_iload_n (k := 1) (by decide +kernel) rfl
theorem k227_68 : qx sc D 227 68 ls (vi i :: vr a :: st) u bb σ Q ↔ (q_ty a = 0 ∧ 0 ≤ i ∧ i < q_ln a) ∧ qx sc D 227 69 ls (vi (σ a i) :: st) u bb σ Q := r_iald (by decide +kernel)
theorem k227_69 : qx sc (D + 1) 227 69 ls [vi x0, vr 136] (0, 0) bb σ Q ↔ qx sc D 176 0 [vr 136, vi x0] [] (0, 0) bb σ (q_kn sc (D + 1) 227 72 ls [] (0, 0) Q) := r_callv (idx := 440) (n := 1) (m := 2) (by decide +kernel) rfl (Nat.le_of_ble_eq_true rfl) ⟨Nat.le_of_ble_eq_true rfl, Nat.le_of_ble_eq_true rfl, rfl⟩ rfl
theorem k227_72 : qx sc D 227 72 ls [vi x] (0, 0) bb σ Q ↔ Q (.inl (some (vi x))) bb σ := r_ret (by decide +kernel)
theorem k227_73 : qx sc D 227 73 [vr a, l1] st u bb σ Q ↔ qx sc D 227 74 [vr a, l1] (vr a :: st) u bb σ Q := r_aload_n (k := 0) (by decide +kernel) rfl
theorem k227_74 : qx sc D 227 74 ls (vr 136 :: st) u bb σ Q ↔ qx sc D 227 77 ls (vr 184 :: st) u bb σ Q := r_getR (idx := 344) (c := 15) (k := 66) (by decide +kernel)
theorem k227_77 : qx sc D 227 77 [vr a, l1] st u bb σ Q ↔ qx sc D 227 78 [vr a, l1] (vr a :: st) u bb σ Q := r_aload_n (k := 0) (by decide +kernel) rfl
theorem k227_78 : qx sc D 227 78 [vr a, l1] st u bb σ Q ↔ qx sc D 227 79 [vr a, l1] (vr a :: st) u bb σ Q := r_aload_n (k := 0) (by decide +kernel) rfl
theorem k227_79 : qx sc D 227 79 ls (vr 136 :: st) u bb σ Q ↔ qx sc D 227 82 ls (vr 153 :: st) u bb σ Q := r_getR (idx := 51) (c := 15) (k := 30) (by decide +kernel)
theorem k227_82 : qx sc D 227 82 [l0, vi x] st u bb σ Q ↔ qx sc D 227 83 [l0, vi x] (vi x :: st) u bb σ Q := r_iload_n (k := 1) (by decide +kernel) rfl
theorem k227_83 : qx sc D 227 83 ls (vi i :: vr a :: st) u bb σ Q ↔ (q_ty a = 0 ∧ 0 ≤ i ∧ i < q_ln a) ∧ qx sc D 227 84 ls (vi (σ a i) :: st) u bb σ Q := r_iald (by decide +kernel)
theorem k227_84 : qx sc (D + 1) 227 84 ls [vi x0, vr 136, vr a20] (0, 0) bb σ Q ↔ qx sc D 202 0 [vr 136, vi x0] [] (0, 0) bb σ (q_kn sc (D + 1) 227 87 ls [vr a20] (0, 0) Q) := r_callv (idx := 465) (n := 1) (m := 2) (by decide +kernel) rfl (Nat.le_of_ble_eq_true rfl) ⟨Nat.le_of_ble_eq_true rfl, Nat.le_of_ble_eq_true rfl, rfl⟩ rfl
theorem k227_87 : qx sc D 227 87 ls (vi i :: vr a :: st) u bb σ Q ↔ (q_ty a = 0 ∧ 0 ≤ i ∧ i < q_ln a) ∧ qx sc D 227 88 ls (vi (σ a i) :: st) u bb σ Q := r_iald (by decide +kernel)
theorem k227_88 : qx sc D 227 88 ls [vi x] (0, 0) bb σ Q ↔ Q (.inl (some (vi x))) bb σ := r_ret (by decide +kernel)
theorem k227_89 : qx sc D 227 89 [vr a, l1] st u bb σ Q ↔ qx sc D 227 90 [vr a, l1] (vr a :: st) u bb σ Q := r_aload_n (k := 0) (by decide +kernel) rfl
theorem k227_90 : qx sc D 227 90 ls (vr 136 :: st) u bb σ Q ↔ qx sc D 227 93 ls (vr 182 :: st) u bb σ Q := r_getR (idx := 338) (c := 15) (k := 64) (by decide +kernel)
theorem k227_93 : qx sc D 227 93 [vr a, l1] st u bb σ Q ↔ qx sc D 227 94 [vr a, l1] (vr a :: st) u bb σ Q := r_aload_n (k := 0) (by decide +kernel) rfl
theorem k227_94 : qx sc D 227 94 ls (vr 136 :: st) u bb σ Q ↔ qx sc D 227 97 ls (vr 154 :: st) u bb σ Q := r_getR (idx := 54) (c := 15) (k := 31) (by decide +kernel)
theorem k227_97 : qx sc D 227 97 [l0, vi x] st u bb σ Q ↔ qx sc D 227 98 [l0, vi x] (vi x :: st) u bb σ Q := r_iload_n (k := 1) (by decide +kernel) rfl
theorem k227_98 : qx sc D 227 98 ls (vi i :: vr a :: st) u bb σ Q ↔ (q_ty a = 0 ∧ 0 ≤ i ∧ i < q_ln a) ∧ qx sc D 227 99 ls (vi (σ a i) :: st) u bb σ Q := r_iald (by decide +kernel)
theorem k227_99 : qx sc D 227 99 ls (vi i :: vr a :: st) u bb σ Q ↔ (q_ty a = 0 ∧ 0 ≤ i ∧ i < q_ln a) ∧ qx sc D 227 100 ls (vi (σ a i) :: st) u bb σ Q := r_iald (by decide +kernel)
theorem k227_100 : qx sc D 227 100 ls [vi x] (0, 0) bb σ Q ↔ Q (.inl (some (vi x))) bb σ := r_ret (by decide +kernel)
-- 228: RowProverModel.variable()I
theorem k228_0 : qx sc D 228 0 [vr a] st u bb σ Q ↔ qx sc D 228 1 [vr a] (vr a :: st) u bb σ Q := r_aload_n (k := 0) (by decide +kernel) rfl
theorem k228_1 : qx sc (D + 1) 228 1 ls [vr 136] (0, 0) bb σ Q ↔ qx sc D 154 0 [vr 136] [] (0, 0) bb σ (q_kn sc (D + 1) 228 4 ls [] (0, 0) Q) := r_callv (idx := 83) (n := 0) (m := 1) (by decide +kernel) rfl (Nat.le_of_ble_eq_true rfl) ⟨Nat.le_of_ble_eq_true rfl, Nat.le_of_ble_eq_true rfl, rfl⟩ rfl
theorem k228_4 : qx sc D 228 4 ls (vi x :: st) u bb σ Q ↔ (x = 0 → qx sc D 228 9 ls st u bb σ Q) ∧ (¬ (x = 0) → qx sc D 228 7 ls st u bb σ Q) := r_if_eq (off := 5) (t := 9) (by decide +kernel)
theorem k228_7 : qx sc D 228 7 ls st u bb σ Q ↔ qx sc D 228 8 ls (vi 0 :: st) u bb σ Q := r_iconst (by decide +kernel)
theorem k228_8 : qx sc D 228 8 ls [vi x] (0, 0) bb σ Q ↔ Q (.inl (some (vi x))) bb σ := r_ret (by decide +kernel)
theorem k228_9 : qx sc D 228 9 [vr a] st u bb σ Q ↔ qx sc D 228 10 [vr a] (vr a :: st) u bb σ Q := r_aload_n (k := 0) (by decide +kernel) rfl
theorem k228_10 : qx sc (D + 1) 228 10 ls [vr 136] (0, 0) bb σ Q ↔ qx sc D 168 0 [vr 136] [] (0, 0) bb σ (q_kn sc (D + 1) 228 13 ls [] (0, 0) Q) := r_callv (idx := 111) (n := 0) (m := 1) (by decide +kernel) rfl (Nat.le_of_ble_eq_true rfl) ⟨Nat.le_of_ble_eq_true rfl, Nat.le_of_ble_eq_true rfl, rfl⟩ rfl
theorem k228_13 : qx sc D 228 13 ls (vi x :: st) u bb σ Q ↔ (x = 0 → qx sc D 228 16 ls st u bb σ Q) ∧ (¬ (x = 0) → qx sc D 228 22 ls st u bb σ Q) := r_if_ne (off := 9) (t := 22) (by decide +kernel)
theorem k228_16 : qx sc D 228 16 [vr a] st u bb σ Q ↔ qx sc D 228 17 [vr a] (vr a :: st) u bb σ Q := r_aload_n (k := 0) (by decide +kernel) rfl
theorem k228_17 : qx sc (D + 1) 228 17 ls [vr 136] (0, 0) bb σ Q ↔ qx sc D 148 0 [vr 136] [] (0, 0) bb σ (q_kn sc (D + 1) 228 20 ls [] (0, 0) Q) := r_callv (idx := 91) (n := 0) (m := 1) (by decide +kernel) rfl (Nat.le_of_ble_eq_true rfl) ⟨Nat.le_of_ble_eq_true rfl, Nat.le_of_ble_eq_true rfl, rfl⟩ rfl
theorem k228_20 : qx sc D 228 20 ls st u bb σ Q ↔ qx sc D 228 21 ls (vi 0 :: st) u bb σ Q := r_iconst (by decide +kernel)
theorem k228_21 : qx sc D 228 21 ls [vi x] (0, 0) bb σ Q ↔ Q (.inl (some (vi x))) bb σ := r_ret (by decide +kernel)
theorem k228_22 : qx sc D 228 22 [vr a] st u bb σ Q ↔ qx sc D 228 23 [vr a] (vr a :: st) u bb σ Q := r_aload_n (k := 0) (by decide +kernel) rfl
theorem k228_23 : qx sc D 228 23 ls (vr a :: st) u bb σ Q ↔ qx sc D 228 24 ls (vr a :: vr a :: st) u bb σ Q := r_dupA (by decide +kernel)
theorem k228_24 : qx sc D 228 24 ls (vr 136 :: st) u bb σ Q ↔ qx sc D 228 27 ls (vi (σ 136 8) :: st) u bb σ Q := r_getI (idx := 63) (c := 15) (k := 8) (by decide +kernel)
theorem k228_27 : qx sc D 228 27 ls st u bb σ Q ↔ qx sc D 228 28 ls (vi 1 :: st) u bb σ Q := r_iconst (by decide +kernel)
theorem k228_28 : qx sc D 228 28 ls (vi b' :: vi a' :: st) u bb σ Q ↔ q_R (a' + b') ∧ qx sc D 228 29 ls (vi (a' + b') :: st) u bb σ Q := r_iadd (by decide +kernel)
theorem k228_29 : qx sc D 228 29 ls (vi x :: vr 136 :: st) u bb σ Q ↔ qx sc D 228 32 ls st u bb (q_up σ 136 8 x) Q := r_putI (idx := 63) (c := 15) (k := 8) (by decide +kernel)
theorem k228_32 : qx sc D 228 32 [vr a] st u bb σ Q ↔ qx sc D 228 33 [vr a] (vr a :: st) u bb σ Q := r_aload_n (k := 0) (by decide +kernel) rfl
theorem k228_33 : qx sc D 228 33 ls (vr 136 :: st) u bb σ Q ↔ qx sc D 228 36 ls (vr 139 :: st) u bb σ Q := r_getR (idx := 69) (c := 15) (k := 4) (by decide +kernel)
theorem k228_36 : qx sc D 228 36 [vr a] st u bb σ Q ↔ qx sc D 228 37 [vr a] (vr a :: st) u bb σ Q := r_aload_n (k := 0) (by decide +kernel) rfl
theorem k228_37 : qx sc D 228 37 ls (vr 136 :: st) u bb σ Q ↔ qx sc D 228 40 ls (vi (σ 136 8) :: st) u bb σ Q := r_getI (idx := 63) (c := 15) (k := 8) (by decide +kernel)
theorem k228_40 : qx sc D 228 40 ls st u bb σ Q ↔ qx sc D 228 41 ls (vi 1 :: st) u bb σ Q := r_iconst (by decide +kernel)
theorem k228_41 : qx sc D 228 41 ls (vi b' :: vi a' :: st) u bb σ Q ↔ q_R (a' - b') ∧ qx sc D 228 42 ls (vi (a' - b') :: st) u bb σ Q := r_isub (by decide +kernel)
theorem k228_42 : qx sc D 228 42 ls (vi i :: vr a :: st) u bb σ Q ↔ ((q_ty a = 1 ∨ q_ty a = 2) ∧ 0 ≤ i ∧ i < q_ln a) ∧ qx sc D 228 43 ls (vi (σ a i) :: st) u bb σ Q := r_bald (by decide +kernel)
theorem k228_43 : qx sc D 228 43 ls st u bb σ Q ↔ qx sc D 228 45 ls (vi 97 :: st) u bb σ Q := r_bipush (by decide +kernel)
theorem k228_45 : qx sc D 228 45 ls (vi b' :: vi a' :: st) u bb σ Q ↔ q_R (a' - b') ∧ qx sc D 228 46 ls (vi (a' - b') :: st) u bb σ Q := r_isub (by decide +kernel)
theorem k228_46 : qx sc D 228 46 ls [vi x] (0, 0) bb σ Q ↔ Q (.inl (some (vi x))) bb σ := r_ret (by decide +kernel)
-- 229: RowProverModel.version(II)I
theorem k229_0 : qx sc D 229 0 [vr a, l1, l2] st u bb σ Q ↔ qx sc D 229 1 [vr a, l1, l2] (vr a :: st) u bb σ Q := r_aload_n (k := 0) (by decide +kernel) rfl
theorem k229_1 : qx sc D 229 1 ls st u bb σ Q ↔ qx sc D 229 2 ls (vi 0 :: st) u bb σ Q := r_iconst (by decide +kernel)
theorem k229_2 : qx sc D 229 2 ls (vi x :: vr 136 :: st) u bb σ Q ↔ qx sc D 229 5 ls st u bb (q_up σ 136 0 x) Q := r_putI (idx := 3) (c := 15) (k := 0) (by decide +kernel)
theorem k229_5 : qx sc D 229 5 [vr a, l1, l2] st u bb σ Q ↔ qx sc D 229 6 [vr a, l1, l2] (vr a :: st) u bb σ Q := r_aload_n (k := 0) (by decide +kernel) rfl
theorem k229_6 : qx sc D 229 6 [l0, vi x, l2] st u bb σ Q ↔ qx sc D 229 7 [l0, vi x, l2] (vi x :: st) u bb σ Q := r_iload_n (k := 1) (by decide +kernel) rfl
theorem k229_7 : qx sc (D + 1) 229 7 ls [vi x0, vr 136] (0, 0) bb σ Q ↔ qx sc D 187 0 [vr 136, vi x0] [] (0, 0) bb σ (q_kn sc (D + 1) 229 10 ls [] (0, 0) Q) := r_callv (idx := 514) (n := 1) (m := 2) (by decide +kernel) rfl (Nat.le_of_ble_eq_true rfl) ⟨Nat.le_of_ble_eq_true rfl, Nat.le_of_ble_eq_true rfl, rfl⟩ rfl
theorem k229_10 : qx sc D 229 10 ls (vi x :: st) u bb σ Q ↔ (x = 0 → qx sc D 229 13 ls st u bb σ Q) ∧ (¬ (x = 0) → qx sc D 229 35 ls st u bb σ Q) := r_if_ne (off := 25) (t := 35) (by decide +kernel)
theorem k229_13 : qx sc D 229 13 [vr a, l1, l2] st u bb σ Q ↔ qx sc D 229 14 [vr a, l1, l2] (vr a :: st) u bb σ Q := r_aload_n (k := 0) (by decide +kernel) rfl
theorem k229_14 : qx sc D 229 14 [l0, l1, vi x] st u bb σ Q ↔ qx sc D 229 15 [l0, l1, vi x] (vi x :: st) u bb σ Q := r_iload_n (k := 2) (by decide +kernel) rfl
theorem k229_15 : qx sc D 229 15 ls st u bb σ Q ↔ qx sc D 229 16 ls (vi 0 :: st) u bb σ Q := r_iconst (by decide +kernel)
theorem k229_16 : qx sc D 229 16 ls st u bb σ Q ↔ qx sc D 229 17 ls (vi 4 :: st) u bb σ Q := r_iconst (by decide +kernel)
theorem k229_17 : qx sc (D + 1) 229 17 ls [vi x2, vi x1, vi x0, vr a20] (0, 0) bb σ Q ↔ qx sc D 157 0 [vi x0, vi x1, vi x2] [] (0, 0) bb σ (q_kn sc (D + 1) 229 20 ls [vr a20] (0, 0) Q) := r_calls (idx := 498) (n := 3) (m := 3) (by decide +kernel) rfl (Nat.le_of_ble_eq_true rfl) ⟨Nat.le_of_ble_eq_true rfl, Nat.le_of_ble_eq_true rfl, rfl⟩ rfl
theorem k229_20 : qx sc D 229 20 ls (vi x :: st) u bb σ Q ↔ (x = 0 → qx sc D 229 23 ls st u bb σ Q) ∧ (¬ (x = 0) → qx sc D 229 27 ls st u bb σ Q) := r_if_ne (off := 7) (t := 27) (by decide +kernel)
theorem k229_23 : qx sc D 229 23 ls st u bb σ Q ↔ qx sc D 229 24 ls (vi 1 :: st) u bb σ Q := r_iconst (by decide +kernel)
theorem k229_24 : qx sc D 229 24 ls st u bb σ Q ↔ qx sc D 229 28 ls st u bb σ Q := r_goto (off := 4) (by decide +kernel)
theorem k229_27 : qx sc D 229 27 ls st u bb σ Q ↔ qx sc D 229 28 ls (vi 0 :: st) u bb σ Q := r_iconst (by decide +kernel)
theorem k229_28 : qx sc D 229 28 ls st u bb σ Q ↔ qx sc D 229 29 ls (vi 2 :: st) u bb σ Q := r_iconst (by decide +kernel)
theorem k229_29 : qx sc (D + 1) 229 29 ls [vi x1, vi x0, vr 136] (0, 0) bb σ Q ↔ qx sc D 224 0 [vr 136, vi x0, vi x1] [] (0, 0) bb σ (q_kn sc (D + 1) 229 32 ls [] (0, 0) Q) := r_callv (idx := 501) (n := 2) (m := 3) (by decide +kernel) rfl (Nat.le_of_ble_eq_true rfl) ⟨Nat.le_of_ble_eq_true rfl, Nat.le_of_ble_eq_true rfl, rfl⟩ rfl
theorem k229_32 : qx sc D 229 32 ls (vi x :: st) u bb σ Q ↔ (x = 0 → qx sc D 229 37 ls st u bb σ Q) ∧ (¬ (x = 0) → qx sc D 229 35 ls st u bb σ Q) := r_if_eq (off := 5) (t := 37) (by decide +kernel)
theorem k229_35 : qx sc D 229 35 ls st u bb σ Q ↔ qx sc D 229 36 ls (vi 0 :: st) u bb σ Q := r_iconst (by decide +kernel)
theorem k229_36 : qx sc D 229 36 ls [vi x] (0, 0) bb σ Q ↔ Q (.inl (some (vi x))) bb σ := r_ret (by decide +kernel)
theorem k229_37 : qx sc D 229 37 [l0, l1, vi x] st u bb σ Q ↔ qx sc D 229 38 [l0, l1, vi x] (vi x :: st) u bb σ Q := r_iload_n (k := 2) (by decide +kernel) rfl
theorem k229_38 : qx sc D 229 38 ls (vi x :: st) u bb σ Q ↔ qx sc D 229 (if x < 0 ∨ 3 < x then 96 else [68, 75, 82, 89].getD (x - 0).toNat 0) ls st u bb σ Q := r_tsw (d := 58) (lo := 0) (hi := 3) (offs := #[30, 37, 44, 51]) (dt := 96) (tg := [68, 75, 82, 89]) (by decide +kernel)
theorem k229_68 : qx sc D 229 68 [vr a, l1, l2] st u bb σ Q ↔ qx sc D 229 69 [vr a, l1, l2] (vr a :: st) u bb σ Q := r_aload_n (k := 0) (by decide +kernel) rfl
theorem k229_69 : qx sc D 229 69 ls (vr 136 :: st) u bb σ Q ↔ qx sc D 229 72 ls (vr 147 :: st) u bb σ Q := r_getR (idx := 33) (c := 15) (k := 24) (by decide +kernel)
theorem k229_72 : qx sc D 229 72 [l0, vi x, l2] st u bb σ Q ↔ qx sc D 229 73 [l0, vi x, l2] (vi x :: st) u bb σ Q := r_iload_n (k := 1) (by decide +kernel) rfl
theorem k229_73 : qx sc D 229 73 ls (vi i :: vr a :: st) u bb σ Q ↔ (q_ty a = 0 ∧ 0 ≤ i ∧ i < q_ln a) ∧ qx sc D 229 74 ls (vi (σ a i) :: st) u bb σ Q := r_iald (by decide +kernel)
theorem k229_74 : qx sc D 229 74 ls [vi x] (0, 0) bb σ Q ↔ Q (.inl (some (vi x))) bb σ := r_ret (by decide +kernel)
theorem k229_75 : qx sc D 229 75 [vr a, l1, l2] st u bb σ Q ↔ qx sc D 229 76 [vr a, l1, l2] (vr a :: st) u bb σ Q := r_aload_n (k := 0) (by decide +kernel) rfl
theorem k229_76 : qx sc D 229 76 ls (vr 136 :: st) u bb σ Q ↔ qx sc D 229 79 ls (vr 148 :: st) u bb σ Q := r_getR (idx := 36) (c := 15) (k := 25) (by decide +kernel)
theorem k229_79 : qx sc D 229 79 [l0, vi x, l2] st u bb σ Q ↔ qx sc D 229 80 [l0, vi x, l2] (vi x :: st) u bb σ Q := r_iload_n (k := 1) (by decide +kernel) rfl
theorem k229_80 : qx sc D 229 80 ls (vi i :: vr a :: st) u bb σ Q ↔ (q_ty a = 0 ∧ 0 ≤ i ∧ i < q_ln a) ∧ qx sc D 229 81 ls (vi (σ a i) :: st) u bb σ Q := r_iald (by decide +kernel)
theorem k229_81 : qx sc D 229 81 ls [vi x] (0, 0) bb σ Q ↔ Q (.inl (some (vi x))) bb σ := r_ret (by decide +kernel)
theorem k229_82 : qx sc D 229 82 [vr a, l1, l2] st u bb σ Q ↔ qx sc D 229 83 [vr a, l1, l2] (vr a :: st) u bb σ Q := r_aload_n (k := 0) (by decide +kernel) rfl
theorem k229_83 : qx sc D 229 83 ls (vr 136 :: st) u bb σ Q ↔ qx sc D 229 86 ls (vr 149 :: st) u bb σ Q := r_getR (idx := 39) (c := 15) (k := 26) (by decide +kernel)
theorem k229_86 : qx sc D 229 86 [l0, vi x, l2] st u bb σ Q ↔ qx sc D 229 87 [l0, vi x, l2] (vi x :: st) u bb σ Q := r_iload_n (k := 1) (by decide +kernel) rfl
theorem k229_87 : qx sc D 229 87 ls (vi i :: vr a :: st) u bb σ Q ↔ (q_ty a = 0 ∧ 0 ≤ i ∧ i < q_ln a) ∧ qx sc D 229 88 ls (vi (σ a i) :: st) u bb σ Q := r_iald (by decide +kernel)
theorem k229_88 : qx sc D 229 88 ls [vi x] (0, 0) bb σ Q ↔ Q (.inl (some (vi x))) bb σ := r_ret (by decide +kernel)
theorem k229_89 : qx sc D 229 89 [vr a, l1, l2] st u bb σ Q ↔ qx sc D 229 90 [vr a, l1, l2] (vr a :: st) u bb σ Q := r_aload_n (k := 0) (by decide +kernel) rfl
theorem k229_90 : qx sc D 229 90 ls (vr 136 :: st) u bb σ Q ↔ qx sc D 229 93 ls (vr 150 :: st) u bb σ Q := r_getR (idx := 42) (c := 15) (k := 27) (by decide +kernel)
theorem k229_93 : qx sc D 229 93 [l0, vi x, l2] st u bb σ Q ↔ qx sc D 229 94 [l0, vi x, l2] (vi x :: st) u bb σ Q := r_iload_n (k := 1) (by decide +kernel) rfl
theorem k229_94 : qx sc D 229 94 ls (vi i :: vr a :: st) u bb σ Q ↔ (q_ty a = 0 ∧ 0 ≤ i ∧ i < q_ln a) ∧ qx sc D 229 95 ls (vi (σ a i) :: st) u bb σ Q := r_iald (by decide +kernel)
theorem k229_95 : qx sc D 229 95 ls [vi x] (0, 0) bb σ Q ↔ Q (.inl (some (vi x))) bb σ := r_ret (by decide +kernel)
theorem k229_96 : qx sc D 229 96 [vr a, l1, l2] st u bb σ Q ↔ qx sc D 229 97 [vr a, l1, l2] (vr a :: st) u bb σ Q := r_aload_n (k := 0) (by decide +kernel) rfl
theorem k229_97 : qx sc D 229 97 ls (vr 136 :: st) u bb σ Q ↔ qx sc D 229 100 ls (vr 151 :: st) u bb σ Q := r_getR (idx := 45) (c := 15) (k := 28) (by decide +kernel)
theorem k229_100 : qx sc D 229 100 [l0, vi x, l2] st u bb σ Q ↔ qx sc D 229 101 [l0, vi x, l2] (vi x :: st) u bb σ Q := r_iload_n (k := 1) (by decide +kernel) rfl
theorem k229_101 : qx sc D 229 101 ls (vi i :: vr a :: st) u bb σ Q ↔ (q_ty a = 0 ∧ 0 ≤ i ∧ i < q_ln a) ∧ qx sc D 229 102 ls (vi (σ a i) :: st) u bb σ Q := r_iald (by decide +kernel)
theorem k229_102 : qx sc D 229 102 ls [vi x] (0, 0) bb σ Q ↔ Q (.inl (some (vi x))) bb σ := r_ret (by decide +kernel)
-- 230: RowProverModel.was(II)I
theorem k230_0 : qx sc D 230 0 [vr a, l1, l2] st u bb σ Q ↔ qx sc D 230 1 [vr a, l1, l2] (vr a :: st) u bb σ Q := r_aload_n (k := 0) (by decide +kernel) rfl
theorem k230_1 : qx sc D 230 1 ls st u bb σ Q ↔ qx sc D 230 2 ls (vi 0 :: st) u bb σ Q := r_iconst (by decide +kernel)
theorem k230_2 : qx sc D 230 2 ls (vi x :: vr 136 :: st) u bb σ Q ↔ qx sc D 230 5 ls st u bb (q_up σ 136 0 x) Q := r_putI (idx := 3) (c := 15) (k := 0) (by decide +kernel)
theorem k230_5 : qx sc D 230 5 [vr a, l1, l2] st u bb σ Q ↔ qx sc D 230 6 [vr a, l1, l2] (vr a :: st) u bb σ Q := r_aload_n (k := 0) (by decide +kernel) rfl
theorem k230_6 : qx sc D 230 6 [l0, l1, vi x] st u bb σ Q ↔ qx sc D 230 7 [l0, l1, vi x] (vi x :: st) u bb σ Q := r_iload_n (k := 2) (by decide +kernel) rfl
theorem k230_7 : qx sc (D + 1) 230 7 ls [vi x0, vr 136] (0, 0) bb σ Q ↔ qx sc D 187 0 [vr 136, vi x0] [] (0, 0) bb σ (q_kn sc (D + 1) 230 10 ls [] (0, 0) Q) := r_callv (idx := 514) (n := 1) (m := 2) (by decide +kernel) rfl (Nat.le_of_ble_eq_true rfl) ⟨Nat.le_of_ble_eq_true rfl, Nat.le_of_ble_eq_true rfl, rfl⟩ rfl
theorem k230_10 : qx sc D 230 10 ls (vi x :: st) u bb σ Q ↔ (x = 0 → qx sc D 230 13 ls st u bb σ Q) ∧ (¬ (x = 0) → qx sc D 230 35 ls st u bb σ Q) := r_if_ne (off := 25) (t := 35) (by decide +kernel)
theorem k230_13 : qx sc D 230 13 [vr a, l1, l2] st u bb σ Q ↔ qx sc D 230 14 [vr a, l1, l2] (vr a :: st) u bb σ Q := r_aload_n (k := 0) (by decide +kernel) rfl
theorem k230_14 : qx sc D 230 14 [l0, vi x, l2] st u bb σ Q ↔ qx sc D 230 15 [l0, vi x, l2] (vi x :: st) u bb σ Q := r_iload_n (k := 1) (by decide +kernel) rfl
theorem k230_15 : qx sc D 230 15 ls st u bb σ Q ↔ qx sc D 230 16 ls (vi 0 :: st) u bb σ Q := r_iconst (by decide +kernel)
theorem k230_16 : qx sc D 230 16 ls st u bb σ Q ↔ qx sc D 230 17 ls (vi 2 :: st) u bb σ Q := r_iconst (by decide +kernel)
theorem k230_17 : qx sc (D + 1) 230 17 ls [vi x2, vi x1, vi x0, vr a20] (0, 0) bb σ Q ↔ qx sc D 157 0 [vi x0, vi x1, vi x2] [] (0, 0) bb σ (q_kn sc (D + 1) 230 20 ls [vr a20] (0, 0) Q) := r_calls (idx := 498) (n := 3) (m := 3) (by decide +kernel) rfl (Nat.le_of_ble_eq_true rfl) ⟨Nat.le_of_ble_eq_true rfl, Nat.le_of_ble_eq_true rfl, rfl⟩ rfl
theorem k230_20 : qx sc D 230 20 ls (vi x :: st) u bb σ Q ↔ (x = 0 → qx sc D 230 23 ls st u bb σ Q) ∧ (¬ (x = 0) → qx sc D 230 27 ls st u bb σ Q) := r_if_ne (off := 7) (t := 27) (by decide +kernel)
theorem k230_23 : qx sc D 230 23 ls st u bb σ Q ↔ qx sc D 230 24 ls (vi 1 :: st) u bb σ Q := r_iconst (by decide +kernel)
theorem k230_24 : qx sc D 230 24 ls st u bb σ Q ↔ qx sc D 230 28 ls st u bb σ Q := r_goto (off := 4) (by decide +kernel)
theorem k230_27 : qx sc D 230 27 ls st u bb σ Q ↔ qx sc D 230 28 ls (vi 0 :: st) u bb σ Q := r_iconst (by decide +kernel)
theorem k230_28 : qx sc D 230 28 ls st u bb σ Q ↔ qx sc D 230 29 ls (vi 2 :: st) u bb σ Q := r_iconst (by decide +kernel)
theorem k230_29 : qx sc (D + 1) 230 29 ls [vi x1, vi x0, vr 136] (0, 0) bb σ Q ↔ qx sc D 224 0 [vr 136, vi x0, vi x1] [] (0, 0) bb σ (q_kn sc (D + 1) 230 32 ls [] (0, 0) Q) := r_callv (idx := 501) (n := 2) (m := 3) (by decide +kernel) rfl (Nat.le_of_ble_eq_true rfl) ⟨Nat.le_of_ble_eq_true rfl, Nat.le_of_ble_eq_true rfl, rfl⟩ rfl
theorem k230_32 : qx sc D 230 32 ls (vi x :: st) u bb σ Q ↔ (x = 0 → qx sc D 230 37 ls st u bb σ Q) ∧ (¬ (x = 0) → qx sc D 230 35 ls st u bb σ Q) := r_if_eq (off := 5) (t := 37) (by decide +kernel)
theorem k230_35 : qx sc D 230 35 ls st u bb σ Q ↔ qx sc D 230 36 ls (vi 0 :: st) u bb σ Q := r_iconst (by decide +kernel)
theorem k230_36 : qx sc D 230 36 ls [vi x] (0, 0) bb σ Q ↔ Q (.inl (some (vi x))) bb σ := r_ret (by decide +kernel)
theorem k230_37 : qx sc D 230 37 [vr a, l1, l2] st u bb σ Q ↔ qx sc D 230 38 [vr a, l1, l2] (vr a :: st) u bb σ Q := r_aload_n (k := 0) (by decide +kernel) rfl
theorem k230_38 : qx sc D 230 38 [l0, vi x, l2] st u bb σ Q ↔ qx sc D 230 39 [l0, vi x, l2] (vi x :: st) u bb σ Q := r_iload_n (k := 1) (by decide +kernel) rfl
theorem k230_39 : qx sc (D + 1) 230 39 ls [vi x0, vr 136] (0, 0) bb σ Q ↔ qx sc D 209 0 [vr 136, vi x0, vn] [] (0, 0) bb σ (q_kn sc (D + 1) 230 42 ls [] (0, 0) Q) := r_callv (idx := 508) (n := 1) (m := 3) (by decide +kernel) rfl (Nat.le_of_ble_eq_true rfl) ⟨Nat.le_of_ble_eq_true rfl, Nat.le_of_ble_eq_true rfl, rfl⟩ rfl
theorem k230_42 : qx sc D 230 42 [vr a, l1, l2] st u bb σ Q ↔ qx sc D 230 43 [vr a, l1, l2] (vr a :: st) u bb σ Q := r_aload_n (k := 0) (by decide +kernel) rfl
theorem k230_43 : qx sc D 230 43 ls (vr 136 :: st) u bb σ Q ↔ qx sc D 230 46 ls (vr 185 :: st) u bb σ Q := r_getR (idx := 346) (c := 15) (k := 67) (by decide +kernel)
theorem k230_46 : qx sc D 230 46 [l0, l1, vi x] st u bb σ Q ↔ qx sc D 230 47 [l0, l1, vi x] (vi x :: st) u bb σ Q := r_iload_n (k := 2) (by decide +kernel) rfl
theorem k230_47 : qx sc D 230 47 ls (vi i :: vr a :: st) u bb σ Q ↔ (q_ty a = 0 ∧ 0 ≤ i ∧ i < q_ln a) ∧ qx sc D 230 48 ls (vi (σ a i) :: st) u bb σ Q := r_iald (by decide +kernel)
theorem k230_48 : qx sc D 230 48 ls [vi x] (0, 0) bb σ Q ↔ Q (.inl (some (vi x))) bb σ := r_ret (by decide +kernel)
-- 231: RowProverModel.wordMany()I
theorem k231_0 : qx sc D 231 0 [vr a, l1] st u bb σ Q ↔ qx sc D 231 1 [vr a, l1] (vr a :: st) u bb σ Q := r_aload_n (k := 0) (by decide +kernel) rfl
theorem k231_1 : qx sc (D + 1) 231 1 ls [vr 136] (0, 0) bb σ Q ↔ qx sc D 130 0 [vr 136] [] (0, 0) bb σ (q_kn sc (D + 1) 231 4 ls [] (0, 0) Q) := r_callv (idx := 79) (n := 0) (m := 1) (by decide +kernel) rfl (Nat.le_of_ble_eq_true rfl) ⟨Nat.le_of_ble_eq_true rfl, Nat.le_of_ble_eq_true rfl, rfl⟩ rfl
theorem k231_4 : qx sc D 231 4 [vr a, l1] st u bb σ Q ↔ qx sc D 231 5 [vr a, l1] (vr a :: st) u bb σ Q := r_aload_n (k := 0) (by decide +kernel) rfl
theorem k231_5 : qx sc D 231 5 ls (vr 136 :: st) u bb σ Q ↔ qx sc D 231 8 ls (vi (σ 136 8) :: st) u bb σ Q := r_getI (idx := 63) (c := 15) (k := 8) (by decide +kernel)
theorem k231_8 : qx sc D 231 8 [l0, l1] (vi x :: st) u bb σ Q ↔ qx sc D 231 9 [l0, vi x] st u bb σ Q := r_istore_n (k := 1) (by decide +kernel) (Nat.le_of_ble_eq_true rfl)
theorem k231_9 : qx sc D 231 9 [l0, vi x] st u bb σ Q ↔ qx sc D 231 10 [l0, vi x] (vi x :: st) u bb σ Q := r_iload_n (k := 1) (by decide +kernel) rfl
theorem k231_10 : qx sc D 231 10 [vr a, l1] st u bb σ Q ↔ qx sc D 231 11 [vr a, l1] (vr a :: st) u bb σ Q := r_aload_n (k := 0) (by decide +kernel) rfl
theorem k231_11 : qx sc D 231 11 ls (vr 136 :: st) u bb σ Q ↔ qx sc D 231 14 ls (vi (σ 136 6) :: st) u bb σ Q := r_getI (idx := 66) (c := 15) (k := 6) (by decide +kernel)
theorem k231_14 : qx sc D 231 14 ls (vi b' :: vi a' :: st) u bb σ Q ↔ (a' < b' → qx sc D 231 17 ls st u bb σ Q) ∧ (¬ (a' < b') → qx sc D 231 45 ls st u bb σ Q) := r_ic_ge (off := 31) (t := 45) (by decide +kernel)
theorem k231_17 : qx sc D 231 17 [vr a, l1] st u bb σ Q ↔ qx sc D 231 18 [vr a, l1] (vr a :: st) u bb σ Q := r_aload_n (k := 0) (by decide +kernel) rfl
theorem k231_18 : qx sc D 231 18 ls (vr 136 :: st) u bb σ Q ↔ qx sc D 231 21 ls (vr 139 :: st) u bb σ Q := r_getR (idx := 69) (c := 15) (k := 4) (by decide +kernel)
theorem k231_21 : qx sc D 231 21 [l0, vi x] st u bb σ Q ↔ qx sc D 231 22 [l0, vi x] (vi x :: st) u bb σ Q := r_iload_n (k := 1) (by decide +kernel) rfl
theorem k231_22 : qx sc D 231 22 ls (vi i :: vr a :: st) u bb σ Q ↔ ((q_ty a = 1 ∨ q_ty a = 2) ∧ 0 ≤ i ∧ i < q_ln a) ∧ qx sc D 231 23 ls (vi (σ a i) :: st) u bb σ Q := r_bald (by decide +kernel)
theorem k231_23 : qx sc D 231 23 ls st u bb σ Q ↔ qx sc D 231 25 ls (vi 97 :: st) u bb σ Q := r_bipush (by decide +kernel)
theorem k231_25 : qx sc D 231 25 ls (vi b' :: vi a' :: st) u bb σ Q ↔ (a' < b' → qx sc D 231 45 ls st u bb σ Q) ∧ (¬ (a' < b') → qx sc D 231 28 ls st u bb σ Q) := r_ic_lt (off := 20) (t := 45) (by decide +kernel)
theorem k231_28 : qx sc D 231 28 [vr a, l1] st u bb σ Q ↔ qx sc D 231 29 [vr a, l1] (vr a :: st) u bb σ Q := r_aload_n (k := 0) (by decide +kernel) rfl
theorem k231_29 : qx sc D 231 29 ls (vr 136 :: st) u bb σ Q ↔ qx sc D 231 32 ls (vr 139 :: st) u bb σ Q := r_getR (idx := 69) (c := 15) (k := 4) (by decide +kernel)
theorem k231_32 : qx sc D 231 32 [l0, vi x] st u bb σ Q ↔ qx sc D 231 33 [l0, vi x] (vi x :: st) u bb σ Q := r_iload_n (k := 1) (by decide +kernel) rfl
theorem k231_33 : qx sc D 231 33 ls (vi i :: vr a :: st) u bb σ Q ↔ ((q_ty a = 1 ∨ q_ty a = 2) ∧ 0 ≤ i ∧ i < q_ln a) ∧ qx sc D 231 34 ls (vi (σ a i) :: st) u bb σ Q := r_bald (by decide +kernel)
theorem k231_34 : qx sc D 231 34 ls st u bb σ Q ↔ qx sc D 231 36 ls (vi 122 :: st) u bb σ Q := r_bipush (by decide +kernel)
theorem k231_36 : qx sc D 231 36 ls (vi b' :: vi a' :: st) u bb σ Q ↔ (b' < a' → qx sc D 231 45 ls st u bb σ Q) ∧ (¬ (b' < a') → qx sc D 231 39 ls st u bb σ Q) := r_ic_gt (off := 9) (t := 45) (by decide +kernel)
theorem k231_39 : qx sc D 231 39 [l0, vi x] st u bb σ Q ↔ q_R (x + 1) ∧ qx sc D 231 42 [l0, vi (x + 1)] st u bb σ Q := r_iinc (k := 1) (n := 1) (by decide +kernel) rfl
theorem k231_42 : qx sc D 231 42 ls st u bb σ Q ↔ qx sc D 231 9 ls st u bb σ Q := r_goto (off := (-33)) (by decide +kernel)
theorem k231_45 : qx sc D 231 45 [l0, vi x] st u bb σ Q ↔ qx sc D 231 46 [l0, vi x] (vi x :: st) u bb σ Q := r_iload_n (k := 1) (by decide +kernel) rfl
theorem k231_46 : qx sc D 231 46 [vr a, l1] st u bb σ Q ↔ qx sc D 231 47 [vr a, l1] (vr a :: st) u bb σ Q := r_aload_n (k := 0) (by decide +kernel) rfl
theorem k231_47 : qx sc D 231 47 ls (vr 136 :: st) u bb σ Q ↔ qx sc D 231 50 ls (vi (σ 136 8) :: st) u bb σ Q := r_getI (idx := 63) (c := 15) (k := 8) (by decide +kernel)
theorem k231_50 : qx sc D 231 50 ls (vi b' :: vi a' :: st) u bb σ Q ↔ q_R (a' - b') ∧ qx sc D 231 51 ls (vi (a' - b') :: st) u bb σ Q := r_isub (by decide +kernel)
theorem k231_51 : qx sc D 231 51 ls [vi x] (0, 0) bb σ Q ↔ Q (.inl (some (vi x))) bb σ := r_ret (by decide +kernel)
end K_305_kM3
