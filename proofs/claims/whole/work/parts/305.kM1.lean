section K_305_kM1
variable {sc : Nat × (Nat → Int32)} {D : Nat} {ls st : List V2} {u : PU} {bb : Bool} {σ : St} {Q : QP} {x i a' b' x0 x1 x2 x3 x4 x5 x20 x21 x22 x23 x24 : Int} {a b c a0 a1 a2 a3 a4 a20 a21 a22 a23 : Nat} {l0 l1 l2 l3 l4 l5 l6 l7 l8 l9 l10 l11 l12 : V2}
-- 151: RowProverModel.guarded(IZ)I
theorem k151_0 : qx sc D 151 0 ls st u bb σ Q ↔ qx sc D 151 1 ls (vi 0 :: st) u bb σ Q := r_iconst (by decide +kernel)
theorem k151_1 : qx sc D 151 1 [l0, l1, l2, l3, l4] (vi x :: st) u bb σ Q ↔ qx sc D 151 2 [l0, l1, l2, vi x, l4] st u bb σ Q := r_istore_n (k := 3) (by decide +kernel) (Nat.le_of_ble_eq_true rfl)
theorem k151_2 : qx sc D 151 2 ls st u bb σ Q ↔ qx sc D 151 3 ls (vi 0 :: st) u bb σ Q := r_iconst (by decide +kernel)
theorem k151_3 : qx sc D 151 3 [l0, l1, l2, l3, l4] (vi x :: st) u bb σ Q ↔ qx sc D 151 5 [l0, l1, l2, l3, vi x] st u bb σ Q := r_istore (k := 4) (by decide +kernel) (Nat.le_of_ble_eq_true rfl)
theorem k151_5 : qx sc D 151 5 [l0, l1, l2, l3, vi x] st u bb σ Q ↔ qx sc D 151 7 [l0, l1, l2, l3, vi x] (vi x :: st) u bb σ Q := r_iload (k := 4) (by decide +kernel) rfl
theorem k151_7 : qx sc D 151 7 [vr a, l1, l2, l3, l4] st u bb σ Q ↔ qx sc D 151 8 [vr a, l1, l2, l3, l4] (vr a :: st) u bb σ Q := r_aload_n (k := 0) (by decide +kernel) rfl
theorem k151_8 : qx sc D 151 8 ls (vr 136 :: st) u bb σ Q ↔ qx sc D 151 11 ls (vi (σ 136 16) :: st) u bb σ Q := r_getI (idx := 193) (c := 15) (k := 16) (by decide +kernel)
theorem k151_11 : qx sc D 151 11 ls (vi b' :: vi a' :: st) u bb σ Q ↔ (a' < b' → qx sc D 151 14 ls st u bb σ Q) ∧ (¬ (a' < b') → qx sc D 151 76 ls st u bb σ Q) := r_ic_ge (off := 65) (t := 76) (by decide +kernel)
theorem k151_14 : qx sc D 151 14 [vr a, l1, l2, l3, l4] st u bb σ Q ↔ qx sc D 151 15 [vr a, l1, l2, l3, l4] (vr a :: st) u bb σ Q := r_aload_n (k := 0) (by decide +kernel) rfl
theorem k151_15 : qx sc D 151 15 ls (vr 136 :: st) u bb σ Q ↔ qx sc D 151 18 ls (vr 176 :: st) u bb σ Q := r_getR (idx := 319) (c := 15) (k := 57) (by decide +kernel)
theorem k151_18 : qx sc D 151 18 [l0, l1, l2, l3, vi x] st u bb σ Q ↔ qx sc D 151 20 [l0, l1, l2, l3, vi x] (vi x :: st) u bb σ Q := r_iload (k := 4) (by decide +kernel) rfl
theorem k151_20 : qx sc D 151 20 ls (vi i :: vr a :: st) u bb σ Q ↔ (q_ty a = 0 ∧ 0 ≤ i ∧ i < q_ln a) ∧ qx sc D 151 21 ls (vi (σ a i) :: st) u bb σ Q := r_iald (by decide +kernel)
theorem k151_21 : qx sc D 151 21 [l0, vi x, l2, l3, l4] st u bb σ Q ↔ qx sc D 151 22 [l0, vi x, l2, l3, l4] (vi x :: st) u bb σ Q := r_iload_n (k := 1) (by decide +kernel) rfl
theorem k151_22 : qx sc D 151 22 ls (vi b' :: vi a' :: st) u bb σ Q ↔ (a' = b' → qx sc D 151 28 ls st u bb σ Q) ∧ (¬ (a' = b') → qx sc D 151 25 ls st u bb σ Q) := r_ic_eq (off := 6) (t := 28) (by decide +kernel)
theorem k151_25 : qx sc D 151 25 ls st u bb σ Q ↔ qx sc D 151 70 ls st u bb σ Q := r_goto (off := 45) (by decide +kernel)
theorem k151_28 : qx sc D 151 28 [l0, l1, l2, vi x, l4] st u bb σ Q ↔ qx sc D 151 29 [l0, l1, l2, vi x, l4] (vi x :: st) u bb σ Q := r_iload_n (k := 3) (by decide +kernel) rfl
theorem k151_29 : qx sc D 151 29 [l0, l1, vi x, l3, l4] st u bb σ Q ↔ qx sc D 151 30 [l0, l1, vi x, l3, l4] (vi x :: st) u bb σ Q := r_iload_n (k := 2) (by decide +kernel) rfl
theorem k151_30 : qx sc D 151 30 ls (vi x :: st) u bb σ Q ↔ (x = 0 → qx sc D 151 33 ls st u bb σ Q) ∧ (¬ (x = 0) → qx sc D 151 37 ls st u bb σ Q) := r_if_ne (off := 7) (t := 37) (by decide +kernel)
theorem k151_33 : qx sc D 151 33 ls st u bb σ Q ↔ qx sc D 151 34 ls (vi 1 :: st) u bb σ Q := r_iconst (by decide +kernel)
theorem k151_34 : qx sc D 151 34 ls st u bb σ Q ↔ qx sc D 151 68 ls st u bb σ Q := r_goto (off := 34) (by decide +kernel)
theorem k151_37 : qx sc D 151 37 [vr a, l1, l2, l3, l4] st u bb σ Q ↔ qx sc D 151 38 [vr a, l1, l2, l3, l4] (vr a :: st) u bb σ Q := r_aload_n (k := 0) (by decide +kernel) rfl
theorem k151_38 : qx sc D 151 38 ls (vr 136 :: st) u bb σ Q ↔ qx sc D 151 41 ls (vr 178 :: st) u bb σ Q := r_getR (idx := 325) (c := 15) (k := 59) (by decide +kernel)
theorem k151_41 : qx sc D 151 41 [l0, l1, l2, l3, vi x] st u bb σ Q ↔ qx sc D 151 43 [l0, l1, l2, l3, vi x] (vi x :: st) u bb σ Q := r_iload (k := 4) (by decide +kernel) rfl
theorem k151_43 : qx sc D 151 43 ls (vi i :: vr a :: st) u bb σ Q ↔ ((q_ty a = 1 ∨ q_ty a = 2) ∧ 0 ≤ i ∧ i < q_ln a) ∧ qx sc D 151 44 ls (vi (σ a i) :: st) u bb σ Q := r_bald (by decide +kernel)
theorem k151_44 : qx sc D 151 44 ls (vi x :: st) u bb σ Q ↔ (x = 0 → qx sc D 151 51 ls st u bb σ Q) ∧ (¬ (x = 0) → qx sc D 151 47 ls st u bb σ Q) := r_if_eq (off := 7) (t := 51) (by decide +kernel)
theorem k151_47 : qx sc D 151 47 ls st u bb σ Q ↔ qx sc D 151 48 ls (vi 0 :: st) u bb σ Q := r_iconst (by decide +kernel)
theorem k151_48 : qx sc D 151 48 ls st u bb σ Q ↔ qx sc D 151 52 ls st u bb σ Q := r_goto (off := 4) (by decide +kernel)
theorem k151_51 : qx sc D 151 51 ls st u bb σ Q ↔ qx sc D 151 52 ls (vi 1 :: st) u bb σ Q := r_iconst (by decide +kernel)
theorem k151_52 : qx sc D 151 52 [vr a, l1, l2, l3, l4] st u bb σ Q ↔ qx sc D 151 53 [vr a, l1, l2, l3, l4] (vr a :: st) u bb σ Q := r_aload_n (k := 0) (by decide +kernel) rfl
theorem k151_53 : qx sc D 151 53 ls (vr 136 :: st) u bb σ Q ↔ qx sc D 151 56 ls (vr 179 :: st) u bb σ Q := r_getR (idx := 329) (c := 15) (k := 60) (by decide +kernel)
theorem k151_56 : qx sc D 151 56 [l0, l1, l2, l3, vi x] st u bb σ Q ↔ qx sc D 151 58 [l0, l1, l2, l3, vi x] (vi x :: st) u bb σ Q := r_iload (k := 4) (by decide +kernel) rfl
theorem k151_58 : qx sc D 151 58 ls (vi i :: vr a :: st) u bb σ Q ↔ ((q_ty a = 1 ∨ q_ty a = 2) ∧ 0 ≤ i ∧ i < q_ln a) ∧ qx sc D 151 59 ls (vi (σ a i) :: st) u bb σ Q := r_bald (by decide +kernel)
theorem k151_59 : qx sc D 151 59 ls (vi x :: st) u bb σ Q ↔ (x = 0 → qx sc D 151 66 ls st u bb σ Q) ∧ (¬ (x = 0) → qx sc D 151 62 ls st u bb σ Q) := r_if_eq (off := 7) (t := 66) (by decide +kernel)
theorem k151_62 : qx sc D 151 62 ls st u bb σ Q ↔ qx sc D 151 63 ls (vi 0 :: st) u bb σ Q := r_iconst (by decide +kernel)
theorem k151_63 : qx sc D 151 63 ls st u bb σ Q ↔ qx sc D 151 67 ls st u bb σ Q := r_goto (off := 4) (by decide +kernel)
theorem k151_66 : qx sc D 151 66 ls st u bb σ Q ↔ qx sc D 151 67 ls (vi 1 :: st) u bb σ Q := r_iconst (by decide +kernel)
theorem k151_67 : qx sc D 151 67 ls (vi b' :: vi a' :: st) u bb σ Q ↔ q_R (a' + b') ∧ qx sc D 151 68 ls (vi (a' + b') :: st) u bb σ Q := r_iadd (by decide +kernel)
theorem k151_68 : qx sc D 151 68 ls (vi b' :: vi a' :: st) u bb σ Q ↔ q_R (a' + b') ∧ qx sc D 151 69 ls (vi (a' + b') :: st) u bb σ Q := r_iadd (by decide +kernel)
theorem k151_69 : qx sc D 151 69 [l0, l1, l2, l3, l4] (vi x :: st) u bb σ Q ↔ qx sc D 151 70 [l0, l1, l2, vi x, l4] st u bb σ Q := r_istore_n (k := 3) (by decide +kernel) (Nat.le_of_ble_eq_true rfl)
theorem k151_70 : qx sc D 151 70 [l0, l1, l2, l3, vi x] st u bb σ Q ↔ q_R (x + 1) ∧ qx sc D 151 73 [l0, l1, l2, l3, vi (x + 1)] st u bb σ Q := r_iinc (k := 4) (n := 1) (by decide +kernel) rfl
theorem k151_73 : qx sc D 151 73 ls st u bb σ Q ↔ qx sc D 151 5 ls st u bb σ Q := r_goto (off := (-68)) (by decide +kernel)
theorem k151_76 : qx sc D 151 76 [l0, l1, l2, vi x, l4] st u bb σ Q ↔ qx sc D 151 77 [l0, l1, l2, vi x, l4] (vi x :: st) u bb σ Q := r_iload_n (k := 3) (by decide +kernel) rfl
theorem k151_77 : qx sc D 151 77 ls [vi x] (0, 0) bb σ Q ↔ Q (.inl (some (vi x))) bb σ := r_ret (by decide +kernel)
-- 152: RowProverModel.guardedAll()I
theorem k152_0 : qx sc D 152 0 ls st u bb σ Q ↔ qx sc D 152 1 ls (vi 0 :: st) u bb σ Q := r_iconst (by decide +kernel)
theorem k152_1 : qx sc D 152 1 [l0, l1, l2] (vi x :: st) u bb σ Q ↔ qx sc D 152 2 [l0, vi x, l2] st u bb σ Q := r_istore_n (k := 1) (by decide +kernel) (Nat.le_of_ble_eq_true rfl)
theorem k152_2 : qx sc D 152 2 ls st u bb σ Q ↔ qx sc D 152 3 ls (vi 0 :: st) u bb σ Q := r_iconst (by decide +kernel)
theorem k152_3 : qx sc D 152 3 [l0, l1, l2] (vi x :: st) u bb σ Q ↔ qx sc D 152 4 [l0, l1, vi x] st u bb σ Q := r_istore_n (k := 2) (by decide +kernel) (Nat.le_of_ble_eq_true rfl)
theorem k152_4 : qx sc D 152 4 [l0, l1, vi x] st u bb σ Q ↔ qx sc D 152 5 [l0, l1, vi x] (vi x :: st) u bb σ Q := r_iload_n (k := 2) (by decide +kernel) rfl
theorem k152_5 : qx sc D 152 5 [vr a, l1, l2] st u bb σ Q ↔ qx sc D 152 6 [vr a, l1, l2] (vr a :: st) u bb σ Q := r_aload_n (k := 0) (by decide +kernel) rfl
theorem k152_6 : qx sc D 152 6 ls (vr 136 :: st) u bb σ Q ↔ qx sc D 152 9 ls (vi (σ 136 16) :: st) u bb σ Q := r_getI (idx := 193) (c := 15) (k := 16) (by decide +kernel)
theorem k152_9 : qx sc D 152 9 ls (vi b' :: vi a' :: st) u bb σ Q ↔ (a' < b' → qx sc D 152 12 ls st u bb σ Q) ∧ (¬ (a' < b') → qx sc D 152 36 ls st u bb σ Q) := r_ic_ge (off := 27) (t := 36) (by decide +kernel)
theorem k152_12 : qx sc D 152 12 [l0, vi x, l2] st u bb σ Q ↔ qx sc D 152 13 [l0, vi x, l2] (vi x :: st) u bb σ Q := r_iload_n (k := 1) (by decide +kernel) rfl
theorem k152_13 : qx sc D 152 13 [vr a, l1, l2] st u bb σ Q ↔ qx sc D 152 14 [vr a, l1, l2] (vr a :: st) u bb σ Q := r_aload_n (k := 0) (by decide +kernel) rfl
theorem k152_14 : qx sc D 152 14 ls (vr 136 :: st) u bb σ Q ↔ qx sc D 152 17 ls (vr 176 :: st) u bb σ Q := r_getR (idx := 319) (c := 15) (k := 57) (by decide +kernel)
theorem k152_17 : qx sc D 152 17 [l0, l1, vi x] st u bb σ Q ↔ qx sc D 152 18 [l0, l1, vi x] (vi x :: st) u bb σ Q := r_iload_n (k := 2) (by decide +kernel) rfl
theorem k152_18 : qx sc D 152 18 ls (vi i :: vr a :: st) u bb σ Q ↔ (q_ty a = 0 ∧ 0 ≤ i ∧ i < q_ln a) ∧ qx sc D 152 19 ls (vi (σ a i) :: st) u bb σ Q := r_iald (by decide +kernel)
theorem k152_19 : qx sc D 152 19 ls st u bb σ Q ↔ qx sc D 152 20 ls (vi (-1) :: st) u bb σ Q := r_iconst (by decide +kernel)
theorem k152_20 : qx sc D 152 20 ls (vi b' :: vi a' :: st) u bb σ Q ↔ (a' = b' → qx sc D 152 27 ls st u bb σ Q) ∧ (¬ (a' = b') → qx sc D 152 23 ls st u bb σ Q) := r_ic_eq (off := 7) (t := 27) (by decide +kernel)
theorem k152_23 : qx sc D 152 23 ls st u bb σ Q ↔ qx sc D 152 24 ls (vi 1 :: st) u bb σ Q := r_iconst (by decide +kernel)
theorem k152_24 : qx sc D 152 24 ls st u bb σ Q ↔ qx sc D 152 28 ls st u bb σ Q := r_goto (off := 4) (by decide +kernel)
theorem k152_27 : qx sc D 152 27 ls st u bb σ Q ↔ qx sc D 152 28 ls (vi 0 :: st) u bb σ Q := r_iconst (by decide +kernel)
theorem k152_28 : qx sc D 152 28 ls (vi b' :: vi a' :: st) u bb σ Q ↔ q_R (a' + b') ∧ qx sc D 152 29 ls (vi (a' + b') :: st) u bb σ Q := r_iadd (by decide +kernel)
theorem k152_29 : qx sc D 152 29 [l0, l1, l2] (vi x :: st) u bb σ Q ↔ qx sc D 152 30 [l0, vi x, l2] st u bb σ Q := r_istore_n (k := 1) (by decide +kernel) (Nat.le_of_ble_eq_true rfl)
theorem k152_30 : qx sc D 152 30 [l0, l1, vi x] st u bb σ Q ↔ q_R (x + 1) ∧ qx sc D 152 33 [l0, l1, vi (x + 1)] st u bb σ Q := r_iinc (k := 2) (n := 1) (by decide +kernel) rfl
theorem k152_33 : qx sc D 152 33 ls st u bb σ Q ↔ qx sc D 152 4 ls st u bb σ Q := r_goto (off := (-29)) (by decide +kernel)
theorem k152_36 : qx sc D 152 36 [l0, vi x, l2] st u bb σ Q ↔ qx sc D 152 37 [l0, vi x, l2] (vi x :: st) u bb σ Q := r_iload_n (k := 1) (by decide +kernel) rfl
theorem k152_37 : qx sc D 152 37 ls [vi x] (0, 0) bb σ Q ↔ Q (.inl (some (vi x))) bb σ := r_ret (by decide +kernel)
-- 153: RowProverModel.hangs(I)I
theorem k153_0 : qx sc D 153 0 [vr a, l1, l2, l3] st u bb σ Q ↔ qx sc D 153 1 [vr a, l1, l2, l3] (vr a :: st) u bb σ Q := r_aload_n (k := 0) (by decide +kernel) rfl
theorem k153_1 : qx sc D 153 1 ls st u bb σ Q ↔ qx sc D 153 2 ls (vi 0 :: st) u bb σ Q := r_iconst (by decide +kernel)
theorem k153_2 : qx sc D 153 2 ls (vi x :: vr 136 :: st) u bb σ Q ↔ qx sc D 153 5 ls st u bb (q_up σ 136 0 x) Q := r_putI (idx := 3) (c := 15) (k := 0) (by decide +kernel)
theorem k153_5 : qx sc D 153 5 [vr a, l1, l2, l3] st u bb σ Q ↔ qx sc D 153 6 [vr a, l1, l2, l3] (vr a :: st) u bb σ Q := r_aload_n (k := 0) (by decide +kernel) rfl
theorem k153_6 : qx sc D 153 6 [l0, vi x, l2, l3] st u bb σ Q ↔ qx sc D 153 7 [l0, vi x, l2, l3] (vi x :: st) u bb σ Q := r_iload_n (k := 1) (by decide +kernel) rfl
theorem k153_7 : qx sc (D + 1) 153 7 ls [vi x0, vr 136] (0, 0) bb σ Q ↔ qx sc D 184 0 [vr 136, vi x0] [] (0, 0) bb σ (q_kn sc (D + 1) 153 10 ls [] (0, 0) Q) := r_callv (idx := 521) (n := 1) (m := 2) (by decide +kernel) rfl (Nat.le_of_ble_eq_true rfl) ⟨Nat.le_of_ble_eq_true rfl, Nat.le_of_ble_eq_true rfl, rfl⟩ rfl
theorem k153_10 : qx sc D 153 10 ls (vi x :: st) u bb σ Q ↔ (x = 0 → qx sc D 153 15 ls st u bb σ Q) ∧ (¬ (x = 0) → qx sc D 153 13 ls st u bb σ Q) := r_if_eq (off := 5) (t := 15) (by decide +kernel)
theorem k153_13 : qx sc D 153 13 ls st u bb σ Q ↔ qx sc D 153 14 ls (vi 0 :: st) u bb σ Q := r_iconst (by decide +kernel)
theorem k153_14 : qx sc D 153 14 ls [vi x] (0, 0) bb σ Q ↔ Q (.inl (some (vi x))) bb σ := r_ret (by decide +kernel)
theorem k153_15 : qx sc D 153 15 [vr a, l1, l2, l3] st u bb σ Q ↔ qx sc D 153 16 [vr a, l1, l2, l3] (vr a :: st) u bb σ Q := r_aload_n (k := 0) (by decide +kernel) rfl
theorem k153_16 : qx sc (D + 1) 153 16 ls [vr 136] (0, 0) bb σ Q ↔ qx sc D 211 0 [vr 136, vn, vn] [] (0, 0) bb σ (q_kn sc (D + 1) 153 19 ls [] (0, 0) Q) := r_callv (idx := 527) (n := 0) (m := 3) (by decide +kernel) rfl (Nat.le_of_ble_eq_true rfl) ⟨Nat.le_of_ble_eq_true rfl, Nat.le_of_ble_eq_true rfl, rfl⟩ rfl
theorem k153_19 : qx sc D 153 19 [l0, l1, l2, l3] (vi x :: st) u bb σ Q ↔ qx sc D 153 20 [l0, l1, vi x, l3] st u bb σ Q := r_istore_n (k := 2) (by decide +kernel) (Nat.le_of_ble_eq_true rfl)
theorem k153_20 : qx sc D 153 20 [vr a, l1, l2, l3] st u bb σ Q ↔ qx sc D 153 21 [vr a, l1, l2, l3] (vr a :: st) u bb σ Q := r_aload_n (k := 0) (by decide +kernel) rfl
theorem k153_21 : qx sc D 153 21 [l0, vi x, l2, l3] st u bb σ Q ↔ qx sc D 153 22 [l0, vi x, l2, l3] (vi x :: st) u bb σ Q := r_iload_n (k := 1) (by decide +kernel) rfl
theorem k153_22 : qx sc (D + 1) 153 22 ls [vi x0, vr 136] (0, 0) bb σ Q ↔ qx sc D 135 0 [vr 136, vi x0, vn] [] (0, 0) bb σ (q_kn sc (D + 1) 153 25 ls [] (0, 0) Q) := r_callv (idx := 418) (n := 1) (m := 3) (by decide +kernel) rfl (Nat.le_of_ble_eq_true rfl) ⟨Nat.le_of_ble_eq_true rfl, Nat.le_of_ble_eq_true rfl, rfl⟩ rfl
theorem k153_25 : qx sc D 153 25 [vr a, l1, l2, l3] st u bb σ Q ↔ qx sc D 153 26 [vr a, l1, l2, l3] (vr a :: st) u bb σ Q := r_aload_n (k := 0) (by decide +kernel) rfl
theorem k153_26 : qx sc (D + 1) 153 26 ls [vr 136] (0, 0) bb σ Q ↔ qx sc D 211 0 [vr 136, vn, vn] [] (0, 0) bb σ (q_kn sc (D + 1) 153 29 ls [] (0, 0) Q) := r_callv (idx := 527) (n := 0) (m := 3) (by decide +kernel) rfl (Nat.le_of_ble_eq_true rfl) ⟨Nat.le_of_ble_eq_true rfl, Nat.le_of_ble_eq_true rfl, rfl⟩ rfl
theorem k153_29 : qx sc D 153 29 [l0, l1, l2, l3] (vi x :: st) u bb σ Q ↔ qx sc D 153 30 [l0, l1, l2, vi x] st u bb σ Q := r_istore_n (k := 3) (by decide +kernel) (Nat.le_of_ble_eq_true rfl)
theorem k153_30 : qx sc D 153 30 [vr a, l1, l2, l3] st u bb σ Q ↔ qx sc D 153 31 [vr a, l1, l2, l3] (vr a :: st) u bb σ Q := r_aload_n (k := 0) (by decide +kernel) rfl
theorem k153_31 : qx sc D 153 31 ls st u bb σ Q ↔ qx sc D 153 32 ls (vi (-1) :: st) u bb σ Q := r_iconst (by decide +kernel)
theorem k153_32 : qx sc (D + 1) 153 32 ls [vi x0, vr 136] (0, 0) bb σ Q ↔ qx sc D 135 0 [vr 136, vi x0, vn] [] (0, 0) bb σ (q_kn sc (D + 1) 153 35 ls [] (0, 0) Q) := r_callv (idx := 418) (n := 1) (m := 3) (by decide +kernel) rfl (Nat.le_of_ble_eq_true rfl) ⟨Nat.le_of_ble_eq_true rfl, Nat.le_of_ble_eq_true rfl, rfl⟩ rfl
theorem k153_35 : qx sc D 153 35 [l0, l1, vi x, l3] st u bb σ Q ↔ qx sc D 153 36 [l0, l1, vi x, l3] (vi x :: st) u bb σ Q := r_iload_n (k := 2) (by decide +kernel) rfl
theorem k153_36 : qx sc D 153 36 [l0, l1, l2, vi x] st u bb σ Q ↔ qx sc D 153 37 [l0, l1, l2, vi x] (vi x :: st) u bb σ Q := r_iload_n (k := 3) (by decide +kernel) rfl
theorem k153_37 : qx sc D 153 37 ls (vi b' :: vi a' :: st) u bb σ Q ↔ q_R (a' - b') ∧ qx sc D 153 38 ls (vi (a' - b') :: st) u bb σ Q := r_isub (by decide +kernel)
theorem k153_38 : qx sc D 153 38 ls [vi x] (0, 0) bb σ Q ↔ Q (.inl (some (vi x))) bb σ := r_ret (by decide +kernel)
-- 154: RowProverModel.hasFailed()Z
theorem k154_0 : qx sc D 154 0 [vr a] st u bb σ Q ↔ qx sc D 154 1 [vr a] (vr a :: st) u bb σ Q := r_aload_n (k := 0) (by decide +kernel) rfl
theorem k154_1 : qx sc D 154 1 ls (vr 136 :: st) u bb σ Q ↔ qx sc D 154 4 ls (vi (σ 136 10) :: st) u bb σ Q := r_getI (idx := 60) (c := 15) (k := 10) (by decide +kernel)
theorem k154_4 : qx sc D 154 4 ls st u bb σ Q ↔ qx sc D 154 5 ls (vi (-1) :: st) u bb σ Q := r_iconst (by decide +kernel)
theorem k154_5 : qx sc D 154 5 ls (vi b' :: vi a' :: st) u bb σ Q ↔ (a' = b' → qx sc D 154 12 ls st u bb σ Q) ∧ (¬ (a' = b') → qx sc D 154 8 ls st u bb σ Q) := r_ic_eq (off := 7) (t := 12) (by decide +kernel)
theorem k154_8 : qx sc D 154 8 ls st u bb σ Q ↔ qx sc D 154 9 ls (vi 1 :: st) u bb σ Q := r_iconst (by decide +kernel)
theorem k154_9 : qx sc D 154 9 ls st u bb σ Q ↔ qx sc D 154 13 ls st u bb σ Q := r_goto (off := 4) (by decide +kernel)
theorem k154_12 : qx sc D 154 12 ls st u bb σ Q ↔ qx sc D 154 13 ls (vi 0 :: st) u bb σ Q := r_iconst (by decide +kernel)
theorem k154_13 : qx sc D 154 13 ls [vi x] (0, 0) bb σ Q ↔ (x = 0 ∨ x = 1) ∧ Q (.inl (some (vi x))) bb σ := r_retB (by decide +kernel)
-- 155: RowProverModel.hasOwn(II)Z
theorem k155_0 : qx sc D 155 0 [vr a, l1, l2] st u bb σ Q ↔ qx sc D 155 1 [vr a, l1, l2] (vr a :: st) u bb σ Q := r_aload_n (k := 0) (by decide +kernel) rfl
theorem k155_1 : qx sc D 155 1 ls (vr 136 :: st) u bb σ Q ↔ qx sc D 155 4 ls (vr 165 :: st) u bb σ Q := r_getR (idx := 220) (c := 15) (k := 42) (by decide +kernel)
theorem k155_4 : qx sc D 155 4 ls st u bb σ Q ↔ qx sc D 155 5 ls (vi 2 :: st) u bb σ Q := r_iconst (by decide +kernel)
theorem k155_5 : qx sc D 155 5 [l0, vi x, l2] st u bb σ Q ↔ qx sc D 155 6 [l0, vi x, l2] (vi x :: st) u bb σ Q := r_iload_n (k := 1) (by decide +kernel) rfl
theorem k155_6 : qx sc D 155 6 ls (vi b' :: vi a' :: st) u bb σ Q ↔ q_R (a' * b') ∧ qx sc D 155 7 ls (vi (a' * b') :: st) u bb σ Q := r_imul (by decide +kernel)
theorem k155_7 : qx sc D 155 7 [l0, l1, vi x] st u bb σ Q ↔ qx sc D 155 8 [l0, l1, vi x] (vi x :: st) u bb σ Q := r_iload_n (k := 2) (by decide +kernel) rfl
theorem k155_8 : qx sc D 155 8 ls (vi b' :: vi a' :: st) u bb σ Q ↔ q_R (a' + b') ∧ qx sc D 155 9 ls (vi (a' + b') :: st) u bb σ Q := r_iadd (by decide +kernel)
theorem k155_9 : qx sc D 155 9 ls (vi i :: vr a :: st) u bb σ Q ↔ (q_ty a = 0 ∧ 0 ≤ i ∧ i < q_ln a) ∧ qx sc D 155 10 ls (vi (σ a i) :: st) u bb σ Q := r_iald (by decide +kernel)
theorem k155_10 : qx sc D 155 10 ls st u bb σ Q ↔ qx sc D 155 11 ls (vi 1 :: st) u bb σ Q := r_iconst (by decide +kernel)
theorem k155_11 : qx sc D 155 11 ls (vi b' :: vi a' :: st) u bb σ Q ↔ (a' = b' → qx sc D 155 14 ls st u bb σ Q) ∧ (¬ (a' = b') → qx sc D 155 65 ls st u bb σ Q) := r_ic_ne (off := 54) (t := 65) (by decide +kernel)
theorem k155_14 : qx sc D 155 14 [vr a, l1, l2] st u bb σ Q ↔ qx sc D 155 15 [vr a, l1, l2] (vr a :: st) u bb σ Q := r_aload_n (k := 0) (by decide +kernel) rfl
theorem k155_15 : qx sc D 155 15 ls (vr 136 :: st) u bb σ Q ↔ qx sc D 155 18 ls (vr 165 :: st) u bb σ Q := r_getR (idx := 220) (c := 15) (k := 42) (by decide +kernel)
theorem k155_18 : qx sc D 155 18 ls st u bb σ Q ↔ qx sc D 155 19 ls (vi 2 :: st) u bb σ Q := r_iconst (by decide +kernel)
theorem k155_19 : qx sc D 155 19 [l0, vi x, l2] st u bb σ Q ↔ qx sc D 155 20 [l0, vi x, l2] (vi x :: st) u bb σ Q := r_iload_n (k := 1) (by decide +kernel) rfl
theorem k155_20 : qx sc D 155 20 ls (vi b' :: vi a' :: st) u bb σ Q ↔ q_R (a' * b') ∧ qx sc D 155 21 ls (vi (a' * b') :: st) u bb σ Q := r_imul (by decide +kernel)
theorem k155_21 : qx sc D 155 21 ls (vi i :: vr a :: st) u bb σ Q ↔ (q_ty a = 0 ∧ 0 ≤ i ∧ i < q_ln a) ∧ qx sc D 155 22 ls (vi (σ a i) :: st) u bb σ Q := r_iald (by decide +kernel)
theorem k155_22 : qx sc D 155 22 ls st u bb σ Q ↔ qx sc D 155 23 ls (vi 1 :: st) u bb σ Q := r_iconst (by decide +kernel)
theorem k155_23 : qx sc D 155 23 ls (vi b' :: vi a' :: st) u bb σ Q ↔ (a' = b' → qx sc D 155 26 ls st u bb σ Q) ∧ (¬ (a' = b') → qx sc D 155 61 ls st u bb σ Q) := r_ic_ne (off := 38) (t := 61) (by decide +kernel)
theorem k155_26 : qx sc D 155 26 [vr a, l1, l2] st u bb σ Q ↔ qx sc D 155 27 [vr a, l1, l2] (vr a :: st) u bb σ Q := r_aload_n (k := 0) (by decide +kernel) rfl
theorem k155_27 : qx sc D 155 27 ls (vr 136 :: st) u bb σ Q ↔ qx sc D 155 30 ls (vr 165 :: st) u bb σ Q := r_getR (idx := 220) (c := 15) (k := 42) (by decide +kernel)
theorem k155_30 : qx sc D 155 30 ls st u bb σ Q ↔ qx sc D 155 31 ls (vi 2 :: st) u bb σ Q := r_iconst (by decide +kernel)
theorem k155_31 : qx sc D 155 31 [l0, vi x, l2] st u bb σ Q ↔ qx sc D 155 32 [l0, vi x, l2] (vi x :: st) u bb σ Q := r_iload_n (k := 1) (by decide +kernel) rfl
theorem k155_32 : qx sc D 155 32 ls (vi b' :: vi a' :: st) u bb σ Q ↔ q_R (a' * b') ∧ qx sc D 155 33 ls (vi (a' * b') :: st) u bb σ Q := r_imul (by decide +kernel)
theorem k155_33 : qx sc D 155 33 ls st u bb σ Q ↔ qx sc D 155 34 ls (vi 1 :: st) u bb σ Q := r_iconst (by decide +kernel)
theorem k155_34 : qx sc D 155 34 ls (vi b' :: vi a' :: st) u bb σ Q ↔ q_R (a' + b') ∧ qx sc D 155 35 ls (vi (a' + b') :: st) u bb σ Q := r_iadd (by decide +kernel)
theorem k155_35 : qx sc D 155 35 ls (vi i :: vr a :: st) u bb σ Q ↔ (q_ty a = 0 ∧ 0 ≤ i ∧ i < q_ln a) ∧ qx sc D 155 36 ls (vi (σ a i) :: st) u bb σ Q := r_iald (by decide +kernel)
theorem k155_36 : qx sc D 155 36 ls st u bb σ Q ↔ qx sc D 155 37 ls (vi 1 :: st) u bb σ Q := r_iconst (by decide +kernel)
theorem k155_37 : qx sc D 155 37 ls (vi b' :: vi a' :: st) u bb σ Q ↔ (a' = b' → qx sc D 155 40 ls st u bb σ Q) ∧ (¬ (a' = b') → qx sc D 155 61 ls st u bb σ Q) := r_ic_ne (off := 24) (t := 61) (by decide +kernel)
theorem k155_40 : qx sc D 155 40 [vr a, l1, l2] st u bb σ Q ↔ qx sc D 155 41 [vr a, l1, l2] (vr a :: st) u bb σ Q := r_aload_n (k := 0) (by decide +kernel) rfl
theorem k155_41 : qx sc D 155 41 ls (vr 136 :: st) u bb σ Q ↔ qx sc D 155 44 ls (vr 166 :: st) u bb σ Q := r_getR (idx := 223) (c := 15) (k := 43) (by decide +kernel)
theorem k155_44 : qx sc D 155 44 ls st u bb σ Q ↔ qx sc D 155 45 ls (vi 2 :: st) u bb σ Q := r_iconst (by decide +kernel)
theorem k155_45 : qx sc D 155 45 [l0, vi x, l2] st u bb σ Q ↔ qx sc D 155 46 [l0, vi x, l2] (vi x :: st) u bb σ Q := r_iload_n (k := 1) (by decide +kernel) rfl
theorem k155_46 : qx sc D 155 46 ls (vi b' :: vi a' :: st) u bb σ Q ↔ q_R (a' * b') ∧ qx sc D 155 47 ls (vi (a' * b') :: st) u bb σ Q := r_imul (by decide +kernel)
theorem k155_47 : qx sc D 155 47 ls (vi i :: vr a :: st) u bb σ Q ↔ (q_ty a = 0 ∧ 0 ≤ i ∧ i < q_ln a) ∧ qx sc D 155 48 ls (vi (σ a i) :: st) u bb σ Q := r_iald (by decide +kernel)
theorem k155_48 : qx sc D 155 48 [vr a, l1, l2] st u bb σ Q ↔ qx sc D 155 49 [vr a, l1, l2] (vr a :: st) u bb σ Q := r_aload_n (k := 0) (by decide +kernel) rfl
theorem k155_49 : qx sc D 155 49 ls (vr 136 :: st) u bb σ Q ↔ qx sc D 155 52 ls (vr 166 :: st) u bb σ Q := r_getR (idx := 223) (c := 15) (k := 43) (by decide +kernel)
theorem k155_52 : qx sc D 155 52 ls st u bb σ Q ↔ qx sc D 155 53 ls (vi 2 :: st) u bb σ Q := r_iconst (by decide +kernel)
theorem k155_53 : qx sc D 155 53 [l0, vi x, l2] st u bb σ Q ↔ qx sc D 155 54 [l0, vi x, l2] (vi x :: st) u bb σ Q := r_iload_n (k := 1) (by decide +kernel) rfl
theorem k155_54 : qx sc D 155 54 ls (vi b' :: vi a' :: st) u bb σ Q ↔ q_R (a' * b') ∧ qx sc D 155 55 ls (vi (a' * b') :: st) u bb σ Q := r_imul (by decide +kernel)
theorem k155_55 : qx sc D 155 55 ls st u bb σ Q ↔ qx sc D 155 56 ls (vi 1 :: st) u bb σ Q := r_iconst (by decide +kernel)
theorem k155_56 : qx sc D 155 56 ls (vi b' :: vi a' :: st) u bb σ Q ↔ q_R (a' + b') ∧ qx sc D 155 57 ls (vi (a' + b') :: st) u bb σ Q := r_iadd (by decide +kernel)
theorem k155_57 : qx sc D 155 57 ls (vi i :: vr a :: st) u bb σ Q ↔ (q_ty a = 0 ∧ 0 ≤ i ∧ i < q_ln a) ∧ qx sc D 155 58 ls (vi (σ a i) :: st) u bb σ Q := r_iald (by decide +kernel)
theorem k155_58 : qx sc D 155 58 ls (vi b' :: vi a' :: st) u bb σ Q ↔ (a' = b' → qx sc D 155 65 ls st u bb σ Q) ∧ (¬ (a' = b') → qx sc D 155 61 ls st u bb σ Q) := r_ic_eq (off := 7) (t := 65) (by decide +kernel)
theorem k155_61 : qx sc D 155 61 ls st u bb σ Q ↔ qx sc D 155 62 ls (vi 1 :: st) u bb σ Q := r_iconst (by decide +kernel)
theorem k155_62 : qx sc D 155 62 ls st u bb σ Q ↔ qx sc D 155 66 ls st u bb σ Q := r_goto (off := 4) (by decide +kernel)
theorem k155_65 : qx sc D 155 65 ls st u bb σ Q ↔ qx sc D 155 66 ls (vi 0 :: st) u bb σ Q := r_iconst (by decide +kernel)
theorem k155_66 : qx sc D 155 66 ls [vi x] (0, 0) bb σ Q ↔ (x = 0 ∨ x = 1) ∧ Q (.inl (some (vi x))) bb σ := r_retB (by decide +kernel)
-- 156: RowProverModel.holdsNow(I)Z
theorem k156_0 : qx sc D 156 0 [vr a, l1, l2, l3] st u bb σ Q ↔ qx sc D 156 1 [vr a, l1, l2, l3] (vr a :: st) u bb σ Q := r_aload_n (k := 0) (by decide +kernel) rfl
theorem k156_1 : qx sc D 156 1 ls st u bb σ Q ↔ qx sc D 156 2 ls (vi 2 :: st) u bb σ Q := r_iconst (by decide +kernel)
theorem k156_2 : qx sc D 156 2 [l0, vi x, l2, l3] st u bb σ Q ↔ qx sc D 156 3 [l0, vi x, l2, l3] (vi x :: st) u bb σ Q := r_iload_n (k := 1) (by decide +kernel) rfl
theorem k156_3 : qx sc D 156 3 ls (vi b' :: vi a' :: st) u bb σ Q ↔ q_R (a' * b') ∧ qx sc D 156 4 ls (vi (a' * b') :: st) u bb σ Q := r_imul (by decide +kernel)
theorem k156_4 : qx sc (D + 1) 156 4 ls [vi x0, vr 136] (0, 0) bb σ Q ↔ qx sc D 213 0 [vr 136, vi x0] [] (0, 0) bb σ (q_kn sc (D + 1) 156 7 ls [] (0, 0) Q) := r_callv (idx := 443) (n := 1) (m := 2) (by decide +kernel) rfl (Nat.le_of_ble_eq_true rfl) ⟨Nat.le_of_ble_eq_true rfl, Nat.le_of_ble_eq_true rfl, rfl⟩ rfl
theorem k156_7 : qx sc D 156 7 [l0, l1, l2, l3] (vi x :: st) u bb σ Q ↔ qx sc D 156 8 [l0, l1, vi x, l3] st u bb σ Q := r_istore_n (k := 2) (by decide +kernel) (Nat.le_of_ble_eq_true rfl)
theorem k156_8 : qx sc D 156 8 [vr a, l1, l2, l3] st u bb σ Q ↔ qx sc D 156 9 [vr a, l1, l2, l3] (vr a :: st) u bb σ Q := r_aload_n (k := 0) (by decide +kernel) rfl
theorem k156_9 : qx sc D 156 9 ls st u bb σ Q ↔ qx sc D 156 10 ls (vi 2 :: st) u bb σ Q := r_iconst (by decide +kernel)
theorem k156_10 : qx sc D 156 10 [l0, vi x, l2, l3] st u bb σ Q ↔ qx sc D 156 11 [l0, vi x, l2, l3] (vi x :: st) u bb σ Q := r_iload_n (k := 1) (by decide +kernel) rfl
theorem k156_11 : qx sc D 156 11 ls (vi b' :: vi a' :: st) u bb σ Q ↔ q_R (a' * b') ∧ qx sc D 156 12 ls (vi (a' * b') :: st) u bb σ Q := r_imul (by decide +kernel)
theorem k156_12 : qx sc D 156 12 ls st u bb σ Q ↔ qx sc D 156 13 ls (vi 1 :: st) u bb σ Q := r_iconst (by decide +kernel)
theorem k156_13 : qx sc D 156 13 ls (vi b' :: vi a' :: st) u bb σ Q ↔ q_R (a' + b') ∧ qx sc D 156 14 ls (vi (a' + b') :: st) u bb σ Q := r_iadd (by decide +kernel)
theorem k156_14 : qx sc (D + 1) 156 14 ls [vi x0, vr 136] (0, 0) bb σ Q ↔ qx sc D 213 0 [vr 136, vi x0] [] (0, 0) bb σ (q_kn sc (D + 1) 156 17 ls [] (0, 0) Q) := r_callv (idx := 443) (n := 1) (m := 2) (by decide +kernel) rfl (Nat.le_of_ble_eq_true rfl) ⟨Nat.le_of_ble_eq_true rfl, Nat.le_of_ble_eq_true rfl, rfl⟩ rfl
theorem k156_17 : qx sc D 156 17 [l0, l1, l2, l3] (vi x :: st) u bb σ Q ↔ qx sc D 156 18 [l0, l1, l2, vi x] st u bb σ Q := r_istore_n (k := 3) (by decide +kernel) (Nat.le_of_ble_eq_true rfl)
theorem k156_18 : qx sc D 156 18 [vr a, l1, l2, l3] st u bb σ Q ↔ qx sc D 156 19 [vr a, l1, l2, l3] (vr a :: st) u bb σ Q := r_aload_n (k := 0) (by decide +kernel) rfl
theorem k156_19 : qx sc D 156 19 ls (vr 136 :: st) u bb σ Q ↔ qx sc D 156 22 ls (vr 164 :: st) u bb σ Q := r_getR (idx := 230) (c := 15) (k := 41) (by decide +kernel)
theorem k156_22 : qx sc D 156 22 [l0, vi x, l2, l3] st u bb σ Q ↔ qx sc D 156 23 [l0, vi x, l2, l3] (vi x :: st) u bb σ Q := r_iload_n (k := 1) (by decide +kernel) rfl
theorem k156_23 : qx sc D 156 23 ls (vi i :: vr a :: st) u bb σ Q ↔ (q_ty a = 0 ∧ 0 ≤ i ∧ i < q_ln a) ∧ qx sc D 156 24 ls (vi (σ a i) :: st) u bb σ Q := r_iald (by decide +kernel)
theorem k156_24 : qx sc D 156 24 ls (vi x :: st) u bb σ Q ↔ (x = 0 → qx sc D 156 27 ls st u bb σ Q) ∧ (¬ (x = 0) → qx sc D 156 40 ls st u bb σ Q) := r_if_ne (off := 16) (t := 40) (by decide +kernel)
theorem k156_27 : qx sc D 156 27 [l0, l1, vi x, l3] st u bb σ Q ↔ qx sc D 156 28 [l0, l1, vi x, l3] (vi x :: st) u bb σ Q := r_iload_n (k := 2) (by decide +kernel) rfl
theorem k156_28 : qx sc D 156 28 [l0, l1, l2, vi x] st u bb σ Q ↔ qx sc D 156 29 [l0, l1, l2, vi x] (vi x :: st) u bb σ Q := r_iload_n (k := 3) (by decide +kernel) rfl
theorem k156_29 : qx sc D 156 29 ls (vi b' :: vi a' :: st) u bb σ Q ↔ (a' < b' → qx sc D 156 32 ls st u bb σ Q) ∧ (¬ (a' < b') → qx sc D 156 36 ls st u bb σ Q) := r_ic_ge (off := 7) (t := 36) (by decide +kernel)
theorem k156_32 : qx sc D 156 32 ls st u bb σ Q ↔ qx sc D 156 33 ls (vi 1 :: st) u bb σ Q := r_iconst (by decide +kernel)
theorem k156_33 : qx sc D 156 33 ls st u bb σ Q ↔ qx sc D 156 73 ls st u bb σ Q := r_goto (off := 40) (by decide +kernel)
theorem k156_36 : qx sc D 156 36 ls st u bb σ Q ↔ qx sc D 156 37 ls (vi 0 :: st) u bb σ Q := r_iconst (by decide +kernel)
theorem k156_37 : qx sc D 156 37 ls st u bb σ Q ↔ qx sc D 156 73 ls st u bb σ Q := r_goto (off := 36) (by decide +kernel)
theorem k156_40 : qx sc D 156 40 [vr a, l1, l2, l3] st u bb σ Q ↔ qx sc D 156 41 [vr a, l1, l2, l3] (vr a :: st) u bb σ Q := r_aload_n (k := 0) (by decide +kernel) rfl
theorem k156_41 : qx sc D 156 41 ls (vr 136 :: st) u bb σ Q ↔ qx sc D 156 44 ls (vr 164 :: st) u bb σ Q := r_getR (idx := 230) (c := 15) (k := 41) (by decide +kernel)
theorem k156_44 : qx sc D 156 44 [l0, vi x, l2, l3] st u bb σ Q ↔ qx sc D 156 45 [l0, vi x, l2, l3] (vi x :: st) u bb σ Q := r_iload_n (k := 1) (by decide +kernel) rfl
theorem k156_45 : qx sc D 156 45 ls (vi i :: vr a :: st) u bb σ Q ↔ (q_ty a = 0 ∧ 0 ≤ i ∧ i < q_ln a) ∧ qx sc D 156 46 ls (vi (σ a i) :: st) u bb σ Q := r_iald (by decide +kernel)
theorem k156_46 : qx sc D 156 46 ls st u bb σ Q ↔ qx sc D 156 47 ls (vi 1 :: st) u bb σ Q := r_iconst (by decide +kernel)
theorem k156_47 : qx sc D 156 47 ls (vi b' :: vi a' :: st) u bb σ Q ↔ (a' = b' → qx sc D 156 50 ls st u bb σ Q) ∧ (¬ (a' = b') → qx sc D 156 63 ls st u bb σ Q) := r_ic_ne (off := 16) (t := 63) (by decide +kernel)
theorem k156_50 : qx sc D 156 50 [l0, l1, vi x, l3] st u bb σ Q ↔ qx sc D 156 51 [l0, l1, vi x, l3] (vi x :: st) u bb σ Q := r_iload_n (k := 2) (by decide +kernel) rfl
theorem k156_51 : qx sc D 156 51 [l0, l1, l2, vi x] st u bb σ Q ↔ qx sc D 156 52 [l0, l1, l2, vi x] (vi x :: st) u bb σ Q := r_iload_n (k := 3) (by decide +kernel) rfl
theorem k156_52 : qx sc D 156 52 ls (vi b' :: vi a' :: st) u bb σ Q ↔ (b' < a' → qx sc D 156 59 ls st u bb σ Q) ∧ (¬ (b' < a') → qx sc D 156 55 ls st u bb σ Q) := r_ic_gt (off := 7) (t := 59) (by decide +kernel)
theorem k156_55 : qx sc D 156 55 ls st u bb σ Q ↔ qx sc D 156 56 ls (vi 1 :: st) u bb σ Q := r_iconst (by decide +kernel)
theorem k156_56 : qx sc D 156 56 ls st u bb σ Q ↔ qx sc D 156 73 ls st u bb σ Q := r_goto (off := 17) (by decide +kernel)
theorem k156_59 : qx sc D 156 59 ls st u bb σ Q ↔ qx sc D 156 60 ls (vi 0 :: st) u bb σ Q := r_iconst (by decide +kernel)
theorem k156_60 : qx sc D 156 60 ls st u bb σ Q ↔ qx sc D 156 73 ls st u bb σ Q := r_goto (off := 13) (by decide +kernel)
theorem k156_63 : qx sc D 156 63 [l0, l1, vi x, l3] st u bb σ Q ↔ qx sc D 156 64 [l0, l1, vi x, l3] (vi x :: st) u bb σ Q := r_iload_n (k := 2) (by decide +kernel) rfl
theorem k156_64 : qx sc D 156 64 [l0, l1, l2, vi x] st u bb σ Q ↔ qx sc D 156 65 [l0, l1, l2, vi x] (vi x :: st) u bb σ Q := r_iload_n (k := 3) (by decide +kernel) rfl
theorem k156_65 : qx sc D 156 65 ls (vi b' :: vi a' :: st) u bb σ Q ↔ (a' = b' → qx sc D 156 68 ls st u bb σ Q) ∧ (¬ (a' = b') → qx sc D 156 72 ls st u bb σ Q) := r_ic_ne (off := 7) (t := 72) (by decide +kernel)
theorem k156_68 : qx sc D 156 68 ls st u bb σ Q ↔ qx sc D 156 69 ls (vi 1 :: st) u bb σ Q := r_iconst (by decide +kernel)
theorem k156_69 : qx sc D 156 69 ls st u bb σ Q ↔ qx sc D 156 73 ls st u bb σ Q := r_goto (off := 4) (by decide +kernel)
theorem k156_72 : qx sc D 156 72 ls st u bb σ Q ↔ qx sc D 156 73 ls (vi 0 :: st) u bb σ Q := r_iconst (by decide +kernel)
theorem k156_73 : qx sc D 156 73 ls [vi x] (0, 0) bb σ Q ↔ (x = 0 ∨ x = 1) ∧ Q (.inl (some (vi x))) bb σ := r_retB (by decide +kernel)
-- 157: RowProverModel.in(III)Z
theorem k157_0 : qx sc D 157 0 [vi x, l1, l2] st u bb σ Q ↔ qx sc D 157 1 [vi x, l1, l2] (vi x :: st) u bb σ Q := r_iload_n (k := 0) (by decide +kernel) rfl
theorem k157_1 : qx sc D 157 1 [l0, vi x, l2] st u bb σ Q ↔ qx sc D 157 2 [l0, vi x, l2] (vi x :: st) u bb σ Q := r_iload_n (k := 1) (by decide +kernel) rfl
theorem k157_2 : qx sc D 157 2 ls (vi b' :: vi a' :: st) u bb σ Q ↔ (a' < b' → qx sc D 157 14 ls st u bb σ Q) ∧ (¬ (a' < b') → qx sc D 157 5 ls st u bb σ Q) := r_ic_lt (off := 12) (t := 14) (by decide +kernel)
theorem k157_5 : qx sc D 157 5 [vi x, l1, l2] st u bb σ Q ↔ qx sc D 157 6 [vi x, l1, l2] (vi x :: st) u bb σ Q := r_iload_n (k := 0) (by decide +kernel) rfl
theorem k157_6 : qx sc D 157 6 [l0, l1, vi x] st u bb σ Q ↔ qx sc D 157 7 [l0, l1, vi x] (vi x :: st) u bb σ Q := r_iload_n (k := 2) (by decide +kernel) rfl
theorem k157_7 : qx sc D 157 7 ls (vi b' :: vi a' :: st) u bb σ Q ↔ (b' < a' → qx sc D 157 14 ls st u bb σ Q) ∧ (¬ (b' < a') → qx sc D 157 10 ls st u bb σ Q) := r_ic_gt (off := 7) (t := 14) (by decide +kernel)
theorem k157_10 : qx sc D 157 10 ls st u bb σ Q ↔ qx sc D 157 11 ls (vi 1 :: st) u bb σ Q := r_iconst (by decide +kernel)
theorem k157_11 : qx sc D 157 11 ls st u bb σ Q ↔ qx sc D 157 15 ls st u bb σ Q := r_goto (off := 4) (by decide +kernel)
theorem k157_14 : qx sc D 157 14 ls st u bb σ Q ↔ qx sc D 157 15 ls (vi 0 :: st) u bb σ Q := r_iconst (by decide +kernel)
theorem k157_15 : qx sc D 157 15 ls [vi x] (0, 0) bb σ Q ↔ (x = 0 ∨ x = 1) ∧ Q (.inl (some (vi x))) bb σ := r_retB (by decide +kernel)
-- 158: RowProverModel.input(II)I
theorem k158_0 : qx sc D 158 0 [vr a, l1, l2, l3] st u bb σ Q ↔ qx sc D 158 1 [vr a, l1, l2, l3] (vr a :: st) u bb σ Q := r_aload_n (k := 0) (by decide +kernel) rfl
theorem k158_1 : qx sc D 158 1 ls st u bb σ Q ↔ qx sc D 158 2 ls (vi 0 :: st) u bb σ Q := r_iconst (by decide +kernel)
theorem k158_2 : qx sc D 158 2 ls (vi x :: vr 136 :: st) u bb σ Q ↔ qx sc D 158 5 ls st u bb (q_up σ 136 0 x) Q := r_putI (idx := 3) (c := 15) (k := 0) (by decide +kernel)
theorem k158_5 : qx sc D 158 5 [vr a, l1, l2, l3] st u bb σ Q ↔ qx sc D 158 6 [vr a, l1, l2, l3] (vr a :: st) u bb σ Q := r_aload_n (k := 0) (by decide +kernel) rfl
theorem k158_6 : qx sc D 158 6 [l0, vi x, l2, l3] st u bb σ Q ↔ qx sc D 158 7 [l0, vi x, l2, l3] (vi x :: st) u bb σ Q := r_iload_n (k := 1) (by decide +kernel) rfl
theorem k158_7 : qx sc D 158 7 ls st u bb σ Q ↔ qx sc D 158 8 ls (vi 0 :: st) u bb σ Q := r_iconst (by decide +kernel)
theorem k158_8 : qx sc D 158 8 ls st u bb σ Q ↔ qx sc D 158 9 ls (vi 2 :: st) u bb σ Q := r_iconst (by decide +kernel)
theorem k158_9 : qx sc (D + 1) 158 9 ls [vi x2, vi x1, vi x0, vr a20] (0, 0) bb σ Q ↔ qx sc D 157 0 [vi x0, vi x1, vi x2] [] (0, 0) bb σ (q_kn sc (D + 1) 158 12 ls [vr a20] (0, 0) Q) := r_calls (idx := 498) (n := 3) (m := 3) (by decide +kernel) rfl (Nat.le_of_ble_eq_true rfl) ⟨Nat.le_of_ble_eq_true rfl, Nat.le_of_ble_eq_true rfl, rfl⟩ rfl
theorem k158_12 : qx sc D 158 12 ls (vi x :: st) u bb σ Q ↔ (x = 0 → qx sc D 158 26 ls st u bb σ Q) ∧ (¬ (x = 0) → qx sc D 158 15 ls st u bb σ Q) := r_if_eq (off := 14) (t := 26) (by decide +kernel)
theorem k158_15 : qx sc D 158 15 [l0, l1, vi x, l3] st u bb σ Q ↔ qx sc D 158 16 [l0, l1, vi x, l3] (vi x :: st) u bb σ Q := r_iload_n (k := 2) (by decide +kernel) rfl
theorem k158_16 : qx sc D 158 16 ls st u bb σ Q ↔ qx sc D 158 18 ls (vi (-99) :: st) u bb σ Q := r_bipush (by decide +kernel)
theorem k158_18 : qx sc D 158 18 ls st u bb σ Q ↔ qx sc D 158 20 ls (vi 99 :: st) u bb σ Q := r_bipush (by decide +kernel)
theorem k158_20 : qx sc (D + 1) 158 20 ls [vi x2, vi x1, vi x0, vr a20] (0, 0) bb σ Q ↔ qx sc D 157 0 [vi x0, vi x1, vi x2] [] (0, 0) bb σ (q_kn sc (D + 1) 158 23 ls [vr a20] (0, 0) Q) := r_calls (idx := 498) (n := 3) (m := 3) (by decide +kernel) rfl (Nat.le_of_ble_eq_true rfl) ⟨Nat.le_of_ble_eq_true rfl, Nat.le_of_ble_eq_true rfl, rfl⟩ rfl
theorem k158_23 : qx sc D 158 23 ls (vi x :: st) u bb σ Q ↔ (x = 0 → qx sc D 158 26 ls st u bb σ Q) ∧ (¬ (x = 0) → qx sc D 158 30 ls st u bb σ Q) := r_if_ne (off := 7) (t := 30) (by decide +kernel)
theorem k158_26 : qx sc D 158 26 ls st u bb σ Q ↔ qx sc D 158 27 ls (vi 1 :: st) u bb σ Q := r_iconst (by decide +kernel)
theorem k158_27 : qx sc D 158 27 ls st u bb σ Q ↔ qx sc D 158 31 ls st u bb σ Q := r_goto (off := 4) (by decide +kernel)
theorem k158_30 : qx sc D 158 30 ls st u bb σ Q ↔ qx sc D 158 31 ls (vi 0 :: st) u bb σ Q := r_iconst (by decide +kernel)
theorem k158_31 : qx sc D 158 31 ls st u bb σ Q ↔ qx sc D 158 32 ls (vi 1 :: st) u bb σ Q := r_iconst (by decide +kernel)
theorem k158_32 : qx sc (D + 1) 158 32 ls [vi x1, vi x0, vr 136] (0, 0) bb σ Q ↔ qx sc D 224 0 [vr 136, vi x0, vi x1] [] (0, 0) bb σ (q_kn sc (D + 1) 158 35 ls [] (0, 0) Q) := r_callv (idx := 501) (n := 2) (m := 3) (by decide +kernel) rfl (Nat.le_of_ble_eq_true rfl) ⟨Nat.le_of_ble_eq_true rfl, Nat.le_of_ble_eq_true rfl, rfl⟩ rfl
theorem k158_35 : qx sc D 158 35 ls (vi x :: st) u bb σ Q ↔ (x = 0 → qx sc D 158 40 ls st u bb σ Q) ∧ (¬ (x = 0) → qx sc D 158 38 ls st u bb σ Q) := r_if_eq (off := 5) (t := 40) (by decide +kernel)
theorem k158_38 : qx sc D 158 38 ls st u bb σ Q ↔ qx sc D 158 39 ls (vi 0 :: st) u bb σ Q := r_iconst (by decide +kernel)
theorem k158_39 : qx sc D 158 39 ls [vi x] (0, 0) bb σ Q ↔ Q (.inl (some (vi x))) bb σ := r_ret (by decide +kernel)
theorem k158_40 : qx sc D 158 40 [vr a, l1, l2, l3] st u bb σ Q ↔ qx sc D 158 41 [vr a, l1, l2, l3] (vr a :: st) u bb σ Q := r_aload_n (k := 0) (by decide +kernel) rfl
theorem k158_41 : qx sc D 158 41 ls (vr 136 :: st) u bb σ Q ↔ qx sc D 158 44 ls (vr 182 :: st) u bb σ Q := r_getR (idx := 338) (c := 15) (k := 64) (by decide +kernel)
theorem k158_44 : qx sc D 158 44 [l0, vi x, l2, l3] st u bb σ Q ↔ qx sc D 158 45 [l0, vi x, l2, l3] (vi x :: st) u bb σ Q := r_iload_n (k := 1) (by decide +kernel) rfl
theorem k158_45 : qx sc D 158 45 ls (vi i :: vr a :: st) u bb σ Q ↔ (q_ty a = 0 ∧ 0 ≤ i ∧ i < q_ln a) ∧ qx sc D 158 46 ls (vi (σ a i) :: st) u bb σ Q := r_iald (by decide +kernel)
theorem k158_46 : qx sc D 158 46 [l0, l1, l2, l3] (vi x :: st) u bb σ Q ↔ qx sc D 158 47 [l0, l1, l2, vi x] st u bb σ Q := r_istore_n (k := 3) (by decide +kernel) (Nat.le_of_ble_eq_true rfl)
theorem k158_47 : qx sc D 158 47 [vr a, l1, l2, l3] st u bb σ Q ↔ qx sc D 158 48 [vr a, l1, l2, l3] (vr a :: st) u bb σ Q := r_aload_n (k := 0) (by decide +kernel) rfl
theorem k158_48 : qx sc D 158 48 ls (vr 136 :: st) u bb σ Q ↔ qx sc D 158 51 ls (vr 182 :: st) u bb σ Q := r_getR (idx := 338) (c := 15) (k := 64) (by decide +kernel)
theorem k158_51 : qx sc D 158 51 [l0, vi x, l2, l3] st u bb σ Q ↔ qx sc D 158 52 [l0, vi x, l2, l3] (vi x :: st) u bb σ Q := r_iload_n (k := 1) (by decide +kernel) rfl
theorem k158_52 : qx sc D 158 52 [l0, l1, vi x, l3] st u bb σ Q ↔ qx sc D 158 53 [l0, l1, vi x, l3] (vi x :: st) u bb σ Q := r_iload_n (k := 2) (by decide +kernel) rfl
theorem k158_53 : qx sc D 158 53 ls (vi x :: vi i :: vr a :: st) u bb σ Q ↔ (q_ty a = 0 ∧ 0 ≤ i ∧ i < q_ln a) ∧ qx sc D 158 54 ls st u bb (q_up σ a i x) Q := r_iast (by decide +kernel)
theorem k158_54 : qx sc D 158 54 [l0, l1, l2, vi x] st u bb σ Q ↔ qx sc D 158 55 [l0, l1, l2, vi x] (vi x :: st) u bb σ Q := r_iload_n (k := 3) (by decide +kernel) rfl
theorem k158_55 : qx sc D 158 55 ls [vi x] (0, 0) bb σ Q ↔ Q (.inl (some (vi x))) bb σ := r_ret (by decide +kernel)
-- 159: RowProverModel.isAt(II)Z
theorem k159_0 : qx sc D 159 0 [vr a, l1, l2] st u bb σ Q ↔ qx sc D 159 1 [vr a, l1, l2] (vr a :: st) u bb σ Q := r_aload_n (k := 0) (by decide +kernel) rfl
theorem k159_1 : qx sc D 159 1 ls (vr 136 :: st) u bb σ Q ↔ qx sc D 159 4 ls (vi (σ 136 8) :: st) u bb σ Q := r_getI (idx := 63) (c := 15) (k := 8) (by decide +kernel)
theorem k159_4 : qx sc D 159 4 [vr a, l1, l2] st u bb σ Q ↔ qx sc D 159 5 [vr a, l1, l2] (vr a :: st) u bb σ Q := r_aload_n (k := 0) (by decide +kernel) rfl
theorem k159_5 : qx sc D 159 5 ls (vr 136 :: st) u bb σ Q ↔ qx sc D 159 8 ls (vi (σ 136 6) :: st) u bb σ Q := r_getI (idx := 66) (c := 15) (k := 6) (by decide +kernel)
theorem k159_8 : qx sc D 159 8 ls (vi b' :: vi a' :: st) u bb σ Q ↔ (a' < b' → qx sc D 159 11 ls st u bb σ Q) ∧ (¬ (a' < b') → qx sc D 159 41 ls st u bb σ Q) := r_ic_ge (off := 33) (t := 41) (by decide +kernel)
theorem k159_11 : qx sc D 159 11 [vr a, l1, l2] st u bb σ Q ↔ qx sc D 159 12 [vr a, l1, l2] (vr a :: st) u bb σ Q := r_aload_n (k := 0) (by decide +kernel) rfl
theorem k159_12 : qx sc D 159 12 ls (vr 136 :: st) u bb σ Q ↔ qx sc D 159 15 ls (vr 139 :: st) u bb σ Q := r_getR (idx := 69) (c := 15) (k := 4) (by decide +kernel)
theorem k159_15 : qx sc D 159 15 [vr a, l1, l2] st u bb σ Q ↔ qx sc D 159 16 [vr a, l1, l2] (vr a :: st) u bb σ Q := r_aload_n (k := 0) (by decide +kernel) rfl
theorem k159_16 : qx sc D 159 16 ls (vr 136 :: st) u bb σ Q ↔ qx sc D 159 19 ls (vi (σ 136 8) :: st) u bb σ Q := r_getI (idx := 63) (c := 15) (k := 8) (by decide +kernel)
theorem k159_19 : qx sc D 159 19 ls (vi i :: vr a :: st) u bb σ Q ↔ ((q_ty a = 1 ∨ q_ty a = 2) ∧ 0 ≤ i ∧ i < q_ln a) ∧ qx sc D 159 20 ls (vi (σ a i) :: st) u bb σ Q := r_bald (by decide +kernel)
theorem k159_20 : qx sc D 159 20 [l0, vi x, l2] st u bb σ Q ↔ qx sc D 159 21 [l0, vi x, l2] (vi x :: st) u bb σ Q := r_iload_n (k := 1) (by decide +kernel) rfl
theorem k159_21 : qx sc D 159 21 ls (vi b' :: vi a' :: st) u bb σ Q ↔ (a' < b' → qx sc D 159 41 ls st u bb σ Q) ∧ (¬ (a' < b') → qx sc D 159 24 ls st u bb σ Q) := r_ic_lt (off := 20) (t := 41) (by decide +kernel)
theorem k159_24 : qx sc D 159 24 [vr a, l1, l2] st u bb σ Q ↔ qx sc D 159 25 [vr a, l1, l2] (vr a :: st) u bb σ Q := r_aload_n (k := 0) (by decide +kernel) rfl
theorem k159_25 : qx sc D 159 25 ls (vr 136 :: st) u bb σ Q ↔ qx sc D 159 28 ls (vr 139 :: st) u bb σ Q := r_getR (idx := 69) (c := 15) (k := 4) (by decide +kernel)
theorem k159_28 : qx sc D 159 28 [vr a, l1, l2] st u bb σ Q ↔ qx sc D 159 29 [vr a, l1, l2] (vr a :: st) u bb σ Q := r_aload_n (k := 0) (by decide +kernel) rfl
theorem k159_29 : qx sc D 159 29 ls (vr 136 :: st) u bb σ Q ↔ qx sc D 159 32 ls (vi (σ 136 8) :: st) u bb σ Q := r_getI (idx := 63) (c := 15) (k := 8) (by decide +kernel)
theorem k159_32 : qx sc D 159 32 ls (vi i :: vr a :: st) u bb σ Q ↔ ((q_ty a = 1 ∨ q_ty a = 2) ∧ 0 ≤ i ∧ i < q_ln a) ∧ qx sc D 159 33 ls (vi (σ a i) :: st) u bb σ Q := r_bald (by decide +kernel)
theorem k159_33 : qx sc D 159 33 [l0, l1, vi x] st u bb σ Q ↔ qx sc D 159 34 [l0, l1, vi x] (vi x :: st) u bb σ Q := r_iload_n (k := 2) (by decide +kernel) rfl
theorem k159_34 : qx sc D 159 34 ls (vi b' :: vi a' :: st) u bb σ Q ↔ (b' < a' → qx sc D 159 41 ls st u bb σ Q) ∧ (¬ (b' < a') → qx sc D 159 37 ls st u bb σ Q) := r_ic_gt (off := 7) (t := 41) (by decide +kernel)
theorem k159_37 : qx sc D 159 37 ls st u bb σ Q ↔ qx sc D 159 38 ls (vi 1 :: st) u bb σ Q := r_iconst (by decide +kernel)
theorem k159_38 : qx sc D 159 38 ls st u bb σ Q ↔ qx sc D 159 42 ls st u bb σ Q := r_goto (off := 4) (by decide +kernel)
theorem k159_41 : qx sc D 159 41 ls st u bb σ Q ↔ qx sc D 159 42 ls (vi 0 :: st) u bb σ Q := r_iconst (by decide +kernel)
theorem k159_42 : qx sc D 159 42 ls [vi x] (0, 0) bb σ Q ↔ (x = 0 ∨ x = 1) ∧ Q (.inl (some (vi x))) bb σ := r_retB (by decide +kernel)
-- 160: RowProverModel.isCounted(II)Z
theorem k160_0 : qx sc D 160 0 [vr a, l1, l2, l3, l4, l5] st u bb σ Q ↔ qx sc D 160 1 [vr a, l1, l2, l3, l4, l5] (vr a :: st) u bb σ Q := r_aload_n (k := 0) (by decide +kernel) rfl
theorem k160_1 : qx sc D 160 1 ls (vr 136 :: st) u bb σ Q ↔ qx sc D 160 4 ls (vr 174 :: st) u bb σ Q := r_getR (idx := 313) (c := 15) (k := 55) (by decide +kernel)
theorem k160_4 : qx sc D 160 4 [vr a, l1, l2, l3, l4, l5] st u bb σ Q ↔ qx sc D 160 5 [vr a, l1, l2, l3, l4, l5] (vr a :: st) u bb σ Q := r_aload_n (k := 0) (by decide +kernel) rfl
theorem k160_5 : qx sc D 160 5 ls (vr 136 :: st) u bb σ Q ↔ qx sc D 160 8 ls (vr 157 :: st) u bb σ Q := r_getR (idx := 202) (c := 15) (k := 34) (by decide +kernel)
theorem k160_8 : qx sc D 160 8 [l0, l1, vi x, l3, l4, l5] st u bb σ Q ↔ qx sc D 160 9 [l0, l1, vi x, l3, l4, l5] (vi x :: st) u bb σ Q := r_iload_n (k := 2) (by decide +kernel) rfl
theorem k160_9 : qx sc D 160 9 ls (vi i :: vr a :: st) u bb σ Q ↔ (q_ty a = 0 ∧ 0 ≤ i ∧ i < q_ln a) ∧ qx sc D 160 10 ls (vi (σ a i) :: st) u bb σ Q := r_iald (by decide +kernel)
theorem k160_10 : qx sc D 160 10 ls (vi i :: vr a :: st) u bb σ Q ↔ (q_ty a = 0 ∧ 0 ≤ i ∧ i < q_ln a) ∧ qx sc D 160 11 ls (vi (σ a i) :: st) u bb σ Q := r_iald (by decide +kernel)
theorem k160_11 : qx sc D 160 11 [l0, l1, l2, l3, l4, l5] (vi x :: st) u bb σ Q ↔ qx sc D 160 12 [l0, l1, l2, vi x, l4, l5] st u bb σ Q := r_istore_n (k := 3) (by decide +kernel) (Nat.le_of_ble_eq_true rfl)
theorem k160_12 : qx sc D 160 12 [vr a, l1, l2, l3, l4, l5] st u bb σ Q ↔ qx sc D 160 13 [vr a, l1, l2, l3, l4, l5] (vr a :: st) u bb σ Q := r_aload_n (k := 0) (by decide +kernel) rfl
theorem k160_13 : qx sc D 160 13 ls (vr 136 :: st) u bb σ Q ↔ qx sc D 160 16 ls (vr 160 :: st) u bb σ Q := r_getR (idx := 278) (c := 15) (k := 37) (by decide +kernel)
theorem k160_16 : qx sc D 160 16 [l0, vi x, l2, l3, l4, l5] st u bb σ Q ↔ qx sc D 160 17 [l0, vi x, l2, l3, l4, l5] (vi x :: st) u bb σ Q := r_iload_n (k := 1) (by decide +kernel) rfl
theorem k160_17 : qx sc D 160 17 ls (vi i :: vr a :: st) u bb σ Q ↔ (q_ty a = 0 ∧ 0 ≤ i ∧ i < q_ln a) ∧ qx sc D 160 18 ls (vi (σ a i) :: st) u bb σ Q := r_iald (by decide +kernel)
theorem k160_18 : qx sc D 160 18 [l0, l1, l2, l3, l4, l5] (vi x :: st) u bb σ Q ↔ qx sc D 160 20 [l0, l1, l2, l3, vi x, l5] st u bb σ Q := r_istore (k := 4) (by decide +kernel) (Nat.le_of_ble_eq_true rfl)
theorem k160_20 : qx sc D 160 20 [vr a, l1, l2, l3, l4, l5] st u bb σ Q ↔ qx sc D 160 21 [vr a, l1, l2, l3, l4, l5] (vr a :: st) u bb σ Q := r_aload_n (k := 0) (by decide +kernel) rfl
theorem k160_21 : qx sc D 160 21 ls (vr 136 :: st) u bb σ Q ↔ qx sc D 160 24 ls (vr 148 :: st) u bb σ Q := r_getR (idx := 36) (c := 15) (k := 25) (by decide +kernel)
theorem k160_24 : qx sc D 160 24 [l0, l1, l2, vi x, l4, l5] st u bb σ Q ↔ qx sc D 160 25 [l0, l1, l2, vi x, l4, l5] (vi x :: st) u bb σ Q := r_iload_n (k := 3) (by decide +kernel) rfl
theorem k160_25 : qx sc D 160 25 ls (vi i :: vr a :: st) u bb σ Q ↔ (q_ty a = 0 ∧ 0 ≤ i ∧ i < q_ln a) ∧ qx sc D 160 26 ls (vi (σ a i) :: st) u bb σ Q := r_iald (by decide +kernel)
theorem k160_26 : qx sc D 160 26 ls st u bb σ Q ↔ qx sc D 160 28 ls (vi 6 :: st) u bb σ Q := r_bipush (by decide +kernel)
theorem k160_28 : qx sc D 160 28 ls (vi b' :: vi a' :: st) u bb σ Q ↔ (a' = b' → qx sc D 160 31 ls st u bb σ Q) ∧ (¬ (a' = b') → qx sc D 160 42 ls st u bb σ Q) := r_ic_ne (off := 14) (t := 42) (by decide +kernel)
theorem k160_31 : qx sc D 160 31 [vr a, l1, l2, l3, l4, l5] st u bb σ Q ↔ qx sc D 160 32 [vr a, l1, l2, l3, l4, l5] (vr a :: st) u bb σ Q := r_aload_n (k := 0) (by decide +kernel) rfl
theorem k160_32 : qx sc D 160 32 ls (vr 136 :: st) u bb σ Q ↔ qx sc D 160 35 ls (vr 149 :: st) u bb σ Q := r_getR (idx := 39) (c := 15) (k := 26) (by decide +kernel)
theorem k160_35 : qx sc D 160 35 [l0, l1, l2, vi x, l4, l5] st u bb σ Q ↔ qx sc D 160 36 [l0, l1, l2, vi x, l4, l5] (vi x :: st) u bb σ Q := r_iload_n (k := 3) (by decide +kernel) rfl
theorem k160_36 : qx sc D 160 36 ls (vi i :: vr a :: st) u bb σ Q ↔ (q_ty a = 0 ∧ 0 ≤ i ∧ i < q_ln a) ∧ qx sc D 160 37 ls (vi (σ a i) :: st) u bb σ Q := r_iald (by decide +kernel)
theorem k160_37 : qx sc D 160 37 [l0, l1, l2, l3, vi x, l5] st u bb σ Q ↔ qx sc D 160 39 [l0, l1, l2, l3, vi x, l5] (vi x :: st) u bb σ Q := r_iload (k := 4) (by decide +kernel) rfl
theorem k160_39 : qx sc D 160 39 ls (vi b' :: vi a' :: st) u bb σ Q ↔ (a' = b' → qx sc D 160 44 ls st u bb σ Q) ∧ (¬ (a' = b') → qx sc D 160 42 ls st u bb σ Q) := r_ic_eq (off := 5) (t := 44) (by decide +kernel)
theorem k160_42 : qx sc D 160 42 ls st u bb σ Q ↔ qx sc D 160 43 ls (vi 0 :: st) u bb σ Q := r_iconst (by decide +kernel)
theorem k160_43 : qx sc D 160 43 ls [vi x] (0, 0) bb σ Q ↔ (x = 0 ∨ x = 1) ∧ Q (.inl (some (vi x))) bb σ := r_retB (by decide +kernel)
theorem k160_44 : qx sc D 160 44 [vr a, l1, l2, l3, l4, l5] st u bb σ Q ↔ qx sc D 160 45 [vr a, l1, l2, l3, l4, l5] (vr a :: st) u bb σ Q := r_aload_n (k := 0) (by decide +kernel) rfl
theorem k160_45 : qx sc D 160 45 ls (vr 136 :: st) u bb σ Q ↔ qx sc D 160 48 ls (vr 151 :: st) u bb σ Q := r_getR (idx := 45) (c := 15) (k := 28) (by decide +kernel)
theorem k160_48 : qx sc D 160 48 [l0, l1, l2, vi x, l4, l5] st u bb σ Q ↔ qx sc D 160 49 [l0, l1, l2, vi x, l4, l5] (vi x :: st) u bb σ Q := r_iload_n (k := 3) (by decide +kernel) rfl
theorem k160_49 : qx sc D 160 49 ls (vi i :: vr a :: st) u bb σ Q ↔ (q_ty a = 0 ∧ 0 ≤ i ∧ i < q_ln a) ∧ qx sc D 160 50 ls (vi (σ a i) :: st) u bb σ Q := r_iald (by decide +kernel)
theorem k160_50 : qx sc D 160 50 [l0, l1, l2, l3, l4, l5] (vi x :: st) u bb σ Q ↔ qx sc D 160 52 [l0, l1, l2, l3, l4, vi x] st u bb σ Q := r_istore (k := 5) (by decide +kernel) (Nat.le_of_ble_eq_true rfl)
theorem k160_52 : qx sc D 160 52 [vr a, l1, l2, l3, l4, l5] st u bb σ Q ↔ qx sc D 160 53 [vr a, l1, l2, l3, l4, l5] (vr a :: st) u bb σ Q := r_aload_n (k := 0) (by decide +kernel) rfl
theorem k160_53 : qx sc D 160 53 ls (vr 136 :: st) u bb σ Q ↔ qx sc D 160 56 ls (vr 174 :: st) u bb σ Q := r_getR (idx := 313) (c := 15) (k := 55) (by decide +kernel)
theorem k160_56 : qx sc D 160 56 [l0, l1, l2, l3, l4, vi x] st u bb σ Q ↔ qx sc D 160 58 [l0, l1, l2, l3, l4, vi x] (vi x :: st) u bb σ Q := r_iload (k := 5) (by decide +kernel) rfl
theorem k160_58 : qx sc D 160 58 ls (vi i :: vr a :: st) u bb σ Q ↔ (q_ty a = 0 ∧ 0 ≤ i ∧ i < q_ln a) ∧ qx sc D 160 59 ls (vi (σ a i) :: st) u bb σ Q := r_iald (by decide +kernel)
theorem k160_59 : qx sc D 160 59 [l0, l1, l2, vi x, l4, l5] st u bb σ Q ↔ qx sc D 160 60 [l0, l1, l2, vi x, l4, l5] (vi x :: st) u bb σ Q := r_iload_n (k := 3) (by decide +kernel) rfl
theorem k160_60 : qx sc D 160 60 ls (vi b' :: vi a' :: st) u bb σ Q ↔ (a' = b' → qx sc D 160 63 ls st u bb σ Q) ∧ (¬ (a' = b') → qx sc D 160 73 ls st u bb σ Q) := r_ic_ne (off := 13) (t := 73) (by decide +kernel)
theorem k160_63 : qx sc D 160 63 [vr a, l1, l2, l3, l4, l5] st u bb σ Q ↔ qx sc D 160 64 [vr a, l1, l2, l3, l4, l5] (vr a :: st) u bb σ Q := r_aload_n (k := 0) (by decide +kernel) rfl
theorem k160_64 : qx sc D 160 64 ls (vr 136 :: st) u bb σ Q ↔ qx sc D 160 67 ls (vr 175 :: st) u bb σ Q := r_getR (idx := 316) (c := 15) (k := 56) (by decide +kernel)
theorem k160_67 : qx sc D 160 67 [l0, l1, l2, l3, l4, vi x] st u bb σ Q ↔ qx sc D 160 69 [l0, l1, l2, l3, l4, vi x] (vi x :: st) u bb σ Q := r_iload (k := 5) (by decide +kernel) rfl
theorem k160_69 : qx sc D 160 69 ls (vi i :: vr a :: st) u bb σ Q ↔ (q_ty a = 0 ∧ 0 ≤ i ∧ i < q_ln a) ∧ qx sc D 160 70 ls (vi (σ a i) :: st) u bb σ Q := r_iald (by decide +kernel)
theorem k160_70 : qx sc D 160 70 ls (vi x :: st) u bb σ Q ↔ (x < 0 → qx sc D 160 73 ls st u bb σ Q) ∧ (¬ (x < 0) → qx sc D 160 75 ls st u bb σ Q) := r_if_ge (off := 5) (t := 75) (by decide +kernel)
theorem k160_73 : qx sc D 160 73 ls st u bb σ Q ↔ qx sc D 160 74 ls (vi 0 :: st) u bb σ Q := r_iconst (by decide +kernel)
theorem k160_74 : qx sc D 160 74 ls [vi x] (0, 0) bb σ Q ↔ (x = 0 ∨ x = 1) ∧ Q (.inl (some (vi x))) bb σ := r_retB (by decide +kernel)
theorem k160_75 : qx sc D 160 75 [vr a, l1, l2, l3, l4, l5] st u bb σ Q ↔ qx sc D 160 76 [vr a, l1, l2, l3, l4, l5] (vr a :: st) u bb σ Q := r_aload_n (k := 0) (by decide +kernel) rfl
theorem k160_76 : qx sc D 160 76 ls (vr 136 :: st) u bb σ Q ↔ qx sc D 160 79 ls (vr 164 :: st) u bb σ Q := r_getR (idx := 230) (c := 15) (k := 41) (by decide +kernel)
theorem k160_79 : qx sc D 160 79 [l0, l1, l2, l3, vi x, l5] st u bb σ Q ↔ qx sc D 160 81 [l0, l1, l2, l3, vi x, l5] (vi x :: st) u bb σ Q := r_iload (k := 4) (by decide +kernel) rfl
theorem k160_81 : qx sc D 160 81 ls (vi i :: vr a :: st) u bb σ Q ↔ (q_ty a = 0 ∧ 0 ≤ i ∧ i < q_ln a) ∧ qx sc D 160 82 ls (vi (σ a i) :: st) u bb σ Q := r_iald (by decide +kernel)
theorem k160_82 : qx sc D 160 82 ls st u bb σ Q ↔ qx sc D 160 83 ls (vi 2 :: st) u bb σ Q := r_iconst (by decide +kernel)
theorem k160_83 : qx sc D 160 83 ls (vi b' :: vi a' :: st) u bb σ Q ↔ (a' = b' → qx sc D 160 112 ls st u bb σ Q) ∧ (¬ (a' = b') → qx sc D 160 86 ls st u bb σ Q) := r_ic_eq (off := 29) (t := 112) (by decide +kernel)
theorem k160_86 : qx sc D 160 86 [vr a, l1, l2, l3, l4, l5] st u bb σ Q ↔ qx sc D 160 87 [vr a, l1, l2, l3, l4, l5] (vr a :: st) u bb σ Q := r_aload_n (k := 0) (by decide +kernel) rfl
theorem k160_87 : qx sc D 160 87 ls (vr 136 :: st) u bb σ Q ↔ qx sc D 160 90 ls (vr 165 :: st) u bb σ Q := r_getR (idx := 220) (c := 15) (k := 42) (by decide +kernel)
theorem k160_90 : qx sc D 160 90 ls st u bb σ Q ↔ qx sc D 160 91 ls (vi 2 :: st) u bb σ Q := r_iconst (by decide +kernel)
theorem k160_91 : qx sc D 160 91 [l0, l1, l2, l3, vi x, l5] st u bb σ Q ↔ qx sc D 160 93 [l0, l1, l2, l3, vi x, l5] (vi x :: st) u bb σ Q := r_iload (k := 4) (by decide +kernel) rfl
theorem k160_93 : qx sc D 160 93 ls (vi b' :: vi a' :: st) u bb σ Q ↔ q_R (a' * b') ∧ qx sc D 160 94 ls (vi (a' * b') :: st) u bb σ Q := r_imul (by decide +kernel)
theorem k160_94 : qx sc D 160 94 ls (vi i :: vr a :: st) u bb σ Q ↔ (q_ty a = 0 ∧ 0 ≤ i ∧ i < q_ln a) ∧ qx sc D 160 95 ls (vi (σ a i) :: st) u bb σ Q := r_iald (by decide +kernel)
theorem k160_95 : qx sc D 160 95 ls st u bb σ Q ↔ qx sc D 160 96 ls (vi 1 :: st) u bb σ Q := r_iconst (by decide +kernel)
theorem k160_96 : qx sc D 160 96 ls (vi b' :: vi a' :: st) u bb σ Q ↔ (a' = b' → qx sc D 160 99 ls st u bb σ Q) ∧ (¬ (a' = b') → qx sc D 160 112 ls st u bb σ Q) := r_ic_ne (off := 16) (t := 112) (by decide +kernel)
theorem k160_99 : qx sc D 160 99 [vr a, l1, l2, l3, l4, l5] st u bb σ Q ↔ qx sc D 160 100 [vr a, l1, l2, l3, l4, l5] (vr a :: st) u bb σ Q := r_aload_n (k := 0) (by decide +kernel) rfl
theorem k160_100 : qx sc D 160 100 ls (vr 136 :: st) u bb σ Q ↔ qx sc D 160 103 ls (vr 167 :: st) u bb σ Q := r_getR (idx := 233) (c := 15) (k := 44) (by decide +kernel)
theorem k160_103 : qx sc D 160 103 ls st u bb σ Q ↔ qx sc D 160 104 ls (vi 2 :: st) u bb σ Q := r_iconst (by decide +kernel)
theorem k160_104 : qx sc D 160 104 [l0, l1, l2, l3, vi x, l5] st u bb σ Q ↔ qx sc D 160 106 [l0, l1, l2, l3, vi x, l5] (vi x :: st) u bb σ Q := r_iload (k := 4) (by decide +kernel) rfl
theorem k160_106 : qx sc D 160 106 ls (vi b' :: vi a' :: st) u bb σ Q ↔ q_R (a' * b') ∧ qx sc D 160 107 ls (vi (a' * b') :: st) u bb σ Q := r_imul (by decide +kernel)
theorem k160_107 : qx sc D 160 107 ls (vi i :: vr a :: st) u bb σ Q ↔ (q_ty a = 0 ∧ 0 ≤ i ∧ i < q_ln a) ∧ qx sc D 160 108 ls (vi (σ a i) :: st) u bb σ Q := r_iald (by decide +kernel)
theorem k160_108 : qx sc D 160 108 [l0, l1, l2, vi x, l4, l5] st u bb σ Q ↔ qx sc D 160 109 [l0, l1, l2, vi x, l4, l5] (vi x :: st) u bb σ Q := r_iload_n (k := 3) (by decide +kernel) rfl
theorem k160_109 : qx sc D 160 109 ls (vi b' :: vi a' :: st) u bb σ Q ↔ (a' = b' → qx sc D 160 114 ls st u bb σ Q) ∧ (¬ (a' = b') → qx sc D 160 112 ls st u bb σ Q) := r_ic_eq (off := 5) (t := 114) (by decide +kernel)
theorem k160_112 : qx sc D 160 112 ls st u bb σ Q ↔ qx sc D 160 113 ls (vi 0 :: st) u bb σ Q := r_iconst (by decide +kernel)
theorem k160_113 : qx sc D 160 113 ls [vi x] (0, 0) bb σ Q ↔ (x = 0 ∨ x = 1) ∧ Q (.inl (some (vi x))) bb σ := r_retB (by decide +kernel)
theorem k160_114 : qx sc D 160 114 [vr a, l1, l2, l3, l4, l5] st u bb σ Q ↔ qx sc D 160 115 [vr a, l1, l2, l3, l4, l5] (vr a :: st) u bb σ Q := r_aload_n (k := 0) (by decide +kernel) rfl
theorem k160_115 : qx sc D 160 115 ls (vr 136 :: st) u bb σ Q ↔ qx sc D 160 118 ls (vr 165 :: st) u bb σ Q := r_getR (idx := 220) (c := 15) (k := 42) (by decide +kernel)
theorem k160_118 : qx sc D 160 118 ls st u bb σ Q ↔ qx sc D 160 119 ls (vi 2 :: st) u bb σ Q := r_iconst (by decide +kernel)
theorem k160_119 : qx sc D 160 119 [l0, l1, l2, l3, vi x, l5] st u bb σ Q ↔ qx sc D 160 121 [l0, l1, l2, l3, vi x, l5] (vi x :: st) u bb σ Q := r_iload (k := 4) (by decide +kernel) rfl
theorem k160_121 : qx sc D 160 121 ls (vi b' :: vi a' :: st) u bb σ Q ↔ q_R (a' * b') ∧ qx sc D 160 122 ls (vi (a' * b') :: st) u bb σ Q := r_imul (by decide +kernel)
theorem k160_122 : qx sc D 160 122 ls st u bb σ Q ↔ qx sc D 160 123 ls (vi 1 :: st) u bb σ Q := r_iconst (by decide +kernel)
theorem k160_123 : qx sc D 160 123 ls (vi b' :: vi a' :: st) u bb σ Q ↔ q_R (a' + b') ∧ qx sc D 160 124 ls (vi (a' + b') :: st) u bb σ Q := r_iadd (by decide +kernel)
theorem k160_124 : qx sc D 160 124 ls (vi i :: vr a :: st) u bb σ Q ↔ (q_ty a = 0 ∧ 0 ≤ i ∧ i < q_ln a) ∧ qx sc D 160 125 ls (vi (σ a i) :: st) u bb σ Q := r_iald (by decide +kernel)
theorem k160_125 : qx sc D 160 125 ls st u bb σ Q ↔ qx sc D 160 126 ls (vi 1 :: st) u bb σ Q := r_iconst (by decide +kernel)
theorem k160_126 : qx sc D 160 126 ls (vi b' :: vi a' :: st) u bb σ Q ↔ (a' = b' → qx sc D 160 129 ls st u bb σ Q) ∧ (¬ (a' = b') → qx sc D 160 149 ls st u bb σ Q) := r_ic_ne (off := 23) (t := 149) (by decide +kernel)
theorem k160_129 : qx sc D 160 129 [vr a, l1, l2, l3, l4, l5] st u bb σ Q ↔ qx sc D 160 130 [vr a, l1, l2, l3, l4, l5] (vr a :: st) u bb σ Q := r_aload_n (k := 0) (by decide +kernel) rfl
theorem k160_130 : qx sc D 160 130 ls (vr 136 :: st) u bb σ Q ↔ qx sc D 160 133 ls (vr 167 :: st) u bb σ Q := r_getR (idx := 233) (c := 15) (k := 44) (by decide +kernel)
theorem k160_133 : qx sc D 160 133 ls st u bb σ Q ↔ qx sc D 160 134 ls (vi 2 :: st) u bb σ Q := r_iconst (by decide +kernel)
theorem k160_134 : qx sc D 160 134 [l0, l1, l2, l3, vi x, l5] st u bb σ Q ↔ qx sc D 160 136 [l0, l1, l2, l3, vi x, l5] (vi x :: st) u bb σ Q := r_iload (k := 4) (by decide +kernel) rfl
theorem k160_136 : qx sc D 160 136 ls (vi b' :: vi a' :: st) u bb σ Q ↔ q_R (a' * b') ∧ qx sc D 160 137 ls (vi (a' * b') :: st) u bb σ Q := r_imul (by decide +kernel)
theorem k160_137 : qx sc D 160 137 ls st u bb σ Q ↔ qx sc D 160 138 ls (vi 1 :: st) u bb σ Q := r_iconst (by decide +kernel)
theorem k160_138 : qx sc D 160 138 ls (vi b' :: vi a' :: st) u bb σ Q ↔ q_R (a' + b') ∧ qx sc D 160 139 ls (vi (a' + b') :: st) u bb σ Q := r_iadd (by decide +kernel)
theorem k160_139 : qx sc D 160 139 ls (vi i :: vr a :: st) u bb σ Q ↔ (q_ty a = 0 ∧ 0 ≤ i ∧ i < q_ln a) ∧ qx sc D 160 140 ls (vi (σ a i) :: st) u bb σ Q := r_iald (by decide +kernel)
theorem k160_140 : qx sc D 160 140 [vr a, l1, l2, l3, l4, l5] st u bb σ Q ↔ qx sc D 160 141 [vr a, l1, l2, l3, l4, l5] (vr a :: st) u bb σ Q := r_aload_n (k := 0) (by decide +kernel) rfl
theorem k160_141 : qx sc D 160 141 ls (vr 136 :: st) u bb σ Q ↔ qx sc D 160 144 ls (vr 162 :: st) u bb σ Q := r_getR (idx := 287) (c := 15) (k := 39) (by decide +kernel)
theorem k160_144 : qx sc D 160 144 [l0, vi x, l2, l3, l4, l5] st u bb σ Q ↔ qx sc D 160 145 [l0, vi x, l2, l3, l4, l5] (vi x :: st) u bb σ Q := r_iload_n (k := 1) (by decide +kernel) rfl
theorem k160_145 : qx sc D 160 145 ls (vi i :: vr a :: st) u bb σ Q ↔ (q_ty a = 0 ∧ 0 ≤ i ∧ i < q_ln a) ∧ qx sc D 160 146 ls (vi (σ a i) :: st) u bb σ Q := r_iald (by decide +kernel)
theorem k160_146 : qx sc D 160 146 ls (vi b' :: vi a' :: st) u bb σ Q ↔ (a' < b' → qx sc D 160 149 ls st u bb σ Q) ∧ (¬ (a' < b') → qx sc D 160 153 ls st u bb σ Q) := r_ic_ge (off := 7) (t := 153) (by decide +kernel)
theorem k160_149 : qx sc D 160 149 ls st u bb σ Q ↔ qx sc D 160 150 ls (vi 1 :: st) u bb σ Q := r_iconst (by decide +kernel)
theorem k160_150 : qx sc D 160 150 ls st u bb σ Q ↔ qx sc D 160 154 ls st u bb σ Q := r_goto (off := 4) (by decide +kernel)
theorem k160_153 : qx sc D 160 153 ls st u bb σ Q ↔ qx sc D 160 154 ls (vi 0 :: st) u bb σ Q := r_iconst (by decide +kernel)
theorem k160_154 : qx sc D 160 154 ls [vi x] (0, 0) bb σ Q ↔ (x = 0 ∨ x = 1) ∧ Q (.inl (some (vi x))) bb σ := r_retB (by decide +kernel)
-- 161: RowProverModel.isFixed(II)Z
theorem k161_0 : qx sc D 161 0 [vr a, l1, l2] st u bb σ Q ↔ qx sc D 161 1 [vr a, l1, l2] (vr a :: st) u bb σ Q := r_aload_n (k := 0) (by decide +kernel) rfl
theorem k161_1 : qx sc D 161 1 ls (vr 136 :: st) u bb σ Q ↔ qx sc D 161 4 ls (vr 174 :: st) u bb σ Q := r_getR (idx := 313) (c := 15) (k := 55) (by decide +kernel)
theorem k161_4 : qx sc D 161 4 [vr a, l1, l2] st u bb σ Q ↔ qx sc D 161 5 [vr a, l1, l2] (vr a :: st) u bb σ Q := r_aload_n (k := 0) (by decide +kernel) rfl
theorem k161_5 : qx sc D 161 5 ls (vr 136 :: st) u bb σ Q ↔ qx sc D 161 8 ls (vr 157 :: st) u bb σ Q := r_getR (idx := 202) (c := 15) (k := 34) (by decide +kernel)
theorem k161_8 : qx sc D 161 8 [l0, l1, vi x] st u bb σ Q ↔ qx sc D 161 9 [l0, l1, vi x] (vi x :: st) u bb σ Q := r_iload_n (k := 2) (by decide +kernel) rfl
theorem k161_9 : qx sc D 161 9 ls (vi i :: vr a :: st) u bb σ Q ↔ (q_ty a = 0 ∧ 0 ≤ i ∧ i < q_ln a) ∧ qx sc D 161 10 ls (vi (σ a i) :: st) u bb σ Q := r_iald (by decide +kernel)
theorem k161_10 : qx sc D 161 10 ls (vi i :: vr a :: st) u bb σ Q ↔ (q_ty a = 0 ∧ 0 ≤ i ∧ i < q_ln a) ∧ qx sc D 161 11 ls (vi (σ a i) :: st) u bb σ Q := r_iald (by decide +kernel)
theorem k161_11 : qx sc D 161 11 [vr a, l1, l2] st u bb σ Q ↔ qx sc D 161 12 [vr a, l1, l2] (vr a :: st) u bb σ Q := r_aload_n (k := 0) (by decide +kernel) rfl
theorem k161_12 : qx sc D 161 12 ls (vr 136 :: st) u bb σ Q ↔ qx sc D 161 15 ls (vr 162 :: st) u bb σ Q := r_getR (idx := 287) (c := 15) (k := 39) (by decide +kernel)
theorem k161_15 : qx sc D 161 15 [l0, vi x, l2] st u bb σ Q ↔ qx sc D 161 16 [l0, vi x, l2] (vi x :: st) u bb σ Q := r_iload_n (k := 1) (by decide +kernel) rfl
theorem k161_16 : qx sc D 161 16 ls (vi i :: vr a :: st) u bb σ Q ↔ (q_ty a = 0 ∧ 0 ≤ i ∧ i < q_ln a) ∧ qx sc D 161 17 ls (vi (σ a i) :: st) u bb σ Q := r_iald (by decide +kernel)
theorem k161_17 : qx sc D 161 17 ls (vi b' :: vi a' :: st) u bb σ Q ↔ (a' < b' → qx sc D 161 20 ls st u bb σ Q) ∧ (¬ (a' < b') → qx sc D 161 24 ls st u bb σ Q) := r_ic_ge (off := 7) (t := 24) (by decide +kernel)
theorem k161_20 : qx sc D 161 20 ls st u bb σ Q ↔ qx sc D 161 21 ls (vi 1 :: st) u bb σ Q := r_iconst (by decide +kernel)
theorem k161_21 : qx sc D 161 21 ls st u bb σ Q ↔ qx sc D 161 25 ls st u bb σ Q := r_goto (off := 4) (by decide +kernel)
theorem k161_24 : qx sc D 161 24 ls st u bb σ Q ↔ qx sc D 161 25 ls (vi 0 :: st) u bb σ Q := r_iconst (by decide +kernel)
theorem k161_25 : qx sc D 161 25 ls [vi x] (0, 0) bb σ Q ↔ (x = 0 ∨ x = 1) ∧ Q (.inl (some (vi x))) bb σ := r_retB (by decide +kernel)
-- 162: RowProverModel.isInChain(I)Z
theorem k162_0 : qx sc D 162 0 ls st u bb σ Q ↔ qx sc D 162 1 ls (vi 0 :: st) u bb σ Q := r_iconst (by decide +kernel)
theorem k162_1 : qx sc D 162 1 [l0, l1, l2] (vi x :: st) u bb σ Q ↔ qx sc D 162 2 [l0, l1, vi x] st u bb σ Q := r_istore_n (k := 2) (by decide +kernel) (Nat.le_of_ble_eq_true rfl)
theorem k162_2 : qx sc D 162 2 [l0, l1, vi x] st u bb σ Q ↔ qx sc D 162 3 [l0, l1, vi x] (vi x :: st) u bb σ Q := r_iload_n (k := 2) (by decide +kernel) rfl
theorem k162_3 : qx sc D 162 3 [vr a, l1, l2] st u bb σ Q ↔ qx sc D 162 4 [vr a, l1, l2] (vr a :: st) u bb σ Q := r_aload_n (k := 0) (by decide +kernel) rfl
theorem k162_4 : qx sc D 162 4 ls (vr 136 :: st) u bb σ Q ↔ qx sc D 162 7 ls (vi (σ 136 62) :: st) u bb σ Q := r_getI (idx := 428) (c := 15) (k := 62) (by decide +kernel)
theorem k162_7 : qx sc D 162 7 ls (vi b' :: vi a' :: st) u bb σ Q ↔ (a' < b' → qx sc D 162 10 ls st u bb σ Q) ∧ (¬ (a' < b') → qx sc D 162 28 ls st u bb σ Q) := r_ic_ge (off := 21) (t := 28) (by decide +kernel)
theorem k162_10 : qx sc D 162 10 [vr a, l1, l2] st u bb σ Q ↔ qx sc D 162 11 [vr a, l1, l2] (vr a :: st) u bb σ Q := r_aload_n (k := 0) (by decide +kernel) rfl
theorem k162_11 : qx sc D 162 11 ls (vr 136 :: st) u bb σ Q ↔ qx sc D 162 14 ls (vr 180 :: st) u bb σ Q := r_getR (idx := 332) (c := 15) (k := 61) (by decide +kernel)
theorem k162_14 : qx sc D 162 14 [l0, l1, vi x] st u bb σ Q ↔ qx sc D 162 15 [l0, l1, vi x] (vi x :: st) u bb σ Q := r_iload_n (k := 2) (by decide +kernel) rfl
theorem k162_15 : qx sc D 162 15 ls (vi i :: vr a :: st) u bb σ Q ↔ (q_ty a = 0 ∧ 0 ≤ i ∧ i < q_ln a) ∧ qx sc D 162 16 ls (vi (σ a i) :: st) u bb σ Q := r_iald (by decide +kernel)
theorem k162_16 : qx sc D 162 16 [l0, vi x, l2] st u bb σ Q ↔ qx sc D 162 17 [l0, vi x, l2] (vi x :: st) u bb σ Q := r_iload_n (k := 1) (by decide +kernel) rfl
theorem k162_17 : qx sc D 162 17 ls (vi b' :: vi a' :: st) u bb σ Q ↔ (a' = b' → qx sc D 162 20 ls st u bb σ Q) ∧ (¬ (a' = b') → qx sc D 162 22 ls st u bb σ Q) := r_ic_ne (off := 5) (t := 22) (by decide +kernel)
theorem k162_20 : qx sc D 162 20 ls st u bb σ Q ↔ qx sc D 162 21 ls (vi 1 :: st) u bb σ Q := r_iconst (by decide +kernel)
theorem k162_21 : qx sc D 162 21 ls [vi x] (0, 0) bb σ Q ↔ (x = 0 ∨ x = 1) ∧ Q (.inl (some (vi x))) bb σ := r_retB (by decide +kernel)
theorem k162_22 : qx sc D 162 22 [l0, l1, vi x] st u bb σ Q ↔ q_R (x + 1) ∧ qx sc D 162 25 [l0, l1, vi (x + 1)] st u bb σ Q := r_iinc (k := 2) (n := 1) (by decide +kernel) rfl
theorem k162_25 : qx sc D 162 25 ls st u bb σ Q ↔ qx sc D 162 2 ls st u bb σ Q := r_goto (off := (-23)) (by decide +kernel)
theorem k162_28 : qx sc D 162 28 ls st u bb σ Q ↔ qx sc D 162 29 ls (vi 0 :: st) u bb σ Q := r_iconst (by decide +kernel)
theorem k162_29 : qx sc D 162 29 ls [vi x] (0, 0) bb σ Q ↔ (x = 0 ∨ x = 1) ∧ Q (.inl (some (vi x))) bb σ := r_retB (by decide +kernel)
-- 163: RowProverModel.isNumber()Z
theorem k163_0 : qx sc D 163 0 [vr a] st u bb σ Q ↔ qx sc D 163 1 [vr a] (vr a :: st) u bb σ Q := r_aload_n (k := 0) (by decide +kernel) rfl
theorem k163_1 : qx sc (D + 1) 163 1 ls [vr 136] (0, 0) bb σ Q ↔ qx sc D 130 0 [vr 136] [] (0, 0) bb σ (q_kn sc (D + 1) 163 4 ls [] (0, 0) Q) := r_callv (idx := 79) (n := 0) (m := 1) (by decide +kernel) rfl (Nat.le_of_ble_eq_true rfl) ⟨Nat.le_of_ble_eq_true rfl, Nat.le_of_ble_eq_true rfl, rfl⟩ rfl
theorem k163_4 : qx sc D 163 4 [vr a] st u bb σ Q ↔ qx sc D 163 5 [vr a] (vr a :: st) u bb σ Q := r_aload_n (k := 0) (by decide +kernel) rfl
theorem k163_5 : qx sc (D + 1) 163 5 ls [vr 136] (0, 0) bb σ Q ↔ qx sc D 154 0 [vr 136] [] (0, 0) bb σ (q_kn sc (D + 1) 163 8 ls [] (0, 0) Q) := r_callv (idx := 83) (n := 0) (m := 1) (by decide +kernel) rfl (Nat.le_of_ble_eq_true rfl) ⟨Nat.le_of_ble_eq_true rfl, Nat.le_of_ble_eq_true rfl, rfl⟩ rfl
theorem k163_8 : qx sc D 163 8 ls (vi x :: st) u bb σ Q ↔ (x = 0 → qx sc D 163 11 ls st u bb σ Q) ∧ (¬ (x = 0) → qx sc D 163 26 ls st u bb σ Q) := r_if_ne (off := 18) (t := 26) (by decide +kernel)
theorem k163_11 : qx sc D 163 11 [vr a] st u bb σ Q ↔ qx sc D 163 12 [vr a] (vr a :: st) u bb σ Q := r_aload_n (k := 0) (by decide +kernel) rfl
theorem k163_12 : qx sc D 163 12 ls st u bb σ Q ↔ qx sc D 163 14 ls (vi 48 :: st) u bb σ Q := r_bipush (by decide +kernel)
theorem k163_14 : qx sc D 163 14 ls st u bb σ Q ↔ qx sc D 163 16 ls (vi 57 :: st) u bb σ Q := r_bipush (by decide +kernel)
theorem k163_16 : qx sc (D + 1) 163 16 ls [vi x1, vi x0, vr 136] (0, 0) bb σ Q ↔ qx sc D 159 0 [vr 136, vi x0, vi x1] [] (0, 0) bb σ (q_kn sc (D + 1) 163 19 ls [] (0, 0) Q) := r_callv (idx := 72) (n := 2) (m := 3) (by decide +kernel) rfl (Nat.le_of_ble_eq_true rfl) ⟨Nat.le_of_ble_eq_true rfl, Nat.le_of_ble_eq_true rfl, rfl⟩ rfl
theorem k163_19 : qx sc D 163 19 ls (vi x :: st) u bb σ Q ↔ (x = 0 → qx sc D 163 26 ls st u bb σ Q) ∧ (¬ (x = 0) → qx sc D 163 22 ls st u bb σ Q) := r_if_eq (off := 7) (t := 26) (by decide +kernel)
theorem k163_22 : qx sc D 163 22 ls st u bb σ Q ↔ qx sc D 163 23 ls (vi 1 :: st) u bb σ Q := r_iconst (by decide +kernel)
theorem k163_23 : qx sc D 163 23 ls st u bb σ Q ↔ qx sc D 163 27 ls st u bb σ Q := r_goto (off := 4) (by decide +kernel)
theorem k163_26 : qx sc D 163 26 ls st u bb σ Q ↔ qx sc D 163 27 ls (vi 0 :: st) u bb σ Q := r_iconst (by decide +kernel)
theorem k163_27 : qx sc D 163 27 ls [vi x] (0, 0) bb σ Q ↔ (x = 0 ∨ x = 1) ∧ Q (.inl (some (vi x))) bb σ := r_retB (by decide +kernel)
-- 164: RowProverModel.isRow()Z
theorem k164_0 : qx sc D 164 0 [vr a] st u bb σ Q ↔ qx sc D 164 1 [vr a] (vr a :: st) u bb σ Q := r_aload_n (k := 0) (by decide +kernel) rfl
theorem k164_1 : qx sc (D + 1) 164 1 ls [vr 136] (0, 0) bb σ Q ↔ qx sc D 130 0 [vr 136] [] (0, 0) bb σ (q_kn sc (D + 1) 164 4 ls [] (0, 0) Q) := r_callv (idx := 79) (n := 0) (m := 1) (by decide +kernel) rfl (Nat.le_of_ble_eq_true rfl) ⟨Nat.le_of_ble_eq_true rfl, Nat.le_of_ble_eq_true rfl, rfl⟩ rfl
theorem k164_4 : qx sc D 164 4 [vr a] st u bb σ Q ↔ qx sc D 164 5 [vr a] (vr a :: st) u bb σ Q := r_aload_n (k := 0) (by decide +kernel) rfl
theorem k164_5 : qx sc (D + 1) 164 5 ls [vr 136] (0, 0) bb σ Q ↔ qx sc D 154 0 [vr 136] [] (0, 0) bb σ (q_kn sc (D + 1) 164 8 ls [] (0, 0) Q) := r_callv (idx := 83) (n := 0) (m := 1) (by decide +kernel) rfl (Nat.le_of_ble_eq_true rfl) ⟨Nat.le_of_ble_eq_true rfl, Nat.le_of_ble_eq_true rfl, rfl⟩ rfl
theorem k164_8 : qx sc D 164 8 ls (vi x :: st) u bb σ Q ↔ (x = 0 → qx sc D 164 11 ls st u bb σ Q) ∧ (¬ (x = 0) → qx sc D 164 26 ls st u bb σ Q) := r_if_ne (off := 18) (t := 26) (by decide +kernel)
theorem k164_11 : qx sc D 164 11 [vr a] st u bb σ Q ↔ qx sc D 164 12 [vr a] (vr a :: st) u bb σ Q := r_aload_n (k := 0) (by decide +kernel) rfl
theorem k164_12 : qx sc D 164 12 ls st u bb σ Q ↔ qx sc D 164 14 ls (vi 65 :: st) u bb σ Q := r_bipush (by decide +kernel)
theorem k164_14 : qx sc D 164 14 ls st u bb σ Q ↔ qx sc D 164 16 ls (vi 67 :: st) u bb σ Q := r_bipush (by decide +kernel)
theorem k164_16 : qx sc (D + 1) 164 16 ls [vi x1, vi x0, vr 136] (0, 0) bb σ Q ↔ qx sc D 159 0 [vr 136, vi x0, vi x1] [] (0, 0) bb σ (q_kn sc (D + 1) 164 19 ls [] (0, 0) Q) := r_callv (idx := 72) (n := 2) (m := 3) (by decide +kernel) rfl (Nat.le_of_ble_eq_true rfl) ⟨Nat.le_of_ble_eq_true rfl, Nat.le_of_ble_eq_true rfl, rfl⟩ rfl
theorem k164_19 : qx sc D 164 19 ls (vi x :: st) u bb σ Q ↔ (x = 0 → qx sc D 164 26 ls st u bb σ Q) ∧ (¬ (x = 0) → qx sc D 164 22 ls st u bb σ Q) := r_if_eq (off := 7) (t := 26) (by decide +kernel)
theorem k164_22 : qx sc D 164 22 ls st u bb σ Q ↔ qx sc D 164 23 ls (vi 1 :: st) u bb σ Q := r_iconst (by decide +kernel)
theorem k164_23 : qx sc D 164 23 ls st u bb σ Q ↔ qx sc D 164 27 ls st u bb σ Q := r_goto (off := 4) (by decide +kernel)
theorem k164_26 : qx sc D 164 26 ls st u bb σ Q ↔ qx sc D 164 27 ls (vi 0 :: st) u bb σ Q := r_iconst (by decide +kernel)
theorem k164_27 : qx sc D 164 27 ls [vi x] (0, 0) bb σ Q ↔ (x = 0 ∨ x = 1) ∧ Q (.inl (some (vi x))) bb σ := r_retB (by decide +kernel)
-- 165: RowProverModel.isShown(IZ)Z
theorem k165_0 : qx sc D 165 0 [vr a, l1, l2, l3] st u bb σ Q ↔ qx sc D 165 1 [vr a, l1, l2, l3] (vr a :: st) u bb σ Q := r_aload_n (k := 0) (by decide +kernel) rfl
theorem k165_1 : qx sc D 165 1 ls (vr 136 :: st) u bb σ Q ↔ qx sc D 165 4 ls (vr 157 :: st) u bb σ Q := r_getR (idx := 202) (c := 15) (k := 34) (by decide +kernel)
theorem k165_4 : qx sc D 165 4 [l0, vi x, l2, l3] st u bb σ Q ↔ qx sc D 165 5 [l0, vi x, l2, l3] (vi x :: st) u bb σ Q := r_iload_n (k := 1) (by decide +kernel) rfl
theorem k165_5 : qx sc D 165 5 ls (vi i :: vr a :: st) u bb σ Q ↔ (q_ty a = 0 ∧ 0 ≤ i ∧ i < q_ln a) ∧ qx sc D 165 6 ls (vi (σ a i) :: st) u bb σ Q := r_iald (by decide +kernel)
theorem k165_6 : qx sc D 165 6 [l0, l1, l2, l3] (vi x :: st) u bb σ Q ↔ qx sc D 165 7 [l0, l1, l2, vi x] st u bb σ Q := r_istore_n (k := 3) (by decide +kernel) (Nat.le_of_ble_eq_true rfl)
theorem k165_7 : qx sc D 165 7 [l0, l1, vi x, l3] st u bb σ Q ↔ qx sc D 165 8 [l0, l1, vi x, l3] (vi x :: st) u bb σ Q := r_iload_n (k := 2) (by decide +kernel) rfl
theorem k165_8 : qx sc D 165 8 ls (vi x :: st) u bb σ Q ↔ (x = 0 → qx sc D 165 34 ls st u bb σ Q) ∧ (¬ (x = 0) → qx sc D 165 11 ls st u bb σ Q) := r_if_eq (off := 26) (t := 34) (by decide +kernel)
theorem k165_11 : qx sc D 165 11 [vr a, l1, l2, l3] st u bb σ Q ↔ qx sc D 165 12 [vr a, l1, l2, l3] (vr a :: st) u bb σ Q := r_aload_n (k := 0) (by decide +kernel) rfl
theorem k165_12 : qx sc D 165 12 [vr a, l1, l2, l3] st u bb σ Q ↔ qx sc D 165 13 [vr a, l1, l2, l3] (vr a :: st) u bb σ Q := r_aload_n (k := 0) (by decide +kernel) rfl
theorem k165_13 : qx sc D 165 13 ls (vr 136 :: st) u bb σ Q ↔ qx sc D 165 16 ls (vr 156 :: st) u bb σ Q := r_getR (idx := 199) (c := 15) (k := 33) (by decide +kernel)
theorem k165_16 : qx sc D 165 16 [l0, vi x, l2, l3] st u bb σ Q ↔ qx sc D 165 17 [l0, vi x, l2, l3] (vi x :: st) u bb σ Q := r_iload_n (k := 1) (by decide +kernel) rfl
theorem k165_17 : qx sc D 165 17 ls (vi i :: vr a :: st) u bb σ Q ↔ (q_ty a = 0 ∧ 0 ≤ i ∧ i < q_ln a) ∧ qx sc D 165 18 ls (vi (σ a i) :: st) u bb σ Q := r_iald (by decide +kernel)
theorem k165_18 : qx sc D 165 18 [l0, l1, l2, vi x] st u bb σ Q ↔ qx sc D 165 19 [l0, l1, l2, vi x] (vi x :: st) u bb σ Q := r_iload_n (k := 3) (by decide +kernel) rfl
theorem k165_19 : qx sc (D + 1) 165 19 ls [vi x1, vi x0, vr 136] (0, 0) bb σ Q ↔ qx sc D 133 0 [vr 136, vi x0, vi x1] [] (0, 0) bb σ (q_kn sc (D + 1) 165 22 ls [] (0, 0) Q) := r_callv (idx := 369) (n := 2) (m := 3) (by decide +kernel) rfl (Nat.le_of_ble_eq_true rfl) ⟨Nat.le_of_ble_eq_true rfl, Nat.le_of_ble_eq_true rfl, rfl⟩ rfl
theorem k165_22 : qx sc D 165 22 ls st u bb σ Q ↔ qx sc D 165 23 ls (vi (-1) :: st) u bb σ Q := r_iconst (by decide +kernel)
theorem k165_23 : qx sc D 165 23 ls (vi b' :: vi a' :: st) u bb σ Q ↔ (b' < a' → qx sc D 165 30 ls st u bb σ Q) ∧ (¬ (b' < a') → qx sc D 165 26 ls st u bb σ Q) := r_ic_gt (off := 7) (t := 30) (by decide +kernel)
theorem k165_26 : qx sc D 165 26 ls st u bb σ Q ↔ qx sc D 165 27 ls (vi 1 :: st) u bb σ Q := r_iconst (by decide +kernel)
theorem k165_27 : qx sc D 165 27 ls st u bb σ Q ↔ qx sc D 165 48 ls st u bb σ Q := r_goto (off := 21) (by decide +kernel)
theorem k165_30 : qx sc D 165 30 ls st u bb σ Q ↔ qx sc D 165 31 ls (vi 0 :: st) u bb σ Q := r_iconst (by decide +kernel)
theorem k165_31 : qx sc D 165 31 ls st u bb σ Q ↔ qx sc D 165 48 ls st u bb σ Q := r_goto (off := 17) (by decide +kernel)
theorem k165_34 : qx sc D 165 34 [vr a, l1, l2, l3] st u bb σ Q ↔ qx sc D 165 35 [vr a, l1, l2, l3] (vr a :: st) u bb σ Q := r_aload_n (k := 0) (by decide +kernel) rfl
theorem k165_35 : qx sc D 165 35 ls st u bb σ Q ↔ qx sc D 165 36 ls (vi 3 :: st) u bb σ Q := r_iconst (by decide +kernel)
theorem k165_36 : qx sc D 165 36 [l0, l1, l2, vi x] st u bb σ Q ↔ qx sc D 165 37 [l0, l1, l2, vi x] (vi x :: st) u bb σ Q := r_iload_n (k := 3) (by decide +kernel) rfl
theorem k165_37 : qx sc (D + 1) 165 37 ls [vi x1, vi x0, vr 136] (0, 0) bb σ Q ↔ qx sc D 133 0 [vr 136, vi x0, vi x1] [] (0, 0) bb σ (q_kn sc (D + 1) 165 40 ls [] (0, 0) Q) := r_callv (idx := 369) (n := 2) (m := 3) (by decide +kernel) rfl (Nat.le_of_ble_eq_true rfl) ⟨Nat.le_of_ble_eq_true rfl, Nat.le_of_ble_eq_true rfl, rfl⟩ rfl
theorem k165_40 : qx sc D 165 40 ls (vi x :: st) u bb σ Q ↔ (x < 0 → qx sc D 165 47 ls st u bb σ Q) ∧ (¬ (x < 0) → qx sc D 165 43 ls st u bb σ Q) := r_if_lt (off := 7) (t := 47) (by decide +kernel)
theorem k165_43 : qx sc D 165 43 ls st u bb σ Q ↔ qx sc D 165 44 ls (vi 1 :: st) u bb σ Q := r_iconst (by decide +kernel)
theorem k165_44 : qx sc D 165 44 ls st u bb σ Q ↔ qx sc D 165 48 ls st u bb σ Q := r_goto (off := 4) (by decide +kernel)
theorem k165_47 : qx sc D 165 47 ls st u bb σ Q ↔ qx sc D 165 48 ls (vi 0 :: st) u bb σ Q := r_iconst (by decide +kernel)
theorem k165_48 : qx sc D 165 48 ls [vi x] (0, 0) bb σ Q ↔ (x = 0 ∨ x = 1) ∧ Q (.inl (some (vi x))) bb σ := r_retB (by decide +kernel)
-- 166: RowProverModel.isSoAhead(IIZ)Z
theorem k166_0 : qx sc D 166 0 [vr a, l1, l2, l3, l4, l5, l6, l7] st u bb σ Q ↔ qx sc D 166 1 [vr a, l1, l2, l3, l4, l5, l6, l7] (vr a :: st) u bb σ Q := r_aload_n (k := 0) (by decide +kernel) rfl
theorem k166_1 : qx sc D 166 1 ls (vr 136 :: st) u bb σ Q ↔ qx sc D 166 4 ls (vr 174 :: st) u bb σ Q := r_getR (idx := 313) (c := 15) (k := 55) (by decide +kernel)
theorem k166_4 : qx sc D 166 4 [vr a, l1, l2, l3, l4, l5, l6, l7] st u bb σ Q ↔ qx sc D 166 5 [vr a, l1, l2, l3, l4, l5, l6, l7] (vr a :: st) u bb σ Q := r_aload_n (k := 0) (by decide +kernel) rfl
theorem k166_5 : qx sc D 166 5 ls (vr 136 :: st) u bb σ Q ↔ qx sc D 166 8 ls (vr 157 :: st) u bb σ Q := r_getR (idx := 202) (c := 15) (k := 34) (by decide +kernel)
theorem k166_8 : qx sc D 166 8 [l0, l1, vi x, l3, l4, l5, l6, l7] st u bb σ Q ↔ qx sc D 166 9 [l0, l1, vi x, l3, l4, l5, l6, l7] (vi x :: st) u bb σ Q := r_iload_n (k := 2) (by decide +kernel) rfl
theorem k166_9 : qx sc D 166 9 ls (vi i :: vr a :: st) u bb σ Q ↔ (q_ty a = 0 ∧ 0 ≤ i ∧ i < q_ln a) ∧ qx sc D 166 10 ls (vi (σ a i) :: st) u bb σ Q := r_iald (by decide +kernel)
theorem k166_10 : qx sc D 166 10 ls (vi i :: vr a :: st) u bb σ Q ↔ (q_ty a = 0 ∧ 0 ≤ i ∧ i < q_ln a) ∧ qx sc D 166 11 ls (vi (σ a i) :: st) u bb σ Q := r_iald (by decide +kernel)
theorem k166_11 : qx sc D 166 11 [l0, l1, l2, l3, l4, l5, l6, l7] (vi x :: st) u bb σ Q ↔ qx sc D 166 13 [l0, l1, l2, l3, vi x, l5, l6, l7] st u bb σ Q := r_istore (k := 4) (by decide +kernel) (Nat.le_of_ble_eq_true rfl)
theorem k166_13 : qx sc D 166 13 [vr a, l1, l2, l3, l4, l5, l6, l7] st u bb σ Q ↔ qx sc D 166 14 [vr a, l1, l2, l3, l4, l5, l6, l7] (vr a :: st) u bb σ Q := r_aload_n (k := 0) (by decide +kernel) rfl
theorem k166_14 : qx sc D 166 14 ls (vr 136 :: st) u bb σ Q ↔ qx sc D 166 17 ls (vr 175 :: st) u bb σ Q := r_getR (idx := 316) (c := 15) (k := 56) (by decide +kernel)
theorem k166_17 : qx sc D 166 17 [vr a, l1, l2, l3, l4, l5, l6, l7] st u bb σ Q ↔ qx sc D 166 18 [vr a, l1, l2, l3, l4, l5, l6, l7] (vr a :: st) u bb σ Q := r_aload_n (k := 0) (by decide +kernel) rfl
theorem k166_18 : qx sc D 166 18 ls (vr 136 :: st) u bb σ Q ↔ qx sc D 166 21 ls (vr 157 :: st) u bb σ Q := r_getR (idx := 202) (c := 15) (k := 34) (by decide +kernel)
theorem k166_21 : qx sc D 166 21 [l0, l1, vi x, l3, l4, l5, l6, l7] st u bb σ Q ↔ qx sc D 166 22 [l0, l1, vi x, l3, l4, l5, l6, l7] (vi x :: st) u bb σ Q := r_iload_n (k := 2) (by decide +kernel) rfl
theorem k166_22 : qx sc D 166 22 ls (vi i :: vr a :: st) u bb σ Q ↔ (q_ty a = 0 ∧ 0 ≤ i ∧ i < q_ln a) ∧ qx sc D 166 23 ls (vi (σ a i) :: st) u bb σ Q := r_iald (by decide +kernel)
theorem k166_23 : qx sc D 166 23 ls (vi i :: vr a :: st) u bb σ Q ↔ (q_ty a = 0 ∧ 0 ≤ i ∧ i < q_ln a) ∧ qx sc D 166 24 ls (vi (σ a i) :: st) u bb σ Q := r_iald (by decide +kernel)
theorem k166_24 : qx sc D 166 24 [l0, l1, l2, l3, l4, l5, l6, l7] (vi x :: st) u bb σ Q ↔ qx sc D 166 26 [l0, l1, l2, l3, l4, vi x, l6, l7] st u bb σ Q := r_istore (k := 5) (by decide +kernel) (Nat.le_of_ble_eq_true rfl)
theorem k166_26 : qx sc D 166 26 [vr a, l1, l2, l3, l4, l5, l6, l7] st u bb σ Q ↔ qx sc D 166 27 [vr a, l1, l2, l3, l4, l5, l6, l7] (vr a :: st) u bb σ Q := r_aload_n (k := 0) (by decide +kernel) rfl
theorem k166_27 : qx sc D 166 27 ls (vr 136 :: st) u bb σ Q ↔ qx sc D 166 30 ls (vr 160 :: st) u bb σ Q := r_getR (idx := 278) (c := 15) (k := 37) (by decide +kernel)
theorem k166_30 : qx sc D 166 30 [l0, vi x, l2, l3, l4, l5, l6, l7] st u bb σ Q ↔ qx sc D 166 31 [l0, vi x, l2, l3, l4, l5, l6, l7] (vi x :: st) u bb σ Q := r_iload_n (k := 1) (by decide +kernel) rfl
theorem k166_31 : qx sc D 166 31 ls (vi i :: vr a :: st) u bb σ Q ↔ (q_ty a = 0 ∧ 0 ≤ i ∧ i < q_ln a) ∧ qx sc D 166 32 ls (vi (σ a i) :: st) u bb σ Q := r_iald (by decide +kernel)
theorem k166_32 : qx sc D 166 32 [l0, l1, l2, l3, l4, l5, l6, l7] (vi x :: st) u bb σ Q ↔ qx sc D 166 34 [l0, l1, l2, l3, l4, l5, vi x, l7] st u bb σ Q := r_istore (k := 6) (by decide +kernel) (Nat.le_of_ble_eq_true rfl)
theorem k166_34 : qx sc D 166 34 [vr a, l1, l2, l3, l4, l5, l6, l7] st u bb σ Q ↔ qx sc D 166 35 [vr a, l1, l2, l3, l4, l5, l6, l7] (vr a :: st) u bb σ Q := r_aload_n (k := 0) (by decide +kernel) rfl
theorem k166_35 : qx sc D 166 35 ls (vr a :: st) u bb σ Q ↔ qx sc D 166 36 ls (vr a :: vr a :: st) u bb σ Q := r_dupA (by decide +kernel)
theorem k166_36 : qx sc D 166 36 ls (vr 136 :: st) u bb σ Q ↔ qx sc D 166 39 ls (vi (σ 136 74) :: st) u bb σ Q := r_getI (idx := 446) (c := 15) (k := 74) (by decide +kernel)
theorem k166_39 : qx sc D 166 39 ls st u bb σ Q ↔ qx sc D 166 40 ls (vi 1 :: st) u bb σ Q := r_iconst (by decide +kernel)
theorem k166_40 : qx sc D 166 40 ls (vi b' :: vi a' :: st) u bb σ Q ↔ q_R (a' + b') ∧ qx sc D 166 41 ls (vi (a' + b') :: st) u bb σ Q := r_iadd (by decide +kernel)
theorem k166_41 : qx sc D 166 41 ls (vi x :: vr 136 :: st) u bb σ Q ↔ qx sc D 166 44 ls st u bb (q_up σ 136 74 x) Q := r_putI (idx := 446) (c := 15) (k := 74) (by decide +kernel)
theorem k166_44 : qx sc D 166 44 [vr a, l1, l2, l3, l4, l5, l6, l7] st u bb σ Q ↔ qx sc D 166 45 [vr a, l1, l2, l3, l4, l5, l6, l7] (vr a :: st) u bb σ Q := r_aload_n (k := 0) (by decide +kernel) rfl
theorem k166_45 : qx sc D 166 45 ls (vr a :: st) u bb σ Q ↔ qx sc D 166 46 ls (vr a :: vr a :: st) u bb σ Q := r_dupA (by decide +kernel)
theorem k166_46 : qx sc D 166 46 ls (vr 136 :: st) u bb σ Q ↔ qx sc D 166 49 ls (vi (σ 136 76) :: st) u bb σ Q := r_getI (idx := 449) (c := 15) (k := 76) (by decide +kernel)
theorem k166_49 : qx sc D 166 49 ls st u bb σ Q ↔ qx sc D 166 50 ls (vi 1 :: st) u bb σ Q := r_iconst (by decide +kernel)
theorem k166_50 : qx sc D 166 50 ls (vi b' :: vi a' :: st) u bb σ Q ↔ q_R (a' + b') ∧ qx sc D 166 51 ls (vi (a' + b') :: st) u bb σ Q := r_iadd (by decide +kernel)
theorem k166_51 : qx sc D 166 51 ls (vi x :: vr 136 :: st) u bb σ Q ↔ qx sc D 166 54 ls st u bb (q_up σ 136 76 x) Q := r_putI (idx := 449) (c := 15) (k := 76) (by decide +kernel)
theorem k166_54 : qx sc D 166 54 [vr a, l1, l2, l3, l4, l5, l6, l7] st u bb σ Q ↔ qx sc D 166 55 [vr a, l1, l2, l3, l4, l5, l6, l7] (vr a :: st) u bb σ Q := r_aload_n (k := 0) (by decide +kernel) rfl
theorem k166_55 : qx sc D 166 55 ls (vr 136 :: st) u bb σ Q ↔ qx sc D 166 58 ls (vr 177 :: st) u bb σ Q := r_getR (idx := 322) (c := 15) (k := 58) (by decide +kernel)
theorem k166_58 : qx sc D 166 58 [l0, l1, vi x, l3, l4, l5, l6, l7] st u bb σ Q ↔ qx sc D 166 59 [l0, l1, vi x, l3, l4, l5, l6, l7] (vi x :: st) u bb σ Q := r_iload_n (k := 2) (by decide +kernel) rfl
theorem k166_59 : qx sc D 166 59 ls (vi i :: vr a :: st) u bb σ Q ↔ (q_ty a = 0 ∧ 0 ≤ i ∧ i < q_ln a) ∧ qx sc D 166 60 ls (vi (σ a i) :: st) u bb σ Q := r_iald (by decide +kernel)
theorem k166_60 : qx sc D 166 60 ls (vi x :: st) u bb σ Q ↔ (x = 0 → qx sc D 166 63 ls st u bb σ Q) ∧ (¬ (x = 0) → qx sc D 166 113 ls st u bb σ Q) := r_if_ne (off := 53) (t := 113) (by decide +kernel)
theorem k166_63 : qx sc D 166 63 [vr a, l1, l2, l3, l4, l5, l6, l7] st u bb σ Q ↔ qx sc D 166 64 [vr a, l1, l2, l3, l4, l5, l6, l7] (vr a :: st) u bb σ Q := r_aload_n (k := 0) (by decide +kernel) rfl
theorem k166_64 : qx sc D 166 64 ls (vr 136 :: st) u bb σ Q ↔ qx sc D 166 67 ls (vr 185 :: st) u bb σ Q := r_getR (idx := 346) (c := 15) (k := 67) (by decide +kernel)
theorem k166_67 : qx sc D 166 67 [l0, l1, l2, l3, vi x, l5, l6, l7] st u bb σ Q ↔ qx sc D 166 69 [l0, l1, l2, l3, vi x, l5, l6, l7] (vi x :: st) u bb σ Q := r_iload (k := 4) (by decide +kernel) rfl
theorem k166_69 : qx sc D 166 69 ls (vi i :: vr a :: st) u bb σ Q ↔ (q_ty a = 0 ∧ 0 ≤ i ∧ i < q_ln a) ∧ qx sc D 166 70 ls (vi (σ a i) :: st) u bb σ Q := r_iald (by decide +kernel)
theorem k166_70 : qx sc D 166 70 [l0, l1, l2, l3, l4, vi x, l6, l7] st u bb σ Q ↔ qx sc D 166 72 [l0, l1, l2, l3, l4, vi x, l6, l7] (vi x :: st) u bb σ Q := r_iload (k := 5) (by decide +kernel) rfl
theorem k166_72 : qx sc D 166 72 ls (vi b' :: vi a' :: st) u bb σ Q ↔ q_R (a' + b') ∧ qx sc D 166 73 ls (vi (a' + b') :: st) u bb σ Q := r_iadd (by decide +kernel)
theorem k166_73 : qx sc D 166 73 [l0, l1, l2, l3, l4, l5, l6, l7] (vi x :: st) u bb σ Q ↔ qx sc D 166 75 [l0, l1, l2, l3, l4, l5, l6, vi x] st u bb σ Q := r_istore (k := 7) (by decide +kernel) (Nat.le_of_ble_eq_true rfl)
theorem k166_75 : qx sc D 166 75 [l0, l1, l2, vi x, l4, l5, l6, l7] st u bb σ Q ↔ qx sc D 166 76 [l0, l1, l2, vi x, l4, l5, l6, l7] (vi x :: st) u bb σ Q := r_iload_n (k := 3) (by decide +kernel) rfl
theorem k166_76 : qx sc D 166 76 ls (vi x :: st) u bb σ Q ↔ (x = 0 → qx sc D 166 102 ls st u bb σ Q) ∧ (¬ (x = 0) → qx sc D 166 79 ls st u bb σ Q) := r_if_eq (off := 26) (t := 102) (by decide +kernel)
theorem k166_79 : qx sc D 166 79 [l0, l1, l2, l3, l4, l5, l6, vi x] st u bb σ Q ↔ qx sc D 166 81 [l0, l1, l2, l3, l4, l5, l6, vi x] (vi x :: st) u bb σ Q := r_iload (k := 7) (by decide +kernel) rfl
theorem k166_81 : qx sc D 166 81 [vr a, l1, l2, l3, l4, l5, l6, l7] st u bb σ Q ↔ qx sc D 166 82 [vr a, l1, l2, l3, l4, l5, l6, l7] (vr a :: st) u bb σ Q := r_aload_n (k := 0) (by decide +kernel) rfl
theorem k166_82 : qx sc D 166 82 [vr a, l1, l2, l3, l4, l5, l6, l7] st u bb σ Q ↔ qx sc D 166 83 [vr a, l1, l2, l3, l4, l5, l6, l7] (vr a :: st) u bb σ Q := r_aload_n (k := 0) (by decide +kernel) rfl
theorem k166_83 : qx sc D 166 83 ls (vr 136 :: st) u bb σ Q ↔ qx sc D 166 86 ls (vr 156 :: st) u bb σ Q := r_getR (idx := 199) (c := 15) (k := 33) (by decide +kernel)
theorem k166_86 : qx sc D 166 86 [l0, l1, vi x, l3, l4, l5, l6, l7] st u bb σ Q ↔ qx sc D 166 87 [l0, l1, vi x, l3, l4, l5, l6, l7] (vi x :: st) u bb σ Q := r_iload_n (k := 2) (by decide +kernel) rfl
theorem k166_87 : qx sc D 166 87 ls (vi i :: vr a :: st) u bb σ Q ↔ (q_ty a = 0 ∧ 0 ≤ i ∧ i < q_ln a) ∧ qx sc D 166 88 ls (vi (σ a i) :: st) u bb σ Q := r_iald (by decide +kernel)
theorem k166_88 : qx sc (D + 1) 166 88 ls [vi x0, vr 136, vi x20] (0, 0) bb σ Q ↔ qx sc D 176 0 [vr 136, vi x0] [] (0, 0) bb σ (q_kn sc (D + 1) 166 91 ls [vi x20] (0, 0) Q) := r_callv (idx := 440) (n := 1) (m := 2) (by decide +kernel) rfl (Nat.le_of_ble_eq_true rfl) ⟨Nat.le_of_ble_eq_true rfl, Nat.le_of_ble_eq_true rfl, rfl⟩ rfl
theorem k166_91 : qx sc D 166 91 ls (vi b' :: vi a' :: st) u bb σ Q ↔ (a' < b' → qx sc D 166 94 ls st u bb σ Q) ∧ (¬ (a' < b') → qx sc D 166 98 ls st u bb σ Q) := r_ic_ge (off := 7) (t := 98) (by decide +kernel)
theorem k166_94 : qx sc D 166 94 ls st u bb σ Q ↔ qx sc D 166 95 ls (vi 1 :: st) u bb σ Q := r_iconst (by decide +kernel)
theorem k166_95 : qx sc D 166 95 ls st u bb σ Q ↔ qx sc D 166 112 ls st u bb σ Q := r_goto (off := 17) (by decide +kernel)
theorem k166_98 : qx sc D 166 98 ls st u bb σ Q ↔ qx sc D 166 99 ls (vi 0 :: st) u bb σ Q := r_iconst (by decide +kernel)
theorem k166_99 : qx sc D 166 99 ls st u bb σ Q ↔ qx sc D 166 112 ls st u bb σ Q := r_goto (off := 13) (by decide +kernel)
theorem k166_102 : qx sc D 166 102 [l0, l1, l2, l3, l4, l5, l6, vi x] st u bb σ Q ↔ qx sc D 166 104 [l0, l1, l2, l3, l4, l5, l6, vi x] (vi x :: st) u bb σ Q := r_iload (k := 7) (by decide +kernel) rfl
theorem k166_104 : qx sc D 166 104 ls (vi x :: st) u bb σ Q ↔ (x < 0 → qx sc D 166 111 ls st u bb σ Q) ∧ (¬ (x < 0) → qx sc D 166 107 ls st u bb σ Q) := r_if_lt (off := 7) (t := 111) (by decide +kernel)
theorem k166_107 : qx sc D 166 107 ls st u bb σ Q ↔ qx sc D 166 108 ls (vi 1 :: st) u bb σ Q := r_iconst (by decide +kernel)
theorem k166_108 : qx sc D 166 108 ls st u bb σ Q ↔ qx sc D 166 112 ls st u bb σ Q := r_goto (off := 4) (by decide +kernel)
theorem k166_111 : qx sc D 166 111 ls st u bb σ Q ↔ qx sc D 166 112 ls (vi 0 :: st) u bb σ Q := r_iconst (by decide +kernel)
theorem k166_112 : qx sc D 166 112 ls [vi x] (0, 0) bb σ Q ↔ (x = 0 ∨ x = 1) ∧ Q (.inl (some (vi x))) bb σ := r_retB (by decide +kernel)
theorem k166_113 : qx sc D 166 113 [l0, l1, l2, vi x, l4, l5, l6, l7] st u bb σ Q ↔ qx sc D 166 114 [l0, l1, l2, vi x, l4, l5, l6, l7] (vi x :: st) u bb σ Q := r_iload_n (k := 3) (by decide +kernel) rfl
theorem k166_114 : qx sc D 166 114 ls (vi x :: st) u bb σ Q ↔ (x = 0 → qx sc D 166 117 ls st u bb σ Q) ∧ (¬ (x = 0) → qx sc D 166 141 ls st u bb σ Q) := r_if_ne (off := 27) (t := 141) (by decide +kernel)
theorem k166_117 : qx sc D 166 117 [vr a, l1, l2, l3, l4, l5, l6, l7] st u bb σ Q ↔ qx sc D 166 118 [vr a, l1, l2, l3, l4, l5, l6, l7] (vr a :: st) u bb σ Q := r_aload_n (k := 0) (by decide +kernel) rfl
theorem k166_118 : qx sc D 166 118 ls (vr 136 :: st) u bb σ Q ↔ qx sc D 166 121 ls (vr 183 :: st) u bb σ Q := r_getR (idx := 341) (c := 15) (k := 65) (by decide +kernel)
theorem k166_121 : qx sc D 166 121 [vr a, l1, l2, l3, l4, l5, l6, l7] st u bb σ Q ↔ qx sc D 166 122 [vr a, l1, l2, l3, l4, l5, l6, l7] (vr a :: st) u bb σ Q := r_aload_n (k := 0) (by decide +kernel) rfl
theorem k166_122 : qx sc D 166 122 ls (vr 136 :: st) u bb σ Q ↔ qx sc D 166 125 ls (vr 147 :: st) u bb σ Q := r_getR (idx := 33) (c := 15) (k := 24) (by decide +kernel)
theorem k166_125 : qx sc D 166 125 [l0, l1, l2, l3, vi x, l5, l6, l7] st u bb σ Q ↔ qx sc D 166 127 [l0, l1, l2, l3, vi x, l5, l6, l7] (vi x :: st) u bb σ Q := r_iload (k := 4) (by decide +kernel) rfl
theorem k166_127 : qx sc D 166 127 ls (vi i :: vr a :: st) u bb σ Q ↔ (q_ty a = 0 ∧ 0 ≤ i ∧ i < q_ln a) ∧ qx sc D 166 128 ls (vi (σ a i) :: st) u bb σ Q := r_iald (by decide +kernel)
theorem k166_128 : qx sc D 166 128 ls (vi i :: vr a :: st) u bb σ Q ↔ (q_ty a = 0 ∧ 0 ≤ i ∧ i < q_ln a) ∧ qx sc D 166 129 ls (vi (σ a i) :: st) u bb σ Q := r_iald (by decide +kernel)
theorem k166_129 : qx sc D 166 129 [l0, l1, l2, l3, l4, vi x, l6, l7] st u bb σ Q ↔ qx sc D 166 131 [l0, l1, l2, l3, l4, vi x, l6, l7] (vi x :: st) u bb σ Q := r_iload (k := 5) (by decide +kernel) rfl
theorem k166_131 : qx sc D 166 131 ls (vi b' :: vi a' :: st) u bb σ Q ↔ q_R (a' + b') ∧ qx sc D 166 132 ls (vi (a' + b') :: st) u bb σ Q := r_iadd (by decide +kernel)
theorem k166_132 : qx sc D 166 132 ls (vi x :: st) u bb σ Q ↔ (x < 0 → qx sc D 166 139 ls st u bb σ Q) ∧ (¬ (x < 0) → qx sc D 166 135 ls st u bb σ Q) := r_if_lt (off := 7) (t := 139) (by decide +kernel)
theorem k166_135 : qx sc D 166 135 ls st u bb σ Q ↔ qx sc D 166 136 ls (vi 1 :: st) u bb σ Q := r_iconst (by decide +kernel)
theorem k166_136 : qx sc D 166 136 ls st u bb σ Q ↔ qx sc D 166 140 ls st u bb σ Q := r_goto (off := 4) (by decide +kernel)
theorem k166_139 : qx sc D 166 139 ls st u bb σ Q ↔ qx sc D 166 140 ls (vi 0 :: st) u bb σ Q := r_iconst (by decide +kernel)
theorem k166_140 : qx sc D 166 140 ls [vi x] (0, 0) bb σ Q ↔ (x = 0 ∨ x = 1) ∧ Q (.inl (some (vi x))) bb σ := r_retB (by decide +kernel)
theorem k166_141 : qx sc D 166 141 [vr a, l1, l2, l3, l4, l5, l6, l7] st u bb σ Q ↔ qx sc D 166 142 [vr a, l1, l2, l3, l4, l5, l6, l7] (vr a :: st) u bb σ Q := r_aload_n (k := 0) (by decide +kernel) rfl
theorem k166_142 : qx sc D 166 142 ls st u bb σ Q ↔ qx sc D 166 143 ls (vi 2 :: st) u bb σ Q := r_iconst (by decide +kernel)
theorem k166_143 : qx sc D 166 143 [l0, l1, l2, l3, l4, l5, vi x, l7] st u bb σ Q ↔ qx sc D 166 145 [l0, l1, l2, l3, l4, l5, vi x, l7] (vi x :: st) u bb σ Q := r_iload (k := 6) (by decide +kernel) rfl
theorem k166_145 : qx sc D 166 145 ls (vi b' :: vi a' :: st) u bb σ Q ↔ q_R (a' * b') ∧ qx sc D 166 146 ls (vi (a' * b') :: st) u bb σ Q := r_imul (by decide +kernel)
theorem k166_146 : qx sc D 166 146 ls st u bb σ Q ↔ qx sc D 166 147 ls (vi 1 :: st) u bb σ Q := r_iconst (by decide +kernel)
theorem k166_147 : qx sc D 166 147 ls (vi b' :: vi a' :: st) u bb σ Q ↔ q_R (a' + b') ∧ qx sc D 166 148 ls (vi (a' + b') :: st) u bb σ Q := r_iadd (by decide +kernel)
theorem k166_148 : qx sc (D + 1) 166 148 ls [vi x0, vr 136] (0, 0) bb σ Q ↔ qx sc D 213 0 [vr 136, vi x0] [] (0, 0) bb σ (q_kn sc (D + 1) 166 151 ls [] (0, 0) Q) := r_callv (idx := 443) (n := 1) (m := 2) (by decide +kernel) rfl (Nat.le_of_ble_eq_true rfl) ⟨Nat.le_of_ble_eq_true rfl, Nat.le_of_ble_eq_true rfl, rfl⟩ rfl
theorem k166_151 : qx sc D 166 151 [vr a, l1, l2, l3, l4, l5, l6, l7] st u bb σ Q ↔ qx sc D 166 152 [vr a, l1, l2, l3, l4, l5, l6, l7] (vr a :: st) u bb σ Q := r_aload_n (k := 0) (by decide +kernel) rfl
theorem k166_152 : qx sc D 166 152 ls (vr 136 :: st) u bb σ Q ↔ qx sc D 166 155 ls (vr 164 :: st) u bb σ Q := r_getR (idx := 230) (c := 15) (k := 41) (by decide +kernel)
theorem k166_155 : qx sc D 166 155 [l0, l1, l2, l3, l4, l5, vi x, l7] st u bb σ Q ↔ qx sc D 166 157 [l0, l1, l2, l3, l4, l5, vi x, l7] (vi x :: st) u bb σ Q := r_iload (k := 6) (by decide +kernel) rfl
theorem k166_157 : qx sc D 166 157 ls (vi i :: vr a :: st) u bb σ Q ↔ (q_ty a = 0 ∧ 0 ≤ i ∧ i < q_ln a) ∧ qx sc D 166 158 ls (vi (σ a i) :: st) u bb σ Q := r_iald (by decide +kernel)
theorem k166_158 : qx sc D 166 158 ls (vi x :: st) u bb σ Q ↔ (x = 0 → qx sc D 166 161 ls st u bb σ Q) ∧ (¬ (x = 0) → qx sc D 166 165 ls st u bb σ Q) := r_if_ne (off := 7) (t := 165) (by decide +kernel)
theorem k166_161 : qx sc D 166 161 ls st u bb σ Q ↔ qx sc D 166 162 ls (vi 1 :: st) u bb σ Q := r_iconst (by decide +kernel)
theorem k166_162 : qx sc D 166 162 ls st u bb σ Q ↔ qx sc D 166 166 ls st u bb σ Q := r_goto (off := 4) (by decide +kernel)
theorem k166_165 : qx sc D 166 165 ls st u bb σ Q ↔ qx sc D 166 166 ls (vi 0 :: st) u bb σ Q := r_iconst (by decide +kernel)
theorem k166_166 : qx sc D 166 166 ls (vi b' :: vi a' :: st) u bb σ Q ↔ q_R (a' - b') ∧ qx sc D 166 167 ls (vi (a' - b') :: st) u bb σ Q := r_isub (by decide +kernel)
theorem k166_167 : qx sc D 166 167 [l0, l1, l2, l3, l4, vi x, l6, l7] st u bb σ Q ↔ qx sc D 166 169 [l0, l1, l2, l3, l4, vi x, l6, l7] (vi x :: st) u bb σ Q := r_iload (k := 5) (by decide +kernel) rfl
theorem k166_169 : qx sc D 166 169 ls (vi b' :: vi a' :: st) u bb σ Q ↔ q_R (a' + b') ∧ qx sc D 166 170 ls (vi (a' + b') :: st) u bb σ Q := r_iadd (by decide +kernel)
theorem k166_170 : qx sc D 166 170 [l0, l1, l2, l3, l4, l5, l6, l7] (vi x :: st) u bb σ Q ↔ qx sc D 166 172 [l0, l1, l2, l3, l4, l5, l6, vi x] st u bb σ Q := r_istore (k := 7) (by decide +kernel) (Nat.le_of_ble_eq_true rfl)
theorem k166_172 : qx sc D 166 172 [l0, l1, l2, l3, l4, l5, l6, vi x] st u bb σ Q ↔ qx sc D 166 174 [l0, l1, l2, l3, l4, l5, l6, vi x] (vi x :: st) u bb σ Q := r_iload (k := 7) (by decide +kernel) rfl
theorem k166_174 : qx sc D 166 174 [vr a, l1, l2, l3, l4, l5, l6, l7] st u bb σ Q ↔ qx sc D 166 175 [vr a, l1, l2, l3, l4, l5, l6, l7] (vr a :: st) u bb σ Q := r_aload_n (k := 0) (by decide +kernel) rfl
theorem k166_175 : qx sc D 166 175 [vr a, l1, l2, l3, l4, l5, l6, l7] st u bb σ Q ↔ qx sc D 166 176 [vr a, l1, l2, l3, l4, l5, l6, l7] (vr a :: st) u bb σ Q := r_aload_n (k := 0) (by decide +kernel) rfl
theorem k166_176 : qx sc D 166 176 ls (vr 136 :: st) u bb σ Q ↔ qx sc D 166 179 ls (vr 156 :: st) u bb σ Q := r_getR (idx := 199) (c := 15) (k := 33) (by decide +kernel)
theorem k166_179 : qx sc D 166 179 [l0, l1, vi x, l3, l4, l5, l6, l7] st u bb σ Q ↔ qx sc D 166 180 [l0, l1, vi x, l3, l4, l5, l6, l7] (vi x :: st) u bb σ Q := r_iload_n (k := 2) (by decide +kernel) rfl
theorem k166_180 : qx sc D 166 180 ls (vi i :: vr a :: st) u bb σ Q ↔ (q_ty a = 0 ∧ 0 ≤ i ∧ i < q_ln a) ∧ qx sc D 166 181 ls (vi (σ a i) :: st) u bb σ Q := r_iald (by decide +kernel)
theorem k166_181 : qx sc (D + 1) 166 181 ls [vi x0, vr 136, vi x20] (0, 0) bb σ Q ↔ qx sc D 176 0 [vr 136, vi x0] [] (0, 0) bb σ (q_kn sc (D + 1) 166 184 ls [vi x20] (0, 0) Q) := r_callv (idx := 440) (n := 1) (m := 2) (by decide +kernel) rfl (Nat.le_of_ble_eq_true rfl) ⟨Nat.le_of_ble_eq_true rfl, Nat.le_of_ble_eq_true rfl, rfl⟩ rfl
theorem k166_184 : qx sc D 166 184 ls (vi b' :: vi a' :: st) u bb σ Q ↔ (a' < b' → qx sc D 166 187 ls st u bb σ Q) ∧ (¬ (a' < b') → qx sc D 166 191 ls st u bb σ Q) := r_ic_ge (off := 7) (t := 191) (by decide +kernel)
theorem k166_187 : qx sc D 166 187 ls st u bb σ Q ↔ qx sc D 166 188 ls (vi 1 :: st) u bb σ Q := r_iconst (by decide +kernel)
theorem k166_188 : qx sc D 166 188 ls st u bb σ Q ↔ qx sc D 166 192 ls st u bb σ Q := r_goto (off := 4) (by decide +kernel)
theorem k166_191 : qx sc D 166 191 ls st u bb σ Q ↔ qx sc D 166 192 ls (vi 0 :: st) u bb σ Q := r_iconst (by decide +kernel)
theorem k166_192 : qx sc D 166 192 ls [vi x] (0, 0) bb σ Q ↔ (x = 0 ∨ x = 1) ∧ Q (.inl (some (vi x))) bb σ := r_retB (by decide +kernel)
-- 167: RowProverModel.isStatement()Z
theorem k167_0 : qx sc D 167 0 [vr a] st u bb σ Q ↔ qx sc D 167 1 [vr a] (vr a :: st) u bb σ Q := r_aload_n (k := 0) (by decide +kernel) rfl
theorem k167_1 : qx sc (D + 1) 167 1 ls [vr 136] (0, 0) bb σ Q ↔ qx sc D 168 0 [vr 136] [] (0, 0) bb σ (q_kn sc (D + 1) 167 4 ls [] (0, 0) Q) := r_callv (idx := 111) (n := 0) (m := 1) (by decide +kernel) rfl (Nat.le_of_ble_eq_true rfl) ⟨Nat.le_of_ble_eq_true rfl, Nat.le_of_ble_eq_true rfl, rfl⟩ rfl
theorem k167_4 : qx sc D 167 4 ls (vi x :: st) u bb σ Q ↔ (x = 0 → qx sc D 167 7 ls st u bb σ Q) ∧ (¬ (x = 0) → qx sc D 167 41 ls st u bb σ Q) := r_if_ne (off := 37) (t := 41) (by decide +kernel)
theorem k167_7 : qx sc D 167 7 [vr a] st u bb σ Q ↔ qx sc D 167 8 [vr a] (vr a :: st) u bb σ Q := r_aload_n (k := 0) (by decide +kernel) rfl
theorem k167_8 : qx sc (D + 1) 167 8 ls [vr 136] (0, 0) bb σ Q ↔ qx sc D 164 0 [vr 136] [] (0, 0) bb σ (q_kn sc (D + 1) 167 11 ls [] (0, 0) Q) := r_callv (idx := 114) (n := 0) (m := 1) (by decide +kernel) rfl (Nat.le_of_ble_eq_true rfl) ⟨Nat.le_of_ble_eq_true rfl, Nat.le_of_ble_eq_true rfl, rfl⟩ rfl
theorem k167_11 : qx sc D 167 11 ls (vi x :: st) u bb σ Q ↔ (x = 0 → qx sc D 167 14 ls st u bb σ Q) ∧ (¬ (x = 0) → qx sc D 167 41 ls st u bb σ Q) := r_if_ne (off := 30) (t := 41) (by decide +kernel)
theorem k167_14 : qx sc D 167 14 [vr a] st u bb σ Q ↔ qx sc D 167 15 [vr a] (vr a :: st) u bb σ Q := r_aload_n (k := 0) (by decide +kernel) rfl
theorem k167_15 : qx sc D 167 15 ls st u bb σ Q ↔ qx sc D 167 17 ls (vr (q_tr 7) :: st) u bb σ Q := r_ldcS (idx := 139) (by decide +kernel)
theorem k167_17 : qx sc (D + 1) 167 17 ls [vr a0, vr 136] (0, 0) bb σ Q ↔ qx sc D 169 0 [vr 136, vr a0, vn, vn] [] (0, 0) bb σ (q_kn sc (D + 1) 167 20 ls [] (0, 0) Q) := r_callv (idx := 107) (n := 1) (m := 4) (by decide +kernel) rfl (Nat.le_of_ble_eq_true rfl) ⟨Nat.le_of_ble_eq_true rfl, Nat.le_of_ble_eq_true rfl, rfl⟩ rfl
theorem k167_20 : qx sc D 167 20 ls (vi x :: st) u bb σ Q ↔ (x = 0 → qx sc D 167 23 ls st u bb σ Q) ∧ (¬ (x = 0) → qx sc D 167 41 ls st u bb σ Q) := r_if_ne (off := 21) (t := 41) (by decide +kernel)
theorem k167_23 : qx sc D 167 23 [vr a] st u bb σ Q ↔ qx sc D 167 24 [vr a] (vr a :: st) u bb σ Q := r_aload_n (k := 0) (by decide +kernel) rfl
theorem k167_24 : qx sc D 167 24 ls st u bb σ Q ↔ qx sc D 167 26 ls (vr (q_tr 8) :: st) u bb σ Q := r_ldcS (idx := 141) (by decide +kernel)
theorem k167_26 : qx sc (D + 1) 167 26 ls [vr a0, vr 136] (0, 0) bb σ Q ↔ qx sc D 169 0 [vr 136, vr a0, vn, vn] [] (0, 0) bb σ (q_kn sc (D + 1) 167 29 ls [] (0, 0) Q) := r_callv (idx := 107) (n := 1) (m := 4) (by decide +kernel) rfl (Nat.le_of_ble_eq_true rfl) ⟨Nat.le_of_ble_eq_true rfl, Nat.le_of_ble_eq_true rfl, rfl⟩ rfl
theorem k167_29 : qx sc D 167 29 ls (vi x :: st) u bb σ Q ↔ (x = 0 → qx sc D 167 32 ls st u bb σ Q) ∧ (¬ (x = 0) → qx sc D 167 41 ls st u bb σ Q) := r_if_ne (off := 12) (t := 41) (by decide +kernel)
theorem k167_32 : qx sc D 167 32 [vr a] st u bb σ Q ↔ qx sc D 167 33 [vr a] (vr a :: st) u bb σ Q := r_aload_n (k := 0) (by decide +kernel) rfl
theorem k167_33 : qx sc D 167 33 ls st u bb σ Q ↔ qx sc D 167 35 ls (vr (q_tr 9) :: st) u bb σ Q := r_ldcS (idx := 143) (by decide +kernel)
theorem k167_35 : qx sc (D + 1) 167 35 ls [vr a0, vr 136] (0, 0) bb σ Q ↔ qx sc D 169 0 [vr 136, vr a0, vn, vn] [] (0, 0) bb σ (q_kn sc (D + 1) 167 38 ls [] (0, 0) Q) := r_callv (idx := 107) (n := 1) (m := 4) (by decide +kernel) rfl (Nat.le_of_ble_eq_true rfl) ⟨Nat.le_of_ble_eq_true rfl, Nat.le_of_ble_eq_true rfl, rfl⟩ rfl
theorem k167_38 : qx sc D 167 38 ls (vi x :: st) u bb σ Q ↔ (x = 0 → qx sc D 167 45 ls st u bb σ Q) ∧ (¬ (x = 0) → qx sc D 167 41 ls st u bb σ Q) := r_if_eq (off := 7) (t := 45) (by decide +kernel)
theorem k167_41 : qx sc D 167 41 ls st u bb σ Q ↔ qx sc D 167 42 ls (vi 1 :: st) u bb σ Q := r_iconst (by decide +kernel)
theorem k167_42 : qx sc D 167 42 ls st u bb σ Q ↔ qx sc D 167 46 ls st u bb σ Q := r_goto (off := 4) (by decide +kernel)
theorem k167_45 : qx sc D 167 45 ls st u bb σ Q ↔ qx sc D 167 46 ls (vi 0 :: st) u bb σ Q := r_iconst (by decide +kernel)
theorem k167_46 : qx sc D 167 46 ls [vi x] (0, 0) bb σ Q ↔ (x = 0 ∨ x = 1) ∧ Q (.inl (some (vi x))) bb σ := r_retB (by decide +kernel)
-- 168: RowProverModel.isVariable()Z
theorem k168_0 : qx sc D 168 0 [vr a] st u bb σ Q ↔ qx sc D 168 1 [vr a] (vr a :: st) u bb σ Q := r_aload_n (k := 0) (by decide +kernel) rfl
theorem k168_1 : qx sc (D + 1) 168 1 ls [vr 136] (0, 0) bb σ Q ↔ qx sc D 154 0 [vr 136] [] (0, 0) bb σ (q_kn sc (D + 1) 168 4 ls [] (0, 0) Q) := r_callv (idx := 83) (n := 0) (m := 1) (by decide +kernel) rfl (Nat.le_of_ble_eq_true rfl) ⟨Nat.le_of_ble_eq_true rfl, Nat.le_of_ble_eq_true rfl, rfl⟩ rfl
theorem k168_4 : qx sc D 168 4 ls (vi x :: st) u bb σ Q ↔ (x = 0 → qx sc D 168 7 ls st u bb σ Q) ∧ (¬ (x = 0) → qx sc D 168 33 ls st u bb σ Q) := r_if_ne (off := 29) (t := 33) (by decide +kernel)
theorem k168_7 : qx sc D 168 7 [vr a] st u bb σ Q ↔ qx sc D 168 8 [vr a] (vr a :: st) u bb σ Q := r_aload_n (k := 0) (by decide +kernel) rfl
theorem k168_8 : qx sc (D + 1) 168 8 ls [vr 136] (0, 0) bb σ Q ↔ qx sc D 231 0 [vr 136, vn] [] (0, 0) bb σ (q_kn sc (D + 1) 168 11 ls [] (0, 0) Q) := r_callv (idx := 94) (n := 0) (m := 2) (by decide +kernel) rfl (Nat.le_of_ble_eq_true rfl) ⟨Nat.le_of_ble_eq_true rfl, Nat.le_of_ble_eq_true rfl, rfl⟩ rfl
theorem k168_11 : qx sc D 168 11 ls st u bb σ Q ↔ qx sc D 168 12 ls (vi 1 :: st) u bb σ Q := r_iconst (by decide +kernel)
theorem k168_12 : qx sc D 168 12 ls (vi b' :: vi a' :: st) u bb σ Q ↔ (a' = b' → qx sc D 168 15 ls st u bb σ Q) ∧ (¬ (a' = b') → qx sc D 168 33 ls st u bb σ Q) := r_ic_ne (off := 21) (t := 33) (by decide +kernel)
theorem k168_15 : qx sc D 168 15 [vr a] st u bb σ Q ↔ qx sc D 168 16 [vr a] (vr a :: st) u bb σ Q := r_aload_n (k := 0) (by decide +kernel) rfl
theorem k168_16 : qx sc D 168 16 ls (vr 136 :: st) u bb σ Q ↔ qx sc D 168 19 ls (vr 139 :: st) u bb σ Q := r_getR (idx := 69) (c := 15) (k := 4) (by decide +kernel)
theorem k168_19 : qx sc D 168 19 [vr a] st u bb σ Q ↔ qx sc D 168 20 [vr a] (vr a :: st) u bb σ Q := r_aload_n (k := 0) (by decide +kernel) rfl
theorem k168_20 : qx sc D 168 20 ls (vr 136 :: st) u bb σ Q ↔ qx sc D 168 23 ls (vi (σ 136 8) :: st) u bb σ Q := r_getI (idx := 63) (c := 15) (k := 8) (by decide +kernel)
theorem k168_23 : qx sc D 168 23 ls (vi i :: vr a :: st) u bb σ Q ↔ ((q_ty a = 1 ∨ q_ty a = 2) ∧ 0 ≤ i ∧ i < q_ln a) ∧ qx sc D 168 24 ls (vi (σ a i) :: st) u bb σ Q := r_bald (by decide +kernel)
theorem k168_24 : qx sc D 168 24 ls st u bb σ Q ↔ qx sc D 168 26 ls (vi 104 :: st) u bb σ Q := r_bipush (by decide +kernel)
theorem k168_26 : qx sc D 168 26 ls (vi b' :: vi a' :: st) u bb σ Q ↔ (b' < a' → qx sc D 168 33 ls st u bb σ Q) ∧ (¬ (b' < a') → qx sc D 168 29 ls st u bb σ Q) := r_ic_gt (off := 7) (t := 33) (by decide +kernel)
theorem k168_29 : qx sc D 168 29 ls st u bb σ Q ↔ qx sc D 168 30 ls (vi 1 :: st) u bb σ Q := r_iconst (by decide +kernel)
theorem k168_30 : qx sc D 168 30 ls st u bb σ Q ↔ qx sc D 168 34 ls st u bb σ Q := r_goto (off := 4) (by decide +kernel)
theorem k168_33 : qx sc D 168 33 ls st u bb σ Q ↔ qx sc D 168 34 ls (vi 0 :: st) u bb σ Q := r_iconst (by decide +kernel)
theorem k168_34 : qx sc D 168 34 ls [vi x] (0, 0) bb σ Q ↔ (x = 0 ∨ x = 1) ∧ Q (.inl (some (vi x))) bb σ := r_retB (by decide +kernel)
-- 169: RowProverModel.isWord(Ljava/lang/String;)Z
theorem k169_0 : qx sc D 169 0 [vr a, l1, l2, l3] st u bb σ Q ↔ qx sc D 169 1 [vr a, l1, l2, l3] (vr a :: st) u bb σ Q := r_aload_n (k := 0) (by decide +kernel) rfl
theorem k169_1 : qx sc (D + 1) 169 1 ls [vr 136] (0, 0) bb σ Q ↔ qx sc D 154 0 [vr 136] [] (0, 0) bb σ (q_kn sc (D + 1) 169 4 ls [] (0, 0) Q) := r_callv (idx := 83) (n := 0) (m := 1) (by decide +kernel) rfl (Nat.le_of_ble_eq_true rfl) ⟨Nat.le_of_ble_eq_true rfl, Nat.le_of_ble_eq_true rfl, rfl⟩ rfl
theorem k169_4 : qx sc D 169 4 ls (vi x :: st) u bb σ Q ↔ (x = 0 → qx sc D 169 7 ls st u bb σ Q) ∧ (¬ (x = 0) → qx sc D 169 22 ls st u bb σ Q) := r_if_ne (off := 18) (t := 22) (by decide +kernel)
theorem k169_7 : qx sc D 169 7 [vr a, l1, l2, l3] st u bb σ Q ↔ qx sc D 169 8 [vr a, l1, l2, l3] (vr a :: st) u bb σ Q := r_aload_n (k := 0) (by decide +kernel) rfl
theorem k169_8 : qx sc (D + 1) 169 8 ls [vr 136] (0, 0) bb σ Q ↔ qx sc D 231 0 [vr 136, vn] [] (0, 0) bb σ (q_kn sc (D + 1) 169 11 ls [] (0, 0) Q) := r_callv (idx := 94) (n := 0) (m := 2) (by decide +kernel) rfl (Nat.le_of_ble_eq_true rfl) ⟨Nat.le_of_ble_eq_true rfl, Nat.le_of_ble_eq_true rfl, rfl⟩ rfl
theorem k169_11 : qx sc D 169 11 [l0, vr a, l2, l3] st u bb σ Q ↔ qx sc D 169 12 [l0, vr a, l2, l3] (vr a :: st) u bb σ Q := r_aload_n (k := 1) (by decide +kernel) rfl
theorem k169_12 (hj : b < 12) : qx sc D 169 12 ls [vr (q_tr b), vi x20] (0, 0) bb σ Q ↔ qx sc D 169 15 ls [vi ((pm_tx.getD b []).length : Nat), vi x20] (0, 0) bb σ Q := r_slen (idx := 98) (y' := 0) (by decide +kernel) hj (Nat.le_of_ble_eq_true rfl) (Nat.le_of_ble_eq_true rfl)
theorem k169_15 : qx sc D 169 15 ls (vi b' :: vi a' :: st) u bb σ Q ↔ (a' = b' → qx sc D 169 18 ls st u bb σ Q) ∧ (¬ (a' = b') → qx sc D 169 22 ls st u bb σ Q) := r_ic_ne (off := 7) (t := 22) (by decide +kernel)
theorem k169_18 : qx sc D 169 18 ls st u bb σ Q ↔ qx sc D 169 19 ls (vi 1 :: st) u bb σ Q := r_iconst (by decide +kernel)
theorem k169_19 : qx sc D 169 19 ls st u bb σ Q ↔ qx sc D 169 23 ls st u bb σ Q := r_goto (off := 4) (by decide +kernel)
theorem k169_22 : qx sc D 169 22 ls st u bb σ Q ↔ qx sc D 169 23 ls (vi 0 :: st) u bb σ Q := r_iconst (by decide +kernel)
theorem k169_23 : qx sc D 169 23 [l0, l1, l2, l3] (vi x :: st) u bb σ Q ↔ qx sc D 169 24 [l0, l1, vi x, l3] st u bb σ Q := r_istore_n (k := 2) (by decide +kernel) (Nat.le_of_ble_eq_true rfl)
theorem k169_24 : qx sc D 169 24 ls st u bb σ Q ↔ qx sc D 169 25 ls (vi 0 :: st) u bb σ Q := r_iconst (by decide +kernel)
theorem k169_25 : qx sc D 169 25 [l0, l1, l2, l3] (vi x :: st) u bb σ Q ↔ qx sc D 169 26 [l0, l1, l2, vi x] st u bb σ Q := r_istore_n (k := 3) (by decide +kernel) (Nat.le_of_ble_eq_true rfl)
theorem k169_26 : qx sc D 169 26 [l0, l1, vi x, l3] st u bb σ Q ↔ qx sc D 169 27 [l0, l1, vi x, l3] (vi x :: st) u bb σ Q := r_iload_n (k := 2) (by decide +kernel) rfl
theorem k169_27 : qx sc D 169 27 ls (vi x :: st) u bb σ Q ↔ (x = 0 → qx sc D 169 69 ls st u bb σ Q) ∧ (¬ (x = 0) → qx sc D 169 30 ls st u bb σ Q) := r_if_eq (off := 42) (t := 69) (by decide +kernel)
theorem k169_30 : qx sc D 169 30 [l0, l1, l2, vi x] st u bb σ Q ↔ qx sc D 169 31 [l0, l1, l2, vi x] (vi x :: st) u bb σ Q := r_iload_n (k := 3) (by decide +kernel) rfl
theorem k169_31 : qx sc D 169 31 [l0, vr a, l2, l3] st u bb σ Q ↔ qx sc D 169 32 [l0, vr a, l2, l3] (vr a :: st) u bb σ Q := r_aload_n (k := 1) (by decide +kernel) rfl
theorem k169_32 (hj : b < 12) : qx sc D 169 32 ls [vr (q_tr b), vi x20] (0, 0) bb σ Q ↔ qx sc D 169 35 ls [vi ((pm_tx.getD b []).length : Nat), vi x20] (0, 0) bb σ Q := r_slen (idx := 98) (y' := 0) (by decide +kernel) hj (Nat.le_of_ble_eq_true rfl) (Nat.le_of_ble_eq_true rfl)
theorem k169_35 : qx sc D 169 35 ls (vi b' :: vi a' :: st) u bb σ Q ↔ (a' < b' → qx sc D 169 38 ls st u bb σ Q) ∧ (¬ (a' < b') → qx sc D 169 69 ls st u bb σ Q) := r_ic_ge (off := 34) (t := 69) (by decide +kernel)
theorem k169_38 : qx sc D 169 38 [vr a, l1, l2, l3] st u bb σ Q ↔ qx sc D 169 39 [vr a, l1, l2, l3] (vr a :: st) u bb σ Q := r_aload_n (k := 0) (by decide +kernel) rfl
theorem k169_39 : qx sc D 169 39 ls (vr 136 :: st) u bb σ Q ↔ qx sc D 169 42 ls (vr 139 :: st) u bb σ Q := r_getR (idx := 69) (c := 15) (k := 4) (by decide +kernel)
theorem k169_42 : qx sc D 169 42 [vr a, l1, l2, l3] st u bb σ Q ↔ qx sc D 169 43 [vr a, l1, l2, l3] (vr a :: st) u bb σ Q := r_aload_n (k := 0) (by decide +kernel) rfl
theorem k169_43 : qx sc D 169 43 ls (vr 136 :: st) u bb σ Q ↔ qx sc D 169 46 ls (vi (σ 136 8) :: st) u bb σ Q := r_getI (idx := 63) (c := 15) (k := 8) (by decide +kernel)
theorem k169_46 : qx sc D 169 46 [l0, l1, l2, vi x] st u bb σ Q ↔ qx sc D 169 47 [l0, l1, l2, vi x] (vi x :: st) u bb σ Q := r_iload_n (k := 3) (by decide +kernel) rfl
theorem k169_47 : qx sc D 169 47 ls (vi b' :: vi a' :: st) u bb σ Q ↔ q_R (a' + b') ∧ qx sc D 169 48 ls (vi (a' + b') :: st) u bb σ Q := r_iadd (by decide +kernel)
theorem k169_48 : qx sc D 169 48 ls (vi i :: vr a :: st) u bb σ Q ↔ ((q_ty a = 1 ∨ q_ty a = 2) ∧ 0 ≤ i ∧ i < q_ln a) ∧ qx sc D 169 49 ls (vi (σ a i) :: st) u bb σ Q := r_bald (by decide +kernel)
theorem k169_49 : qx sc D 169 49 [l0, vr a, l2, l3] st u bb σ Q ↔ qx sc D 169 50 [l0, vr a, l2, l3] (vr a :: st) u bb σ Q := r_aload_n (k := 1) (by decide +kernel) rfl
theorem k169_50 : qx sc D 169 50 [l0, l1, l2, vi x] st u bb σ Q ↔ qx sc D 169 51 [l0, l1, l2, vi x] (vi x :: st) u bb σ Q := r_iload_n (k := 3) (by decide +kernel) rfl
theorem k169_51 (hj : b < 12) : qx sc D 169 51 ls [vi i, vr (q_tr b), vi x20] (0, 0) bb σ Q ↔ (0 ≤ i ∧ i < ((pm_tx.getD b []).length : Nat)) ∧ qx sc D 169 54 ls [vi ((pm_tx.getD b []).getD i.toNat 0 : Nat), vi x20] (0, 0) bb σ Q := r_char (idx := 103) (y' := 0) (by decide +kernel) hj (Nat.le_of_ble_eq_true rfl) (Nat.le_of_ble_eq_true rfl)
theorem k169_54 : qx sc D 169 54 ls (vi b' :: vi a' :: st) u bb σ Q ↔ (a' = b' → qx sc D 169 57 ls st u bb σ Q) ∧ (¬ (a' = b') → qx sc D 169 61 ls st u bb σ Q) := r_ic_ne (off := 7) (t := 61) (by decide +kernel)
theorem k169_57 : qx sc D 169 57 ls st u bb σ Q ↔ qx sc D 169 58 ls (vi 1 :: st) u bb σ Q := r_iconst (by decide +kernel)
theorem k169_58 : qx sc D 169 58 ls st u bb σ Q ↔ qx sc D 169 62 ls st u bb σ Q := r_goto (off := 4) (by decide +kernel)
theorem k169_61 : qx sc D 169 61 ls st u bb σ Q ↔ qx sc D 169 62 ls (vi 0 :: st) u bb σ Q := r_iconst (by decide +kernel)
theorem k169_62 : qx sc D 169 62 [l0, l1, l2, l3] (vi x :: st) u bb σ Q ↔ qx sc D 169 63 [l0, l1, vi x, l3] st u bb σ Q := r_istore_n (k := 2) (by decide +kernel) (Nat.le_of_ble_eq_true rfl)
theorem k169_63 : qx sc D 169 63 [l0, l1, l2, vi x] st u bb σ Q ↔ q_R (x + 1) ∧ qx sc D 169 66 [l0, l1, l2, vi (x + 1)] st u bb σ Q := r_iinc (k := 3) (n := 1) (by decide +kernel) rfl
theorem k169_66 : qx sc D 169 66 ls st u bb σ Q ↔ qx sc D 169 26 ls st u bb σ Q := r_goto (off := (-40)) (by decide +kernel)
theorem k169_69 : qx sc D 169 69 [l0, l1, vi x, l3] st u bb σ Q ↔ qx sc D 169 70 [l0, l1, vi x, l3] (vi x :: st) u bb σ Q := r_iload_n (k := 2) (by decide +kernel) rfl
theorem k169_70 : qx sc D 169 70 ls [vi x] (0, 0) bb σ Q ↔ (x = 0 ∨ x = 1) ∧ Q (.inl (some (vi x))) bb σ := r_retB (by decide +kernel)
-- 170: RowProverModel.keepsNow()I
theorem k170_0 : qx sc D 170 0 [vr a, l1, l2] st u bb σ Q ↔ qx sc D 170 1 [vr a, l1, l2] (vr a :: st) u bb σ Q := r_aload_n (k := 0) (by decide +kernel) rfl
theorem k170_1 : qx sc D 170 1 ls (vr 136 :: st) u bb σ Q ↔ qx sc D 170 4 ls (vi (σ 136 51) :: st) u bb σ Q := r_getI (idx := 245) (c := 15) (k := 51) (by decide +kernel)
theorem k170_4 : qx sc D 170 4 [l0, l1, l2] (vi x :: st) u bb σ Q ↔ qx sc D 170 5 [l0, vi x, l2] st u bb σ Q := r_istore_n (k := 1) (by decide +kernel) (Nat.le_of_ble_eq_true rfl)
theorem k170_5 : qx sc D 170 5 ls st u bb σ Q ↔ qx sc D 170 6 ls (vi 0 :: st) u bb σ Q := r_iconst (by decide +kernel)
theorem k170_6 : qx sc D 170 6 [l0, l1, l2] (vi x :: st) u bb σ Q ↔ qx sc D 170 7 [l0, l1, vi x] st u bb σ Q := r_istore_n (k := 2) (by decide +kernel) (Nat.le_of_ble_eq_true rfl)
theorem k170_7 : qx sc D 170 7 [l0, l1, vi x] st u bb σ Q ↔ qx sc D 170 8 [l0, l1, vi x] (vi x :: st) u bb σ Q := r_iload_n (k := 2) (by decide +kernel) rfl
theorem k170_8 : qx sc D 170 8 ls st u bb σ Q ↔ qx sc D 170 10 ls (vi 8 :: st) u bb σ Q := r_bipush (by decide +kernel)
theorem k170_10 : qx sc D 170 10 ls (vi b' :: vi a' :: st) u bb σ Q ↔ (a' < b' → qx sc D 170 13 ls st u bb σ Q) ∧ (¬ (a' < b') → qx sc D 170 33 ls st u bb σ Q) := r_ic_ge (off := 23) (t := 33) (by decide +kernel)
theorem k170_13 : qx sc D 170 13 [vr a, l1, l2] st u bb σ Q ↔ qx sc D 170 14 [vr a, l1, l2] (vr a :: st) u bb σ Q := r_aload_n (k := 0) (by decide +kernel) rfl
theorem k170_14 : qx sc D 170 14 ls (vr 136 :: st) u bb σ Q ↔ qx sc D 170 17 ls (vr 172 :: st) u bb σ Q := r_getR (idx := 248) (c := 15) (k := 50) (by decide +kernel)
theorem k170_17 : qx sc D 170 17 [l0, vi x, l2] st u bb σ Q ↔ qx sc D 170 18 [l0, vi x, l2] (vi x :: st) u bb σ Q := r_iload_n (k := 1) (by decide +kernel) rfl
theorem k170_18 : qx sc D 170 18 [l0, l1, vi x] st u bb σ Q ↔ qx sc D 170 19 [l0, l1, vi x] (vi x :: st) u bb σ Q := r_iload_n (k := 2) (by decide +kernel) rfl
theorem k170_19 : qx sc D 170 19 ls (vi b' :: vi a' :: st) u bb σ Q ↔ q_R (a' + b') ∧ qx sc D 170 20 ls (vi (a' + b') :: st) u bb σ Q := r_iadd (by decide +kernel)
theorem k170_20 : qx sc D 170 20 [vr a, l1, l2] st u bb σ Q ↔ qx sc D 170 21 [vr a, l1, l2] (vr a :: st) u bb σ Q := r_aload_n (k := 0) (by decide +kernel) rfl
theorem k170_21 : qx sc D 170 21 ls (vr 136 :: st) u bb σ Q ↔ qx sc D 170 24 ls (vr 171 :: st) u bb σ Q := r_getR (idx := 57) (c := 15) (k := 48) (by decide +kernel)
theorem k170_24 : qx sc D 170 24 [l0, l1, vi x] st u bb σ Q ↔ qx sc D 170 25 [l0, l1, vi x] (vi x :: st) u bb σ Q := r_iload_n (k := 2) (by decide +kernel) rfl
theorem k170_25 : qx sc D 170 25 ls (vi i :: vr a :: st) u bb σ Q ↔ (q_ty a = 0 ∧ 0 ≤ i ∧ i < q_ln a) ∧ qx sc D 170 26 ls (vi (σ a i) :: st) u bb σ Q := r_iald (by decide +kernel)
theorem k170_26 : qx sc D 170 26 ls (vi x :: vi i :: vr a :: st) u bb σ Q ↔ (q_ty a = 0 ∧ 0 ≤ i ∧ i < q_ln a) ∧ qx sc D 170 27 ls st u bb (q_up σ a i x) Q := r_iast (by decide +kernel)
theorem k170_27 : qx sc D 170 27 [l0, l1, vi x] st u bb σ Q ↔ q_R (x + 1) ∧ qx sc D 170 30 [l0, l1, vi (x + 1)] st u bb σ Q := r_iinc (k := 2) (n := 1) (by decide +kernel) rfl
theorem k170_30 : qx sc D 170 30 ls st u bb σ Q ↔ qx sc D 170 7 ls st u bb σ Q := r_goto (off := (-23)) (by decide +kernel)
theorem k170_33 : qx sc D 170 33 [vr a, l1, l2] st u bb σ Q ↔ qx sc D 170 34 [vr a, l1, l2] (vr a :: st) u bb σ Q := r_aload_n (k := 0) (by decide +kernel) rfl
theorem k170_34 : qx sc D 170 34 ls (vr a :: st) u bb σ Q ↔ qx sc D 170 35 ls (vr a :: vr a :: st) u bb σ Q := r_dupA (by decide +kernel)
theorem k170_35 : qx sc D 170 35 ls (vr 136 :: st) u bb σ Q ↔ qx sc D 170 38 ls (vi (σ 136 51) :: st) u bb σ Q := r_getI (idx := 245) (c := 15) (k := 51) (by decide +kernel)
theorem k170_38 : qx sc D 170 38 ls st u bb σ Q ↔ qx sc D 170 40 ls (vi 8 :: st) u bb σ Q := r_bipush (by decide +kernel)
theorem k170_40 : qx sc D 170 40 ls (vi b' :: vi a' :: st) u bb σ Q ↔ q_R (a' + b') ∧ qx sc D 170 41 ls (vi (a' + b') :: st) u bb σ Q := r_iadd (by decide +kernel)
theorem k170_41 : qx sc D 170 41 ls (vi x :: vr 136 :: st) u bb σ Q ↔ qx sc D 170 44 ls st u bb (q_up σ 136 51 x) Q := r_putI (idx := 245) (c := 15) (k := 51) (by decide +kernel)
theorem k170_44 : qx sc D 170 44 [l0, vi x, l2] st u bb σ Q ↔ qx sc D 170 45 [l0, vi x, l2] (vi x :: st) u bb σ Q := r_iload_n (k := 1) (by decide +kernel) rfl
theorem k170_45 : qx sc D 170 45 ls [vi x] (0, 0) bb σ Q ↔ Q (.inl (some (vi x))) bb σ := r_ret (by decide +kernel)
-- 171: RowProverModel.knows()V
theorem k171_0 : qx sc D 171 0 [vr a, l1, l2] st u bb σ Q ↔ qx sc D 171 1 [vr a, l1, l2] (vr a :: st) u bb σ Q := r_aload_n (k := 0) (by decide +kernel) rfl
theorem k171_1 : qx sc D 171 1 ls st u bb σ Q ↔ qx sc D 171 2 ls (vi (-1) :: st) u bb σ Q := r_iconst (by decide +kernel)
theorem k171_2 : qx sc (D + 1) 171 2 ls [vi x0, vr 136] (0, 0) bb σ Q ↔ qx sc D 135 0 [vr 136, vi x0, vn] [] (0, 0) bb σ (q_kn sc (D + 1) 171 5 ls [] (0, 0) Q) := r_callv (idx := 418) (n := 1) (m := 3) (by decide +kernel) rfl (Nat.le_of_ble_eq_true rfl) ⟨Nat.le_of_ble_eq_true rfl, Nat.le_of_ble_eq_true rfl, rfl⟩ rfl
theorem k171_5 : qx sc D 171 5 [vr a, l1, l2] st u bb σ Q ↔ qx sc D 171 6 [vr a, l1, l2] (vr a :: st) u bb σ Q := r_aload_n (k := 0) (by decide +kernel) rfl
theorem k171_6 : qx sc (D + 1) 171 6 ls [vr 136] (0, 0) bb σ Q ↔ qx sc D 174 0 [vr 136, vn, vn, vn] [] (0, 0) bb σ (q_kn sc (D + 1) 171 9 ls [] (0, 0) Q) := r_callv (idx := 421) (n := 0) (m := 4) (by decide +kernel) rfl (Nat.le_of_ble_eq_true rfl) ⟨Nat.le_of_ble_eq_true rfl, Nat.le_of_ble_eq_true rfl, rfl⟩ rfl
theorem k171_9 : qx sc D 171 9 ls st u bb σ Q ↔ qx sc D 171 10 ls (vi 0 :: st) u bb σ Q := r_iconst (by decide +kernel)
theorem k171_10 : qx sc D 171 10 [l0, l1, l2] (vi x :: st) u bb σ Q ↔ qx sc D 171 11 [l0, vi x, l2] st u bb σ Q := r_istore_n (k := 1) (by decide +kernel) (Nat.le_of_ble_eq_true rfl)
theorem k171_11 : qx sc D 171 11 [l0, vi x, l2] st u bb σ Q ↔ qx sc D 171 12 [l0, vi x, l2] (vi x :: st) u bb σ Q := r_iload_n (k := 1) (by decide +kernel) rfl
theorem k171_12 : qx sc D 171 12 [vr a, l1, l2] st u bb σ Q ↔ qx sc D 171 13 [vr a, l1, l2] (vr a :: st) u bb σ Q := r_aload_n (k := 0) (by decide +kernel) rfl
theorem k171_13 : qx sc D 171 13 ls (vr 136 :: st) u bb σ Q ↔ qx sc D 171 16 ls (vi (σ 136 16) :: st) u bb σ Q := r_getI (idx := 193) (c := 15) (k := 16) (by decide +kernel)
theorem k171_16 : qx sc D 171 16 ls (vi b' :: vi a' :: st) u bb σ Q ↔ (a' < b' → qx sc D 171 19 ls st u bb σ Q) ∧ (¬ (a' < b') → qx sc D 171 113 ls st u bb σ Q) := r_ic_ge (off := 97) (t := 113) (by decide +kernel)
theorem k171_19 : qx sc D 171 19 [vr a, l1, l2] st u bb σ Q ↔ qx sc D 171 20 [vr a, l1, l2] (vr a :: st) u bb σ Q := r_aload_n (k := 0) (by decide +kernel) rfl
theorem k171_20 : qx sc D 171 20 ls (vr 136 :: st) u bb σ Q ↔ qx sc D 171 23 ls (vr 178 :: st) u bb σ Q := r_getR (idx := 325) (c := 15) (k := 59) (by decide +kernel)
theorem k171_23 : qx sc D 171 23 [l0, vi x, l2] st u bb σ Q ↔ qx sc D 171 24 [l0, vi x, l2] (vi x :: st) u bb σ Q := r_iload_n (k := 1) (by decide +kernel) rfl
theorem k171_24 : qx sc D 171 24 [vr a, l1, l2] st u bb σ Q ↔ qx sc D 171 25 [vr a, l1, l2] (vr a :: st) u bb σ Q := r_aload_n (k := 0) (by decide +kernel) rfl
theorem k171_25 : qx sc D 171 25 [l0, vi x, l2] st u bb σ Q ↔ qx sc D 171 26 [l0, vi x, l2] (vi x :: st) u bb σ Q := r_iload_n (k := 1) (by decide +kernel) rfl
theorem k171_26 : qx sc D 171 26 ls st u bb σ Q ↔ qx sc D 171 27 ls (vi 0 :: st) u bb σ Q := r_iconst (by decide +kernel)
theorem k171_27 : qx sc (D + 1) 171 27 ls [vi x1, vi x0, vr 136, vi x20, vr a21] (0, 0) bb σ Q ↔ qx sc D 165 0 [vr 136, vi x0, vi x1, vn] [] (0, 0) bb σ (q_kn sc (D + 1) 171 30 ls [vi x20, vr a21] (0, 0) Q) := r_callv (idx := 408) (n := 2) (m := 4) (by decide +kernel) rfl (Nat.le_of_ble_eq_true rfl) ⟨Nat.le_of_ble_eq_true rfl, Nat.le_of_ble_eq_true rfl, rfl⟩ rfl
theorem k171_30 : qx sc D 171 30 ls (vi x :: vi i :: vr a :: st) u bb σ Q ↔ (((q_ty a = 1 ∧ -128 ≤ x ∧ x ≤ 127) ∨ (q_ty a = 2 ∧ (x = 0 ∨ x = 1))) ∧ 0 ≤ i ∧ i < q_ln a) ∧ qx sc D 171 31 ls st u bb (q_up σ a i x) Q := r_bast (by decide +kernel)
theorem k171_31 : qx sc D 171 31 [vr a, l1, l2] st u bb σ Q ↔ qx sc D 171 32 [vr a, l1, l2] (vr a :: st) u bb σ Q := r_aload_n (k := 0) (by decide +kernel) rfl
theorem k171_32 : qx sc D 171 32 ls (vr 136 :: st) u bb σ Q ↔ qx sc D 171 35 ls (vr 179 :: st) u bb σ Q := r_getR (idx := 329) (c := 15) (k := 60) (by decide +kernel)
theorem k171_35 : qx sc D 171 35 [l0, vi x, l2] st u bb σ Q ↔ qx sc D 171 36 [l0, vi x, l2] (vi x :: st) u bb σ Q := r_iload_n (k := 1) (by decide +kernel) rfl
theorem k171_36 : qx sc D 171 36 [vr a, l1, l2] st u bb σ Q ↔ qx sc D 171 37 [vr a, l1, l2] (vr a :: st) u bb σ Q := r_aload_n (k := 0) (by decide +kernel) rfl
theorem k171_37 : qx sc D 171 37 [l0, vi x, l2] st u bb σ Q ↔ qx sc D 171 38 [l0, vi x, l2] (vi x :: st) u bb σ Q := r_iload_n (k := 1) (by decide +kernel) rfl
theorem k171_38 : qx sc D 171 38 ls st u bb σ Q ↔ qx sc D 171 39 ls (vi 1 :: st) u bb σ Q := r_iconst (by decide +kernel)
theorem k171_39 : qx sc (D + 1) 171 39 ls [vi x1, vi x0, vr 136, vi x20, vr a21] (0, 0) bb σ Q ↔ qx sc D 165 0 [vr 136, vi x0, vi x1, vn] [] (0, 0) bb σ (q_kn sc (D + 1) 171 42 ls [vi x20, vr a21] (0, 0) Q) := r_callv (idx := 408) (n := 2) (m := 4) (by decide +kernel) rfl (Nat.le_of_ble_eq_true rfl) ⟨Nat.le_of_ble_eq_true rfl, Nat.le_of_ble_eq_true rfl, rfl⟩ rfl
theorem k171_42 : qx sc D 171 42 ls (vi x :: vi i :: vr a :: st) u bb σ Q ↔ (((q_ty a = 1 ∧ -128 ≤ x ∧ x ≤ 127) ∨ (q_ty a = 2 ∧ (x = 0 ∨ x = 1))) ∧ 0 ≤ i ∧ i < q_ln a) ∧ qx sc D 171 43 ls st u bb (q_up σ a i x) Q := r_bast (by decide +kernel)
theorem k171_43 : qx sc D 171 43 [vr a, l1, l2] st u bb σ Q ↔ qx sc D 171 44 [vr a, l1, l2] (vr a :: st) u bb σ Q := r_aload_n (k := 0) (by decide +kernel) rfl
theorem k171_44 : qx sc D 171 44 ls (vr 136 :: st) u bb σ Q ↔ qx sc D 171 47 ls (vr 178 :: st) u bb σ Q := r_getR (idx := 325) (c := 15) (k := 59) (by decide +kernel)
theorem k171_47 : qx sc D 171 47 [l0, vi x, l2] st u bb σ Q ↔ qx sc D 171 48 [l0, vi x, l2] (vi x :: st) u bb σ Q := r_iload_n (k := 1) (by decide +kernel) rfl
theorem k171_48 : qx sc D 171 48 ls (vi i :: vr a :: st) u bb σ Q ↔ ((q_ty a = 1 ∨ q_ty a = 2) ∧ 0 ≤ i ∧ i < q_ln a) ∧ qx sc D 171 49 ls (vi (σ a i) :: st) u bb σ Q := r_bald (by decide +kernel)
theorem k171_49 : qx sc D 171 49 ls (vi x :: st) u bb σ Q ↔ (x = 0 → qx sc D 171 61 ls st u bb σ Q) ∧ (¬ (x = 0) → qx sc D 171 52 ls st u bb σ Q) := r_if_eq (off := 12) (t := 61) (by decide +kernel)
theorem k171_52 : qx sc D 171 52 [vr a, l1, l2] st u bb σ Q ↔ qx sc D 171 53 [vr a, l1, l2] (vr a :: st) u bb σ Q := r_aload_n (k := 0) (by decide +kernel) rfl
theorem k171_53 : qx sc D 171 53 ls (vr 136 :: st) u bb σ Q ↔ qx sc D 171 56 ls (vr 179 :: st) u bb σ Q := r_getR (idx := 329) (c := 15) (k := 60) (by decide +kernel)
theorem k171_56 : qx sc D 171 56 [l0, vi x, l2] st u bb σ Q ↔ qx sc D 171 57 [l0, vi x, l2] (vi x :: st) u bb σ Q := r_iload_n (k := 1) (by decide +kernel) rfl
theorem k171_57 : qx sc D 171 57 ls (vi i :: vr a :: st) u bb σ Q ↔ ((q_ty a = 1 ∨ q_ty a = 2) ∧ 0 ≤ i ∧ i < q_ln a) ∧ qx sc D 171 58 ls (vi (σ a i) :: st) u bb σ Q := r_bald (by decide +kernel)
theorem k171_58 : qx sc D 171 58 ls (vi x :: st) u bb σ Q ↔ (x = 0 → qx sc D 171 61 ls st u bb σ Q) ∧ (¬ (x = 0) → qx sc D 171 65 ls st u bb σ Q) := r_if_ne (off := 7) (t := 65) (by decide +kernel)
theorem k171_61 : qx sc D 171 61 ls st u bb σ Q ↔ qx sc D 171 62 ls (vi 1 :: st) u bb σ Q := r_iconst (by decide +kernel)
theorem k171_62 : qx sc D 171 62 ls st u bb σ Q ↔ qx sc D 171 66 ls st u bb σ Q := r_goto (off := 4) (by decide +kernel)
theorem k171_65 : qx sc D 171 65 ls st u bb σ Q ↔ qx sc D 171 66 ls (vi 0 :: st) u bb σ Q := r_iconst (by decide +kernel)
theorem k171_66 : qx sc D 171 66 [l0, l1, l2] (vi x :: st) u bb σ Q ↔ qx sc D 171 67 [l0, l1, vi x] st u bb σ Q := r_istore_n (k := 2) (by decide +kernel) (Nat.le_of_ble_eq_true rfl)
theorem k171_67 : qx sc D 171 67 [vr a, l1, l2] st u bb σ Q ↔ qx sc D 171 68 [vr a, l1, l2] (vr a :: st) u bb σ Q := r_aload_n (k := 0) (by decide +kernel) rfl
theorem k171_68 : qx sc D 171 68 ls (vr 136 :: st) u bb σ Q ↔ qx sc D 171 71 ls (vr 176 :: st) u bb σ Q := r_getR (idx := 319) (c := 15) (k := 57) (by decide +kernel)
theorem k171_71 : qx sc D 171 71 [l0, vi x, l2] st u bb σ Q ↔ qx sc D 171 72 [l0, vi x, l2] (vi x :: st) u bb σ Q := r_iload_n (k := 1) (by decide +kernel) rfl
theorem k171_72 : qx sc D 171 72 [l0, l1, vi x] st u bb σ Q ↔ qx sc D 171 73 [l0, l1, vi x] (vi x :: st) u bb σ Q := r_iload_n (k := 2) (by decide +kernel) rfl
theorem k171_73 : qx sc D 171 73 ls (vi x :: st) u bb σ Q ↔ (x = 0 → qx sc D 171 85 ls st u bb σ Q) ∧ (¬ (x = 0) → qx sc D 171 76 ls st u bb σ Q) := r_if_eq (off := 12) (t := 85) (by decide +kernel)
theorem k171_76 : qx sc D 171 76 [vr a, l1, l2] st u bb σ Q ↔ qx sc D 171 77 [vr a, l1, l2] (vr a :: st) u bb σ Q := r_aload_n (k := 0) (by decide +kernel) rfl
theorem k171_77 : qx sc D 171 77 [l0, vi x, l2] st u bb σ Q ↔ qx sc D 171 78 [l0, vi x, l2] (vi x :: st) u bb σ Q := r_iload_n (k := 1) (by decide +kernel) rfl
theorem k171_78 : qx sc D 171 78 ls st u bb σ Q ↔ qx sc D 171 79 ls (vi 0 :: st) u bb σ Q := r_iconst (by decide +kernel)
theorem k171_79 : qx sc (D + 1) 171 79 ls [vi x1, vi x0, vr 136, vi x20, vr a21] (0, 0) bb σ Q ↔ qx sc D 198 0 [vr 136, vi x0, vi x1, vn, vn] [] (0, 0) bb σ (q_kn sc (D + 1) 171 82 ls [vi x20, vr a21] (0, 0) Q) := r_callv (idx := 424) (n := 2) (m := 5) (by decide +kernel) rfl (Nat.le_of_ble_eq_true rfl) ⟨Nat.le_of_ble_eq_true rfl, Nat.le_of_ble_eq_true rfl, rfl⟩ rfl
theorem k171_82 : qx sc D 171 82 ls st u bb σ Q ↔ qx sc D 171 86 ls st u bb σ Q := r_goto (off := 4) (by decide +kernel)
theorem k171_85 : qx sc D 171 85 ls st u bb σ Q ↔ qx sc D 171 86 ls (vi (-1) :: st) u bb σ Q := r_iconst (by decide +kernel)
theorem k171_86 : qx sc D 171 86 ls (vi x :: vi i :: vr a :: st) u bb σ Q ↔ (q_ty a = 0 ∧ 0 ≤ i ∧ i < q_ln a) ∧ qx sc D 171 87 ls st u bb (q_up σ a i x) Q := r_iast (by decide +kernel)
theorem k171_87 : qx sc D 171 87 [vr a, l1, l2] st u bb σ Q ↔ qx sc D 171 88 [vr a, l1, l2] (vr a :: st) u bb σ Q := r_aload_n (k := 0) (by decide +kernel) rfl
theorem k171_88 : qx sc D 171 88 ls (vr 136 :: st) u bb σ Q ↔ qx sc D 171 91 ls (vr 177 :: st) u bb σ Q := r_getR (idx := 322) (c := 15) (k := 58) (by decide +kernel)
theorem k171_91 : qx sc D 171 91 [l0, vi x, l2] st u bb σ Q ↔ qx sc D 171 92 [l0, vi x, l2] (vi x :: st) u bb σ Q := r_iload_n (k := 1) (by decide +kernel) rfl
theorem k171_92 : qx sc D 171 92 [l0, l1, vi x] st u bb σ Q ↔ qx sc D 171 93 [l0, l1, vi x] (vi x :: st) u bb σ Q := r_iload_n (k := 2) (by decide +kernel) rfl
theorem k171_93 : qx sc D 171 93 ls (vi x :: st) u bb σ Q ↔ (x = 0 → qx sc D 171 105 ls st u bb σ Q) ∧ (¬ (x = 0) → qx sc D 171 96 ls st u bb σ Q) := r_if_eq (off := 12) (t := 105) (by decide +kernel)
theorem k171_96 : qx sc D 171 96 [vr a, l1, l2] st u bb σ Q ↔ qx sc D 171 97 [vr a, l1, l2] (vr a :: st) u bb σ Q := r_aload_n (k := 0) (by decide +kernel) rfl
theorem k171_97 : qx sc D 171 97 [l0, vi x, l2] st u bb σ Q ↔ qx sc D 171 98 [l0, vi x, l2] (vi x :: st) u bb σ Q := r_iload_n (k := 1) (by decide +kernel) rfl
theorem k171_98 : qx sc D 171 98 ls st u bb σ Q ↔ qx sc D 171 99 ls (vi 1 :: st) u bb σ Q := r_iconst (by decide +kernel)
theorem k171_99 : qx sc (D + 1) 171 99 ls [vi x1, vi x0, vr 136, vi x20, vr a21] (0, 0) bb σ Q ↔ qx sc D 198 0 [vr 136, vi x0, vi x1, vn, vn] [] (0, 0) bb σ (q_kn sc (D + 1) 171 102 ls [vi x20, vr a21] (0, 0) Q) := r_callv (idx := 424) (n := 2) (m := 5) (by decide +kernel) rfl (Nat.le_of_ble_eq_true rfl) ⟨Nat.le_of_ble_eq_true rfl, Nat.le_of_ble_eq_true rfl, rfl⟩ rfl
theorem k171_102 : qx sc D 171 102 ls st u bb σ Q ↔ qx sc D 171 106 ls st u bb σ Q := r_goto (off := 4) (by decide +kernel)
theorem k171_105 : qx sc D 171 105 ls st u bb σ Q ↔ qx sc D 171 106 ls (vi (-1) :: st) u bb σ Q := r_iconst (by decide +kernel)
theorem k171_106 : qx sc D 171 106 ls (vi x :: vi i :: vr a :: st) u bb σ Q ↔ (q_ty a = 0 ∧ 0 ≤ i ∧ i < q_ln a) ∧ qx sc D 171 107 ls st u bb (q_up σ a i x) Q := r_iast (by decide +kernel)
theorem k171_107 : qx sc D 171 107 [l0, vi x, l2] st u bb σ Q ↔ q_R (x + 1) ∧ qx sc D 171 110 [l0, vi (x + 1), l2] st u bb σ Q := r_iinc (k := 1) (n := 1) (by decide +kernel) rfl
theorem k171_110 : qx sc D 171 110 ls st u bb σ Q ↔ qx sc D 171 11 ls st u bb σ Q := r_goto (off := (-99)) (by decide +kernel)
theorem k171_113 : qx sc D 171 113 ls [] (0, 0) bb σ Q ↔ Q (.inl none) bb σ := r_retV (by decide +kernel)
-- 172: RowProverModel.lays(III)I
theorem k172_0 : qx sc D 172 0 [vr a, l1, l2, l3] st u bb σ Q ↔ qx sc D 172 1 [vr a, l1, l2, l3] (vr a :: st) u bb σ Q := r_aload_n (k := 0) (by decide +kernel) rfl
theorem k172_1 : qx sc D 172 1 ls (vr 136 :: st) u bb σ Q ↔ qx sc D 172 4 ls (vr 168 :: st) u bb σ Q := r_getR (idx := 18) (c := 15) (k := 45) (by decide +kernel)
theorem k172_4 : qx sc D 172 4 [vr a, l1, l2, l3] st u bb σ Q ↔ qx sc D 172 5 [vr a, l1, l2, l3] (vr a :: st) u bb σ Q := r_aload_n (k := 0) (by decide +kernel) rfl
theorem k172_5 : qx sc D 172 5 ls (vr 136 :: st) u bb σ Q ↔ qx sc D 172 8 ls (vi (σ 136 18) :: st) u bb σ Q := r_getI (idx := 21) (c := 15) (k := 18) (by decide +kernel)
theorem k172_8 : qx sc D 172 8 [l0, vi x, l2, l3] st u bb σ Q ↔ qx sc D 172 9 [l0, vi x, l2, l3] (vi x :: st) u bb σ Q := r_iload_n (k := 1) (by decide +kernel) rfl
theorem k172_9 : qx sc D 172 9 ls (vi x :: vi i :: vr a :: st) u bb σ Q ↔ (q_ty a = 0 ∧ 0 ≤ i ∧ i < q_ln a) ∧ qx sc D 172 10 ls st u bb (q_up σ a i x) Q := r_iast (by decide +kernel)
theorem k172_10 : qx sc D 172 10 [vr a, l1, l2, l3] st u bb σ Q ↔ qx sc D 172 11 [vr a, l1, l2, l3] (vr a :: st) u bb σ Q := r_aload_n (k := 0) (by decide +kernel) rfl
theorem k172_11 : qx sc D 172 11 ls (vr 136 :: st) u bb σ Q ↔ qx sc D 172 14 ls (vr 169 :: st) u bb σ Q := r_getR (idx := 24) (c := 15) (k := 46) (by decide +kernel)
theorem k172_14 : qx sc D 172 14 [vr a, l1, l2, l3] st u bb σ Q ↔ qx sc D 172 15 [vr a, l1, l2, l3] (vr a :: st) u bb σ Q := r_aload_n (k := 0) (by decide +kernel) rfl
theorem k172_15 : qx sc D 172 15 ls (vr 136 :: st) u bb σ Q ↔ qx sc D 172 18 ls (vi (σ 136 18) :: st) u bb σ Q := r_getI (idx := 21) (c := 15) (k := 18) (by decide +kernel)
theorem k172_18 : qx sc D 172 18 [l0, l1, vi x, l3] st u bb σ Q ↔ qx sc D 172 19 [l0, l1, vi x, l3] (vi x :: st) u bb σ Q := r_iload_n (k := 2) (by decide +kernel) rfl
theorem k172_19 : qx sc D 172 19 ls (vi x :: vi i :: vr a :: st) u bb σ Q ↔ (q_ty a = 0 ∧ 0 ≤ i ∧ i < q_ln a) ∧ qx sc D 172 20 ls st u bb (q_up σ a i x) Q := r_iast (by decide +kernel)
theorem k172_20 : qx sc D 172 20 [vr a, l1, l2, l3] st u bb σ Q ↔ qx sc D 172 21 [vr a, l1, l2, l3] (vr a :: st) u bb σ Q := r_aload_n (k := 0) (by decide +kernel) rfl
theorem k172_21 : qx sc D 172 21 ls (vr 136 :: st) u bb σ Q ↔ qx sc D 172 24 ls (vr 170 :: st) u bb σ Q := r_getR (idx := 27) (c := 15) (k := 47) (by decide +kernel)
theorem k172_24 : qx sc D 172 24 [vr a, l1, l2, l3] st u bb σ Q ↔ qx sc D 172 25 [vr a, l1, l2, l3] (vr a :: st) u bb σ Q := r_aload_n (k := 0) (by decide +kernel) rfl
theorem k172_25 : qx sc D 172 25 ls (vr 136 :: st) u bb σ Q ↔ qx sc D 172 28 ls (vi (σ 136 18) :: st) u bb σ Q := r_getI (idx := 21) (c := 15) (k := 18) (by decide +kernel)
theorem k172_28 : qx sc D 172 28 [l0, l1, l2, vi x] st u bb σ Q ↔ qx sc D 172 29 [l0, l1, l2, vi x] (vi x :: st) u bb σ Q := r_iload_n (k := 3) (by decide +kernel) rfl
theorem k172_29 : qx sc D 172 29 ls (vi x :: vi i :: vr a :: st) u bb σ Q ↔ (q_ty a = 0 ∧ 0 ≤ i ∧ i < q_ln a) ∧ qx sc D 172 30 ls st u bb (q_up σ a i x) Q := r_iast (by decide +kernel)
theorem k172_30 : qx sc D 172 30 [vr a, l1, l2, l3] st u bb σ Q ↔ qx sc D 172 31 [vr a, l1, l2, l3] (vr a :: st) u bb σ Q := r_aload_n (k := 0) (by decide +kernel) rfl
theorem k172_31 : qx sc D 172 31 ls (vr a :: st) u bb σ Q ↔ qx sc D 172 32 ls (vr a :: vr a :: st) u bb σ Q := r_dupA (by decide +kernel)
theorem k172_32 : qx sc D 172 32 ls (vr 136 :: st) u bb σ Q ↔ qx sc D 172 35 ls (vi (σ 136 18) :: st) u bb σ Q := r_getI (idx := 21) (c := 15) (k := 18) (by decide +kernel)
theorem k172_35 : qx sc D 172 35 ls st u bb σ Q ↔ qx sc D 172 36 ls (vi 1 :: st) u bb σ Q := r_iconst (by decide +kernel)
theorem k172_36 : qx sc D 172 36 ls (vi b' :: vi a' :: st) u bb σ Q ↔ q_R (a' + b') ∧ qx sc D 172 37 ls (vi (a' + b') :: st) u bb σ Q := r_iadd (by decide +kernel)
theorem k172_37 : qx sc D 172 37 ls (vi x :: vr 136 :: st) u bb σ Q ↔ qx sc D 172 40 ls st u bb (q_up σ 136 18 x) Q := r_putI (idx := 21) (c := 15) (k := 18) (by decide +kernel)
theorem k172_40 : qx sc D 172 40 [vr a, l1, l2, l3] st u bb σ Q ↔ qx sc D 172 41 [vr a, l1, l2, l3] (vr a :: st) u bb σ Q := r_aload_n (k := 0) (by decide +kernel) rfl
theorem k172_41 : qx sc D 172 41 ls (vr 136 :: st) u bb σ Q ↔ qx sc D 172 44 ls (vi (σ 136 18) :: st) u bb σ Q := r_getI (idx := 21) (c := 15) (k := 18) (by decide +kernel)
theorem k172_44 : qx sc D 172 44 ls st u bb σ Q ↔ qx sc D 172 45 ls (vi 1 :: st) u bb σ Q := r_iconst (by decide +kernel)
theorem k172_45 : qx sc D 172 45 ls (vi b' :: vi a' :: st) u bb σ Q ↔ q_R (a' - b') ∧ qx sc D 172 46 ls (vi (a' - b') :: st) u bb σ Q := r_isub (by decide +kernel)
theorem k172_46 : qx sc D 172 46 ls [vi x] (0, 0) bb σ Q ↔ Q (.inl (some (vi x))) bb σ := r_ret (by decide +kernel)
-- 173: RowProverModel.laysChain(II)V
theorem k173_0 : qx sc D 173 0 [vr a, l1, l2, l3] st u bb σ Q ↔ qx sc D 173 1 [vr a, l1, l2, l3] (vr a :: st) u bb σ Q := r_aload_n (k := 0) (by decide +kernel) rfl
theorem k173_1 : qx sc D 173 1 ls st u bb σ Q ↔ qx sc D 173 2 ls (vi 0 :: st) u bb σ Q := r_iconst (by decide +kernel)
theorem k173_2 : qx sc D 173 2 ls (vi x :: vr 136 :: st) u bb σ Q ↔ qx sc D 173 5 ls st u bb (q_up σ 136 62 x) Q := r_putI (idx := 428) (c := 15) (k := 62) (by decide +kernel)
theorem k173_5 : qx sc D 173 5 [l0, l1, vi x, l3] st u bb σ Q ↔ qx sc D 173 6 [l0, l1, vi x, l3] (vi x :: st) u bb σ Q := r_iload_n (k := 2) (by decide +kernel) rfl
theorem k173_6 : qx sc D 173 6 [l0, l1, l2, l3] (vi x :: st) u bb σ Q ↔ qx sc D 173 7 [l0, l1, l2, vi x] st u bb σ Q := r_istore_n (k := 3) (by decide +kernel) (Nat.le_of_ble_eq_true rfl)
theorem k173_7 : qx sc D 173 7 [l0, l1, l2, vi x] st u bb σ Q ↔ qx sc D 173 8 [l0, l1, l2, vi x] (vi x :: st) u bb σ Q := r_iload_n (k := 3) (by decide +kernel) rfl
theorem k173_8 : qx sc D 173 8 ls st u bb σ Q ↔ qx sc D 173 11 ls (vi 1000 :: st) u bb σ Q := r_sipush (by decide +kernel)
theorem k173_11 : qx sc D 173 11 ls (vi b' :: vi a' :: st) u bb σ Q ↔ (a' < b' → qx sc D 173 14 ls st u bb σ Q) ∧ (¬ (a' < b') → qx sc D 173 63 ls st u bb σ Q) := r_ic_ge (off := 52) (t := 63) (by decide +kernel)
theorem k173_14 : qx sc D 173 14 [vr a, l1, l2, l3] st u bb σ Q ↔ qx sc D 173 15 [vr a, l1, l2, l3] (vr a :: st) u bb σ Q := r_aload_n (k := 0) (by decide +kernel) rfl
theorem k173_15 : qx sc D 173 15 ls (vr 136 :: st) u bb σ Q ↔ qx sc D 173 18 ls (vr 180 :: st) u bb σ Q := r_getR (idx := 332) (c := 15) (k := 61) (by decide +kernel)
theorem k173_18 : qx sc D 173 18 [vr a, l1, l2, l3] st u bb σ Q ↔ qx sc D 173 19 [vr a, l1, l2, l3] (vr a :: st) u bb σ Q := r_aload_n (k := 0) (by decide +kernel) rfl
theorem k173_19 : qx sc D 173 19 ls (vr 136 :: st) u bb σ Q ↔ qx sc D 173 22 ls (vi (σ 136 62) :: st) u bb σ Q := r_getI (idx := 428) (c := 15) (k := 62) (by decide +kernel)
theorem k173_22 : qx sc D 173 22 [l0, l1, l2, vi x] st u bb σ Q ↔ qx sc D 173 23 [l0, l1, l2, vi x] (vi x :: st) u bb σ Q := r_iload_n (k := 3) (by decide +kernel) rfl
theorem k173_23 : qx sc D 173 23 ls (vi x :: vi i :: vr a :: st) u bb σ Q ↔ (q_ty a = 0 ∧ 0 ≤ i ∧ i < q_ln a) ∧ qx sc D 173 24 ls st u bb (q_up σ a i x) Q := r_iast (by decide +kernel)
theorem k173_24 : qx sc D 173 24 [vr a, l1, l2, l3] st u bb σ Q ↔ qx sc D 173 25 [vr a, l1, l2, l3] (vr a :: st) u bb σ Q := r_aload_n (k := 0) (by decide +kernel) rfl
theorem k173_25 : qx sc D 173 25 ls (vr a :: st) u bb σ Q ↔ qx sc D 173 26 ls (vr a :: vr a :: st) u bb σ Q := r_dupA (by decide +kernel)
theorem k173_26 : qx sc D 173 26 ls (vr 136 :: st) u bb σ Q ↔ qx sc D 173 29 ls (vi (σ 136 62) :: st) u bb σ Q := r_getI (idx := 428) (c := 15) (k := 62) (by decide +kernel)
theorem k173_29 : qx sc D 173 29 ls st u bb σ Q ↔ qx sc D 173 30 ls (vi 1 :: st) u bb σ Q := r_iconst (by decide +kernel)
theorem k173_30 : qx sc D 173 30 ls (vi b' :: vi a' :: st) u bb σ Q ↔ q_R (a' + b') ∧ qx sc D 173 31 ls (vi (a' + b') :: st) u bb σ Q := r_iadd (by decide +kernel)
theorem k173_31 : qx sc D 173 31 ls (vi x :: vr 136 :: st) u bb σ Q ↔ qx sc D 173 34 ls st u bb (q_up σ 136 62 x) Q := r_putI (idx := 428) (c := 15) (k := 62) (by decide +kernel)
theorem k173_34 : qx sc D 173 34 [vr a, l1, l2, l3] st u bb σ Q ↔ qx sc D 173 35 [vr a, l1, l2, l3] (vr a :: st) u bb σ Q := r_aload_n (k := 0) (by decide +kernel) rfl
theorem k173_35 : qx sc D 173 35 [l0, vi x, l2, l3] st u bb σ Q ↔ qx sc D 173 36 [l0, vi x, l2, l3] (vi x :: st) u bb σ Q := r_iload_n (k := 1) (by decide +kernel) rfl
theorem k173_36 : qx sc D 173 36 [l0, l1, l2, vi x] st u bb σ Q ↔ qx sc D 173 37 [l0, l1, l2, vi x] (vi x :: st) u bb σ Q := r_iload_n (k := 3) (by decide +kernel) rfl
theorem k173_37 : qx sc (D + 1) 173 37 ls [vi x1, vi x0, vr 136] (0, 0) bb σ Q ↔ qx sc D 183 0 [vr 136, vi x0, vi x1, vn] [] (0, 0) bb σ (q_kn sc (D + 1) 173 40 ls [] (0, 0) Q) := r_callv (idx := 431) (n := 2) (m := 4) (by decide +kernel) rfl (Nat.le_of_ble_eq_true rfl) ⟨Nat.le_of_ble_eq_true rfl, Nat.le_of_ble_eq_true rfl, rfl⟩ rfl
theorem k173_40 : qx sc D 173 40 [l0, l1, l2, l3] (vi x :: st) u bb σ Q ↔ qx sc D 173 41 [l0, l1, l2, vi x] st u bb σ Q := r_istore_n (k := 3) (by decide +kernel) (Nat.le_of_ble_eq_true rfl)
theorem k173_41 : qx sc D 173 41 [l0, l1, l2, vi x] st u bb σ Q ↔ qx sc D 173 42 [l0, l1, l2, vi x] (vi x :: st) u bb σ Q := r_iload_n (k := 3) (by decide +kernel) rfl
theorem k173_42 : qx sc D 173 42 ls st u bb σ Q ↔ qx sc D 173 45 ls (vi 1000 :: st) u bb σ Q := r_sipush (by decide +kernel)
theorem k173_45 : qx sc D 173 45 ls (vi b' :: vi a' :: st) u bb σ Q ↔ (a' < b' → qx sc D 173 48 ls st u bb σ Q) ∧ (¬ (a' < b') → qx sc D 173 7 ls st u bb σ Q) := r_ic_ge (off := (-38)) (t := 7) (by decide +kernel)
theorem k173_48 : qx sc D 173 48 [vr a, l1, l2, l3] st u bb σ Q ↔ qx sc D 173 49 [vr a, l1, l2, l3] (vr a :: st) u bb σ Q := r_aload_n (k := 0) (by decide +kernel) rfl
theorem k173_49 : qx sc D 173 49 [l0, l1, l2, vi x] st u bb σ Q ↔ qx sc D 173 50 [l0, l1, l2, vi x] (vi x :: st) u bb σ Q := r_iload_n (k := 3) (by decide +kernel) rfl
theorem k173_50 : qx sc (D + 1) 173 50 ls [vi x0, vr 136] (0, 0) bb σ Q ↔ qx sc D 162 0 [vr 136, vi x0, vn] [] (0, 0) bb σ (q_kn sc (D + 1) 173 53 ls [] (0, 0) Q) := r_callv (idx := 434) (n := 1) (m := 3) (by decide +kernel) rfl (Nat.le_of_ble_eq_true rfl) ⟨Nat.le_of_ble_eq_true rfl, Nat.le_of_ble_eq_true rfl, rfl⟩ rfl
theorem k173_53 : qx sc D 173 53 ls (vi x :: st) u bb σ Q ↔ (x = 0 → qx sc D 173 7 ls st u bb σ Q) ∧ (¬ (x = 0) → qx sc D 173 56 ls st u bb σ Q) := r_if_eq (off := (-46)) (t := 7) (by decide +kernel)
theorem k173_56 : qx sc D 173 56 ls st u bb σ Q ↔ qx sc D 173 59 ls (vi 1002 :: st) u bb σ Q := r_sipush (by decide +kernel)
theorem k173_59 : qx sc D 173 59 [l0, l1, l2, l3] (vi x :: st) u bb σ Q ↔ qx sc D 173 60 [l0, l1, l2, vi x] st u bb σ Q := r_istore_n (k := 3) (by decide +kernel) (Nat.le_of_ble_eq_true rfl)
theorem k173_60 : qx sc D 173 60 ls st u bb σ Q ↔ qx sc D 173 7 ls st u bb σ Q := r_goto (off := (-53)) (by decide +kernel)
theorem k173_63 : qx sc D 173 63 [vr a, l1, l2, l3] st u bb σ Q ↔ qx sc D 173 64 [vr a, l1, l2, l3] (vr a :: st) u bb σ Q := r_aload_n (k := 0) (by decide +kernel) rfl
theorem k173_64 : qx sc D 173 64 ls (vr 136 :: st) u bb σ Q ↔ qx sc D 173 67 ls (vr 180 :: st) u bb σ Q := r_getR (idx := 332) (c := 15) (k := 61) (by decide +kernel)
theorem k173_67 : qx sc D 173 67 [vr a, l1, l2, l3] st u bb σ Q ↔ qx sc D 173 68 [vr a, l1, l2, l3] (vr a :: st) u bb σ Q := r_aload_n (k := 0) (by decide +kernel) rfl
theorem k173_68 : qx sc D 173 68 ls (vr 136 :: st) u bb σ Q ↔ qx sc D 173 71 ls (vi (σ 136 62) :: st) u bb σ Q := r_getI (idx := 428) (c := 15) (k := 62) (by decide +kernel)
theorem k173_71 : qx sc D 173 71 [l0, l1, l2, vi x] st u bb σ Q ↔ qx sc D 173 72 [l0, l1, l2, vi x] (vi x :: st) u bb σ Q := r_iload_n (k := 3) (by decide +kernel) rfl
theorem k173_72 : qx sc D 173 72 ls (vi x :: vi i :: vr a :: st) u bb σ Q ↔ (q_ty a = 0 ∧ 0 ≤ i ∧ i < q_ln a) ∧ qx sc D 173 73 ls st u bb (q_up σ a i x) Q := r_iast (by decide +kernel)
theorem k173_73 : qx sc D 173 73 [vr a, l1, l2, l3] st u bb σ Q ↔ qx sc D 173 74 [vr a, l1, l2, l3] (vr a :: st) u bb σ Q := r_aload_n (k := 0) (by decide +kernel) rfl
theorem k173_74 : qx sc D 173 74 ls (vr a :: st) u bb σ Q ↔ qx sc D 173 75 ls (vr a :: vr a :: st) u bb σ Q := r_dupA (by decide +kernel)
theorem k173_75 : qx sc D 173 75 ls (vr 136 :: st) u bb σ Q ↔ qx sc D 173 78 ls (vi (σ 136 62) :: st) u bb σ Q := r_getI (idx := 428) (c := 15) (k := 62) (by decide +kernel)
theorem k173_78 : qx sc D 173 78 ls st u bb σ Q ↔ qx sc D 173 79 ls (vi 1 :: st) u bb σ Q := r_iconst (by decide +kernel)
theorem k173_79 : qx sc D 173 79 ls (vi b' :: vi a' :: st) u bb σ Q ↔ q_R (a' + b') ∧ qx sc D 173 80 ls (vi (a' + b') :: st) u bb σ Q := r_iadd (by decide +kernel)
theorem k173_80 : qx sc D 173 80 ls (vi x :: vr 136 :: st) u bb σ Q ↔ qx sc D 173 83 ls st u bb (q_up σ 136 62 x) Q := r_putI (idx := 428) (c := 15) (k := 62) (by decide +kernel)
theorem k173_83 : qx sc D 173 83 ls [] (0, 0) bb σ Q ↔ Q (.inl none) bb σ := r_retV (by decide +kernel)
-- 174: RowProverModel.laysStands()V
theorem k174_0 : qx sc D 174 0 ls st u bb σ Q ↔ qx sc D 174 1 ls (vi 0 :: st) u bb σ Q := r_iconst (by decide +kernel)
theorem k174_1 : qx sc D 174 1 [l0, l1, l2, l3] (vi x :: st) u bb σ Q ↔ qx sc D 174 2 [l0, vi x, l2, l3] st u bb σ Q := r_istore_n (k := 1) (by decide +kernel) (Nat.le_of_ble_eq_true rfl)
theorem k174_2 : qx sc D 174 2 [l0, vi x, l2, l3] st u bb σ Q ↔ qx sc D 174 3 [l0, vi x, l2, l3] (vi x :: st) u bb σ Q := r_iload_n (k := 1) (by decide +kernel) rfl
theorem k174_3 : qx sc D 174 3 [vr a, l1, l2, l3] st u bb σ Q ↔ qx sc D 174 4 [vr a, l1, l2, l3] (vr a :: st) u bb σ Q := r_aload_n (k := 0) (by decide +kernel) rfl
theorem k174_4 : qx sc D 174 4 ls (vr 136 :: st) u bb σ Q ↔ qx sc D 174 7 ls (vi (σ 136 15) :: st) u bb σ Q := r_getI (idx := 30) (c := 15) (k := 15) (by decide +kernel)
theorem k174_7 : qx sc D 174 7 ls (vi b' :: vi a' :: st) u bb σ Q ↔ (a' < b' → qx sc D 174 10 ls st u bb σ Q) ∧ (¬ (a' < b') → qx sc D 174 125 ls st u bb σ Q) := r_ic_ge (off := 118) (t := 125) (by decide +kernel)
theorem k174_10 : qx sc D 174 10 [vr a, l1, l2, l3] st u bb σ Q ↔ qx sc D 174 11 [vr a, l1, l2, l3] (vr a :: st) u bb σ Q := r_aload_n (k := 0) (by decide +kernel) rfl
theorem k174_11 : qx sc D 174 11 ls (vr 136 :: st) u bb σ Q ↔ qx sc D 174 14 ls (vr 148 :: st) u bb σ Q := r_getR (idx := 36) (c := 15) (k := 25) (by decide +kernel)
theorem k174_14 : qx sc D 174 14 [l0, vi x, l2, l3] st u bb σ Q ↔ qx sc D 174 15 [l0, vi x, l2, l3] (vi x :: st) u bb σ Q := r_iload_n (k := 1) (by decide +kernel) rfl
theorem k174_15 : qx sc D 174 15 ls (vi i :: vr a :: st) u bb σ Q ↔ (q_ty a = 0 ∧ 0 ≤ i ∧ i < q_ln a) ∧ qx sc D 174 16 ls (vi (σ a i) :: st) u bb σ Q := r_iald (by decide +kernel)
theorem k174_16 : qx sc D 174 16 [l0, l1, l2, l3] (vi x :: st) u bb σ Q ↔ qx sc D 174 17 [l0, l1, vi x, l3] st u bb σ Q := r_istore_n (k := 2) (by decide +kernel) (Nat.le_of_ble_eq_true rfl)
theorem k174_17 : qx sc D 174 17 [l0, l1, vi x, l3] st u bb σ Q ↔ qx sc D 174 18 [l0, l1, vi x, l3] (vi x :: st) u bb σ Q := r_iload_n (k := 2) (by decide +kernel) rfl
theorem k174_18 : qx sc D 174 18 ls st u bb σ Q ↔ qx sc D 174 19 ls (vi 2 :: st) u bb σ Q := r_iconst (by decide +kernel)
theorem k174_19 : qx sc D 174 19 ls (vi b' :: vi a' :: st) u bb σ Q ↔ (a' = b' → qx sc D 174 47 ls st u bb σ Q) ∧ (¬ (a' = b') → qx sc D 174 22 ls st u bb σ Q) := r_ic_eq (off := 28) (t := 47) (by decide +kernel)
theorem k174_22 : qx sc D 174 22 [l0, l1, vi x, l3] st u bb σ Q ↔ qx sc D 174 23 [l0, l1, vi x, l3] (vi x :: st) u bb σ Q := r_iload_n (k := 2) (by decide +kernel) rfl
theorem k174_23 : qx sc D 174 23 ls st u bb σ Q ↔ qx sc D 174 24 ls (vi 3 :: st) u bb σ Q := r_iconst (by decide +kernel)
theorem k174_24 : qx sc D 174 24 ls (vi b' :: vi a' :: st) u bb σ Q ↔ (a' = b' → qx sc D 174 47 ls st u bb σ Q) ∧ (¬ (a' = b') → qx sc D 174 27 ls st u bb σ Q) := r_ic_eq (off := 23) (t := 47) (by decide +kernel)
theorem k174_27 : qx sc D 174 27 [l0, l1, vi x, l3] st u bb σ Q ↔ qx sc D 174 28 [l0, l1, vi x, l3] (vi x :: st) u bb σ Q := r_iload_n (k := 2) (by decide +kernel) rfl
theorem k174_28 : qx sc D 174 28 ls st u bb σ Q ↔ qx sc D 174 29 ls (vi 4 :: st) u bb σ Q := r_iconst (by decide +kernel)
theorem k174_29 : qx sc D 174 29 ls (vi b' :: vi a' :: st) u bb σ Q ↔ (a' = b' → qx sc D 174 47 ls st u bb σ Q) ∧ (¬ (a' = b') → qx sc D 174 32 ls st u bb σ Q) := r_ic_eq (off := 18) (t := 47) (by decide +kernel)
theorem k174_32 : qx sc D 174 32 [l0, l1, vi x, l3] st u bb σ Q ↔ qx sc D 174 33 [l0, l1, vi x, l3] (vi x :: st) u bb σ Q := r_iload_n (k := 2) (by decide +kernel) rfl
theorem k174_33 : qx sc D 174 33 ls st u bb σ Q ↔ qx sc D 174 34 ls (vi 1 :: st) u bb σ Q := r_iconst (by decide +kernel)
theorem k174_34 : qx sc D 174 34 ls (vi b' :: vi a' :: st) u bb σ Q ↔ (a' = b' → qx sc D 174 37 ls st u bb σ Q) ∧ (¬ (a' = b') → qx sc D 174 51 ls st u bb σ Q) := r_ic_ne (off := 17) (t := 51) (by decide +kernel)
theorem k174_37 : qx sc D 174 37 [vr a, l1, l2, l3] st u bb σ Q ↔ qx sc D 174 38 [vr a, l1, l2, l3] (vr a :: st) u bb σ Q := r_aload_n (k := 0) (by decide +kernel) rfl
theorem k174_38 : qx sc D 174 38 ls (vr 136 :: st) u bb σ Q ↔ qx sc D 174 41 ls (vr 152 :: st) u bb σ Q := r_getR (idx := 48) (c := 15) (k := 29) (by decide +kernel)
theorem k174_41 : qx sc D 174 41 [l0, vi x, l2, l3] st u bb σ Q ↔ qx sc D 174 42 [l0, vi x, l2, l3] (vi x :: st) u bb σ Q := r_iload_n (k := 1) (by decide +kernel) rfl
theorem k174_42 : qx sc D 174 42 ls (vi i :: vr a :: st) u bb σ Q ↔ (q_ty a = 0 ∧ 0 ≤ i ∧ i < q_ln a) ∧ qx sc D 174 43 ls (vi (σ a i) :: st) u bb σ Q := r_iald (by decide +kernel)
theorem k174_43 : qx sc D 174 43 ls st u bb σ Q ↔ qx sc D 174 44 ls (vi 1 :: st) u bb σ Q := r_iconst (by decide +kernel)
theorem k174_44 : qx sc D 174 44 ls (vi b' :: vi a' :: st) u bb σ Q ↔ (a' = b' → qx sc D 174 47 ls st u bb σ Q) ∧ (¬ (a' = b') → qx sc D 174 51 ls st u bb σ Q) := r_ic_ne (off := 7) (t := 51) (by decide +kernel)
theorem k174_47 : qx sc D 174 47 ls st u bb σ Q ↔ qx sc D 174 48 ls (vi 1 :: st) u bb σ Q := r_iconst (by decide +kernel)
theorem k174_48 : qx sc D 174 48 ls st u bb σ Q ↔ qx sc D 174 52 ls st u bb σ Q := r_goto (off := 4) (by decide +kernel)
theorem k174_51 : qx sc D 174 51 ls st u bb σ Q ↔ qx sc D 174 52 ls (vi 0 :: st) u bb σ Q := r_iconst (by decide +kernel)
theorem k174_52 : qx sc D 174 52 [l0, l1, l2, l3] (vi x :: st) u bb σ Q ↔ qx sc D 174 53 [l0, l1, l2, vi x] st u bb σ Q := r_istore_n (k := 3) (by decide +kernel) (Nat.le_of_ble_eq_true rfl)
theorem k174_53 : qx sc D 174 53 [vr a, l1, l2, l3] st u bb σ Q ↔ qx sc D 174 54 [vr a, l1, l2, l3] (vr a :: st) u bb σ Q := r_aload_n (k := 0) (by decide +kernel) rfl
theorem k174_54 : qx sc D 174 54 ls (vr 136 :: st) u bb σ Q ↔ qx sc D 174 57 ls (vr 174 :: st) u bb σ Q := r_getR (idx := 313) (c := 15) (k := 55) (by decide +kernel)
theorem k174_57 : qx sc D 174 57 [l0, vi x, l2, l3] st u bb σ Q ↔ qx sc D 174 58 [l0, vi x, l2, l3] (vi x :: st) u bb σ Q := r_iload_n (k := 1) (by decide +kernel) rfl
theorem k174_58 : qx sc D 174 58 [l0, l1, l2, vi x] st u bb σ Q ↔ qx sc D 174 59 [l0, l1, l2, vi x] (vi x :: st) u bb σ Q := r_iload_n (k := 3) (by decide +kernel) rfl
theorem k174_59 : qx sc D 174 59 ls (vi x :: st) u bb σ Q ↔ (x = 0 → qx sc D 174 76 ls st u bb σ Q) ∧ (¬ (x = 0) → qx sc D 174 62 ls st u bb σ Q) := r_if_eq (off := 17) (t := 76) (by decide +kernel)
theorem k174_62 : qx sc D 174 62 [vr a, l1, l2, l3] st u bb σ Q ↔ qx sc D 174 63 [vr a, l1, l2, l3] (vr a :: st) u bb σ Q := r_aload_n (k := 0) (by decide +kernel) rfl
theorem k174_63 : qx sc D 174 63 ls (vr 136 :: st) u bb σ Q ↔ qx sc D 174 66 ls (vr 174 :: st) u bb σ Q := r_getR (idx := 313) (c := 15) (k := 55) (by decide +kernel)
theorem k174_66 : qx sc D 174 66 [vr a, l1, l2, l3] st u bb σ Q ↔ qx sc D 174 67 [vr a, l1, l2, l3] (vr a :: st) u bb σ Q := r_aload_n (k := 0) (by decide +kernel) rfl
theorem k174_67 : qx sc D 174 67 ls (vr 136 :: st) u bb σ Q ↔ qx sc D 174 70 ls (vr 150 :: st) u bb σ Q := r_getR (idx := 42) (c := 15) (k := 27) (by decide +kernel)
theorem k174_70 : qx sc D 174 70 [l0, vi x, l2, l3] st u bb σ Q ↔ qx sc D 174 71 [l0, vi x, l2, l3] (vi x :: st) u bb σ Q := r_iload_n (k := 1) (by decide +kernel) rfl
theorem k174_71 : qx sc D 174 71 ls (vi i :: vr a :: st) u bb σ Q ↔ (q_ty a = 0 ∧ 0 ≤ i ∧ i < q_ln a) ∧ qx sc D 174 72 ls (vi (σ a i) :: st) u bb σ Q := r_iald (by decide +kernel)
theorem k174_72 : qx sc D 174 72 ls (vi i :: vr a :: st) u bb σ Q ↔ (q_ty a = 0 ∧ 0 ≤ i ∧ i < q_ln a) ∧ qx sc D 174 73 ls (vi (σ a i) :: st) u bb σ Q := r_iald (by decide +kernel)
theorem k174_73 : qx sc D 174 73 ls st u bb σ Q ↔ qx sc D 174 77 ls st u bb σ Q := r_goto (off := 4) (by decide +kernel)
theorem k174_76 : qx sc D 174 76 [l0, vi x, l2, l3] st u bb σ Q ↔ qx sc D 174 77 [l0, vi x, l2, l3] (vi x :: st) u bb σ Q := r_iload_n (k := 1) (by decide +kernel) rfl
theorem k174_77 : qx sc D 174 77 ls (vi x :: vi i :: vr a :: st) u bb σ Q ↔ (q_ty a = 0 ∧ 0 ≤ i ∧ i < q_ln a) ∧ qx sc D 174 78 ls st u bb (q_up σ a i x) Q := r_iast (by decide +kernel)
theorem k174_78 : qx sc D 174 78 [vr a, l1, l2, l3] st u bb σ Q ↔ qx sc D 174 79 [vr a, l1, l2, l3] (vr a :: st) u bb σ Q := r_aload_n (k := 0) (by decide +kernel) rfl
theorem k174_79 : qx sc D 174 79 ls (vr 136 :: st) u bb σ Q ↔ qx sc D 174 82 ls (vr 175 :: st) u bb σ Q := r_getR (idx := 316) (c := 15) (k := 56) (by decide +kernel)
theorem k174_82 : qx sc D 174 82 [l0, vi x, l2, l3] st u bb σ Q ↔ qx sc D 174 83 [l0, vi x, l2, l3] (vi x :: st) u bb σ Q := r_iload_n (k := 1) (by decide +kernel) rfl
theorem k174_83 : qx sc D 174 83 [l0, l1, l2, vi x] st u bb σ Q ↔ qx sc D 174 84 [l0, l1, l2, vi x] (vi x :: st) u bb σ Q := r_iload_n (k := 3) (by decide +kernel) rfl
theorem k174_84 : qx sc D 174 84 ls (vi x :: st) u bb σ Q ↔ (x = 0 → qx sc D 174 117 ls st u bb σ Q) ∧ (¬ (x = 0) → qx sc D 174 87 ls st u bb σ Q) := r_if_eq (off := 33) (t := 117) (by decide +kernel)
theorem k174_87 : qx sc D 174 87 [vr a, l1, l2, l3] st u bb σ Q ↔ qx sc D 174 88 [vr a, l1, l2, l3] (vr a :: st) u bb σ Q := r_aload_n (k := 0) (by decide +kernel) rfl
theorem k174_88 : qx sc D 174 88 ls (vr 136 :: st) u bb σ Q ↔ qx sc D 174 91 ls (vr 175 :: st) u bb σ Q := r_getR (idx := 316) (c := 15) (k := 56) (by decide +kernel)
theorem k174_91 : qx sc D 174 91 [vr a, l1, l2, l3] st u bb σ Q ↔ qx sc D 174 92 [vr a, l1, l2, l3] (vr a :: st) u bb σ Q := r_aload_n (k := 0) (by decide +kernel) rfl
theorem k174_92 : qx sc D 174 92 ls (vr 136 :: st) u bb σ Q ↔ qx sc D 174 95 ls (vr 150 :: st) u bb σ Q := r_getR (idx := 42) (c := 15) (k := 27) (by decide +kernel)
theorem k174_95 : qx sc D 174 95 [l0, vi x, l2, l3] st u bb σ Q ↔ qx sc D 174 96 [l0, vi x, l2, l3] (vi x :: st) u bb σ Q := r_iload_n (k := 1) (by decide +kernel) rfl
theorem k174_96 : qx sc D 174 96 ls (vi i :: vr a :: st) u bb σ Q ↔ (q_ty a = 0 ∧ 0 ≤ i ∧ i < q_ln a) ∧ qx sc D 174 97 ls (vi (σ a i) :: st) u bb σ Q := r_iald (by decide +kernel)
theorem k174_97 : qx sc D 174 97 ls (vi i :: vr a :: st) u bb σ Q ↔ (q_ty a = 0 ∧ 0 ≤ i ∧ i < q_ln a) ∧ qx sc D 174 98 ls (vi (σ a i) :: st) u bb σ Q := r_iald (by decide +kernel)
theorem k174_98 : qx sc D 174 98 [l0, l1, vi x, l3] st u bb σ Q ↔ qx sc D 174 99 [l0, l1, vi x, l3] (vi x :: st) u bb σ Q := r_iload_n (k := 2) (by decide +kernel) rfl
theorem k174_99 : qx sc D 174 99 ls st u bb σ Q ↔ qx sc D 174 100 ls (vi 1 :: st) u bb σ Q := r_iconst (by decide +kernel)
theorem k174_100 : qx sc D 174 100 ls (vi b' :: vi a' :: st) u bb σ Q ↔ (a' = b' → qx sc D 174 103 ls st u bb σ Q) ∧ (¬ (a' = b') → qx sc D 174 112 ls st u bb σ Q) := r_ic_ne (off := 12) (t := 112) (by decide +kernel)
theorem k174_103 : qx sc D 174 103 [vr a, l1, l2, l3] st u bb σ Q ↔ qx sc D 174 104 [vr a, l1, l2, l3] (vr a :: st) u bb σ Q := r_aload_n (k := 0) (by decide +kernel) rfl
theorem k174_104 : qx sc D 174 104 ls (vr 136 :: st) u bb σ Q ↔ qx sc D 174 107 ls (vr 154 :: st) u bb σ Q := r_getR (idx := 54) (c := 15) (k := 31) (by decide +kernel)
theorem k174_107 : qx sc D 174 107 [l0, vi x, l2, l3] st u bb σ Q ↔ qx sc D 174 108 [l0, vi x, l2, l3] (vi x :: st) u bb σ Q := r_iload_n (k := 1) (by decide +kernel) rfl
theorem k174_108 : qx sc D 174 108 ls (vi i :: vr a :: st) u bb σ Q ↔ (q_ty a = 0 ∧ 0 ≤ i ∧ i < q_ln a) ∧ qx sc D 174 109 ls (vi (σ a i) :: st) u bb σ Q := r_iald (by decide +kernel)
theorem k174_109 : qx sc D 174 109 ls st u bb σ Q ↔ qx sc D 174 113 ls st u bb σ Q := r_goto (off := 4) (by decide +kernel)
theorem k174_112 : qx sc D 174 112 ls st u bb σ Q ↔ qx sc D 174 113 ls (vi 0 :: st) u bb σ Q := r_iconst (by decide +kernel)
theorem k174_113 : qx sc D 174 113 ls (vi b' :: vi a' :: st) u bb σ Q ↔ q_R (a' + b') ∧ qx sc D 174 114 ls (vi (a' + b') :: st) u bb σ Q := r_iadd (by decide +kernel)
theorem k174_114 : qx sc D 174 114 ls st u bb σ Q ↔ qx sc D 174 118 ls st u bb σ Q := r_goto (off := 4) (by decide +kernel)
theorem k174_117 : qx sc D 174 117 ls st u bb σ Q ↔ qx sc D 174 118 ls (vi 0 :: st) u bb σ Q := r_iconst (by decide +kernel)
theorem k174_118 : qx sc D 174 118 ls (vi x :: vi i :: vr a :: st) u bb σ Q ↔ (q_ty a = 0 ∧ 0 ≤ i ∧ i < q_ln a) ∧ qx sc D 174 119 ls st u bb (q_up σ a i x) Q := r_iast (by decide +kernel)
theorem k174_119 : qx sc D 174 119 [l0, vi x, l2, l3] st u bb σ Q ↔ q_R (x + 1) ∧ qx sc D 174 122 [l0, vi (x + 1), l2, l3] st u bb σ Q := r_iinc (k := 1) (n := 1) (by decide +kernel) rfl
theorem k174_122 : qx sc D 174 122 ls st u bb σ Q ↔ qx sc D 174 2 ls st u bb σ Q := r_goto (off := (-120)) (by decide +kernel)
theorem k174_125 : qx sc D 174 125 ls [] (0, 0) bb σ Q ↔ Q (.inl none) bb σ := r_retV (by decide +kernel)
-- 175: RowProverModel.length(II)I
theorem k175_0 : qx sc D 175 0 [vr a, l1, l2, l3] st u bb σ Q ↔ qx sc D 175 1 [vr a, l1, l2, l3] (vr a :: st) u bb σ Q := r_aload_n (k := 0) (by decide +kernel) rfl
theorem k175_1 : qx sc D 175 1 ls st u bb σ Q ↔ qx sc D 175 2 ls (vi 0 :: st) u bb σ Q := r_iconst (by decide +kernel)
theorem k175_2 : qx sc D 175 2 ls (vi x :: vr 136 :: st) u bb σ Q ↔ qx sc D 175 5 ls st u bb (q_up σ 136 0 x) Q := r_putI (idx := 3) (c := 15) (k := 0) (by decide +kernel)
theorem k175_5 : qx sc D 175 5 [vr a, l1, l2, l3] st u bb σ Q ↔ qx sc D 175 6 [vr a, l1, l2, l3] (vr a :: st) u bb σ Q := r_aload_n (k := 0) (by decide +kernel) rfl
theorem k175_6 : qx sc D 175 6 [l0, vi x, l2, l3] st u bb σ Q ↔ qx sc D 175 7 [l0, vi x, l2, l3] (vi x :: st) u bb σ Q := r_iload_n (k := 1) (by decide +kernel) rfl
theorem k175_7 : qx sc (D + 1) 175 7 ls [vi x0, vr 136] (0, 0) bb σ Q ↔ qx sc D 186 0 [vr 136, vi x0] [] (0, 0) bb σ (q_kn sc (D + 1) 175 10 ls [] (0, 0) Q) := r_callv (idx := 511) (n := 1) (m := 2) (by decide +kernel) rfl (Nat.le_of_ble_eq_true rfl) ⟨Nat.le_of_ble_eq_true rfl, Nat.le_of_ble_eq_true rfl, rfl⟩ rfl
theorem k175_10 : qx sc D 175 10 ls (vi x :: st) u bb σ Q ↔ (x = 0 → qx sc D 175 13 ls st u bb σ Q) ∧ (¬ (x = 0) → qx sc D 175 36 ls st u bb σ Q) := r_if_ne (off := 26) (t := 36) (by decide +kernel)
theorem k175_13 : qx sc D 175 13 [vr a, l1, l2, l3] st u bb σ Q ↔ qx sc D 175 14 [vr a, l1, l2, l3] (vr a :: st) u bb σ Q := r_aload_n (k := 0) (by decide +kernel) rfl
theorem k175_14 : qx sc D 175 14 [l0, l1, vi x, l3] st u bb σ Q ↔ qx sc D 175 15 [l0, l1, vi x, l3] (vi x :: st) u bb σ Q := r_iload_n (k := 2) (by decide +kernel) rfl
theorem k175_15 : qx sc D 175 15 ls st u bb σ Q ↔ qx sc D 175 16 ls (vi 0 :: st) u bb σ Q := r_iconst (by decide +kernel)
theorem k175_16 : qx sc D 175 16 ls st u bb σ Q ↔ qx sc D 175 18 ls (vi 40 :: st) u bb σ Q := r_bipush (by decide +kernel)
theorem k175_18 : qx sc (D + 1) 175 18 ls [vi x2, vi x1, vi x0, vr a20] (0, 0) bb σ Q ↔ qx sc D 157 0 [vi x0, vi x1, vi x2] [] (0, 0) bb σ (q_kn sc (D + 1) 175 21 ls [vr a20] (0, 0) Q) := r_calls (idx := 498) (n := 3) (m := 3) (by decide +kernel) rfl (Nat.le_of_ble_eq_true rfl) ⟨Nat.le_of_ble_eq_true rfl, Nat.le_of_ble_eq_true rfl, rfl⟩ rfl
theorem k175_21 : qx sc D 175 21 ls (vi x :: st) u bb σ Q ↔ (x = 0 → qx sc D 175 24 ls st u bb σ Q) ∧ (¬ (x = 0) → qx sc D 175 28 ls st u bb σ Q) := r_if_ne (off := 7) (t := 28) (by decide +kernel)
theorem k175_24 : qx sc D 175 24 ls st u bb σ Q ↔ qx sc D 175 25 ls (vi 1 :: st) u bb σ Q := r_iconst (by decide +kernel)
theorem k175_25 : qx sc D 175 25 ls st u bb σ Q ↔ qx sc D 175 29 ls st u bb σ Q := r_goto (off := 4) (by decide +kernel)
theorem k175_28 : qx sc D 175 28 ls st u bb σ Q ↔ qx sc D 175 29 ls (vi 0 :: st) u bb σ Q := r_iconst (by decide +kernel)
theorem k175_29 : qx sc D 175 29 ls st u bb σ Q ↔ qx sc D 175 30 ls (vi 2 :: st) u bb σ Q := r_iconst (by decide +kernel)
theorem k175_30 : qx sc (D + 1) 175 30 ls [vi x1, vi x0, vr 136] (0, 0) bb σ Q ↔ qx sc D 224 0 [vr 136, vi x0, vi x1] [] (0, 0) bb σ (q_kn sc (D + 1) 175 33 ls [] (0, 0) Q) := r_callv (idx := 501) (n := 2) (m := 3) (by decide +kernel) rfl (Nat.le_of_ble_eq_true rfl) ⟨Nat.le_of_ble_eq_true rfl, Nat.le_of_ble_eq_true rfl, rfl⟩ rfl
theorem k175_33 : qx sc D 175 33 ls (vi x :: st) u bb σ Q ↔ (x = 0 → qx sc D 175 38 ls st u bb σ Q) ∧ (¬ (x = 0) → qx sc D 175 36 ls st u bb σ Q) := r_if_eq (off := 5) (t := 38) (by decide +kernel)
theorem k175_36 : qx sc D 175 36 ls st u bb σ Q ↔ qx sc D 175 37 ls (vi 0 :: st) u bb σ Q := r_iconst (by decide +kernel)
theorem k175_37 : qx sc D 175 37 ls [vi x] (0, 0) bb σ Q ↔ Q (.inl (some (vi x))) bb σ := r_ret (by decide +kernel)
theorem k175_38 : qx sc D 175 38 [vr a, l1, l2, l3] st u bb σ Q ↔ qx sc D 175 39 [vr a, l1, l2, l3] (vr a :: st) u bb σ Q := r_aload_n (k := 0) (by decide +kernel) rfl
theorem k175_39 : qx sc D 175 39 ls (vr 136 :: st) u bb σ Q ↔ qx sc D 175 42 ls (vr 181 :: st) u bb σ Q := r_getR (idx := 335) (c := 15) (k := 63) (by decide +kernel)
theorem k175_42 : qx sc D 175 42 [l0, vi x, l2, l3] st u bb σ Q ↔ qx sc D 175 43 [l0, vi x, l2, l3] (vi x :: st) u bb σ Q := r_iload_n (k := 1) (by decide +kernel) rfl
theorem k175_43 : qx sc D 175 43 ls (vi i :: vr a :: st) u bb σ Q ↔ (q_ty a = 0 ∧ 0 ≤ i ∧ i < q_ln a) ∧ qx sc D 175 44 ls (vi (σ a i) :: st) u bb σ Q := r_iald (by decide +kernel)
theorem k175_44 : qx sc D 175 44 [l0, l1, l2, l3] (vi x :: st) u bb σ Q ↔ qx sc D 175 45 [l0, l1, l2, vi x] st u bb σ Q := r_istore_n (k := 3) (by decide +kernel) (Nat.le_of_ble_eq_true rfl)
theorem k175_45 : qx sc D 175 45 [vr a, l1, l2, l3] st u bb σ Q ↔ qx sc D 175 46 [vr a, l1, l2, l3] (vr a :: st) u bb σ Q := r_aload_n (k := 0) (by decide +kernel) rfl
theorem k175_46 : qx sc D 175 46 ls (vr 136 :: st) u bb σ Q ↔ qx sc D 175 49 ls (vr 181 :: st) u bb σ Q := r_getR (idx := 335) (c := 15) (k := 63) (by decide +kernel)
theorem k175_49 : qx sc D 175 49 [l0, vi x, l2, l3] st u bb σ Q ↔ qx sc D 175 50 [l0, vi x, l2, l3] (vi x :: st) u bb σ Q := r_iload_n (k := 1) (by decide +kernel) rfl
theorem k175_50 : qx sc D 175 50 [l0, l1, vi x, l3] st u bb σ Q ↔ qx sc D 175 51 [l0, l1, vi x, l3] (vi x :: st) u bb σ Q := r_iload_n (k := 2) (by decide +kernel) rfl
theorem k175_51 : qx sc D 175 51 ls (vi x :: vi i :: vr a :: st) u bb σ Q ↔ (q_ty a = 0 ∧ 0 ≤ i ∧ i < q_ln a) ∧ qx sc D 175 52 ls st u bb (q_up σ a i x) Q := r_iast (by decide +kernel)
theorem k175_52 : qx sc D 175 52 [l0, l1, l2, vi x] st u bb σ Q ↔ qx sc D 175 53 [l0, l1, l2, vi x] (vi x :: st) u bb σ Q := r_iload_n (k := 3) (by decide +kernel) rfl
theorem k175_53 : qx sc D 175 53 ls [vi x] (0, 0) bb σ Q ↔ Q (.inl (some (vi x))) bb σ := r_ret (by decide +kernel)
-- 176: RowProverModel.lengthOf(I)I
theorem k176_0 : qx sc D 176 0 [vr a, l1] st u bb σ Q ↔ qx sc D 176 1 [vr a, l1] (vr a :: st) u bb σ Q := r_aload_n (k := 0) (by decide +kernel) rfl
theorem k176_1 : qx sc D 176 1 ls (vr 136 :: st) u bb σ Q ↔ qx sc D 176 4 ls (vi (σ 136 13) :: st) u bb σ Q := r_getI (idx := 117) (c := 15) (k := 13) (by decide +kernel)
theorem k176_4 : qx sc D 176 4 [l0, vi x] st u bb σ Q ↔ qx sc D 176 5 [l0, vi x] (vi x :: st) u bb σ Q := r_iload_n (k := 1) (by decide +kernel) rfl
theorem k176_5 : qx sc D 176 5 ls (vi b' :: vi a' :: st) u bb σ Q ↔ qx sc D 176 6 ls (vi (q_I a' >>> (q_I b' &&& 31)).toInt :: st) u bb σ Q := r_ishr (by decide +kernel)
theorem k176_6 : qx sc D 176 6 ls st u bb σ Q ↔ qx sc D 176 7 ls (vi 1 :: st) u bb σ Q := r_iconst (by decide +kernel)
theorem k176_7 : qx sc D 176 7 ls (vi b' :: vi a' :: st) u bb σ Q ↔ qx sc D 176 8 ls (vi (q_I a' &&& q_I b').toInt :: st) u bb σ Q := r_iand (by decide +kernel)
theorem k176_8 : qx sc D 176 8 ls (vi x :: st) u bb σ Q ↔ (x = 0 → qx sc D 176 11 ls st u bb σ Q) ∧ (¬ (x = 0) → qx sc D 176 15 ls st u bb σ Q) := r_if_ne (off := 7) (t := 15) (by decide +kernel)
theorem k176_11 : qx sc D 176 11 ls st u bb σ Q ↔ qx sc D 176 12 ls (vi 0 :: st) u bb σ Q := r_iconst (by decide +kernel)
theorem k176_12 : qx sc D 176 12 ls st u bb σ Q ↔ qx sc D 176 45 ls st u bb σ Q := r_goto (off := 33) (by decide +kernel)
theorem k176_15 : qx sc D 176 15 [vr a, l1] st u bb σ Q ↔ qx sc D 176 16 [vr a, l1] (vr a :: st) u bb σ Q := r_aload_n (k := 0) (by decide +kernel) rfl
theorem k176_16 : qx sc D 176 16 ls (vr 136 :: st) u bb σ Q ↔ qx sc D 176 19 ls (vr 181 :: st) u bb σ Q := r_getR (idx := 335) (c := 15) (k := 63) (by decide +kernel)
theorem k176_19 : qx sc D 176 19 [l0, vi x] st u bb σ Q ↔ qx sc D 176 20 [l0, vi x] (vi x :: st) u bb σ Q := r_iload_n (k := 1) (by decide +kernel) rfl
theorem k176_20 : qx sc D 176 20 ls (vi i :: vr a :: st) u bb σ Q ↔ (q_ty a = 0 ∧ 0 ≤ i ∧ i < q_ln a) ∧ qx sc D 176 21 ls (vi (σ a i) :: st) u bb σ Q := r_iald (by decide +kernel)
theorem k176_21 : qx sc D 176 21 [vr a, l1] st u bb σ Q ↔ qx sc D 176 22 [vr a, l1] (vr a :: st) u bb σ Q := r_aload_n (k := 0) (by decide +kernel) rfl
theorem k176_22 : qx sc D 176 22 ls (vr 136 :: st) u bb σ Q ↔ qx sc D 176 25 ls (vr 141 :: st) u bb σ Q := r_getR (idx := 128) (c := 15) (k := 12) (by decide +kernel)
theorem k176_25 : qx sc D 176 25 [l0, vi x] st u bb σ Q ↔ qx sc D 176 26 [l0, vi x] (vi x :: st) u bb σ Q := r_iload_n (k := 1) (by decide +kernel) rfl
theorem k176_26 : qx sc D 176 26 ls (vi i :: vr a :: st) u bb σ Q ↔ (q_ty a = 0 ∧ 0 ≤ i ∧ i < q_ln a) ∧ qx sc D 176 27 ls (vi (σ a i) :: st) u bb σ Q := r_iald (by decide +kernel)
theorem k176_27 : qx sc D 176 27 ls (vi b' :: vi a' :: st) u bb σ Q ↔ (b' < a' → qx sc D 176 30 ls st u bb σ Q) ∧ (¬ (b' < a') → qx sc D 176 39 ls st u bb σ Q) := r_ic_le (off := 12) (t := 39) (by decide +kernel)
theorem k176_30 : qx sc D 176 30 [vr a, l1] st u bb σ Q ↔ qx sc D 176 31 [vr a, l1] (vr a :: st) u bb σ Q := r_aload_n (k := 0) (by decide +kernel) rfl
theorem k176_31 : qx sc D 176 31 ls (vr 136 :: st) u bb σ Q ↔ qx sc D 176 34 ls (vr 181 :: st) u bb σ Q := r_getR (idx := 335) (c := 15) (k := 63) (by decide +kernel)
theorem k176_34 : qx sc D 176 34 [l0, vi x] st u bb σ Q ↔ qx sc D 176 35 [l0, vi x] (vi x :: st) u bb σ Q := r_iload_n (k := 1) (by decide +kernel) rfl
theorem k176_35 : qx sc D 176 35 ls (vi i :: vr a :: st) u bb σ Q ↔ (q_ty a = 0 ∧ 0 ≤ i ∧ i < q_ln a) ∧ qx sc D 176 36 ls (vi (σ a i) :: st) u bb σ Q := r_iald (by decide +kernel)
theorem k176_36 : qx sc D 176 36 ls st u bb σ Q ↔ qx sc D 176 45 ls st u bb σ Q := r_goto (off := 9) (by decide +kernel)
theorem k176_39 : qx sc D 176 39 [vr a, l1] st u bb σ Q ↔ qx sc D 176 40 [vr a, l1] (vr a :: st) u bb σ Q := r_aload_n (k := 0) (by decide +kernel) rfl
theorem k176_40 : qx sc D 176 40 ls (vr 136 :: st) u bb σ Q ↔ qx sc D 176 43 ls (vr 141 :: st) u bb σ Q := r_getR (idx := 128) (c := 15) (k := 12) (by decide +kernel)
theorem k176_43 : qx sc D 176 43 [l0, vi x] st u bb σ Q ↔ qx sc D 176 44 [l0, vi x] (vi x :: st) u bb σ Q := r_iload_n (k := 1) (by decide +kernel) rfl
theorem k176_44 : qx sc D 176 44 ls (vi i :: vr a :: st) u bb σ Q ↔ (q_ty a = 0 ∧ 0 ≤ i ∧ i < q_ln a) ∧ qx sc D 176 45 ls (vi (σ a i) :: st) u bb σ Q := r_iald (by decide +kernel)
theorem k176_45 : qx sc D 176 45 ls [vi x] (0, 0) bb σ Q ↔ Q (.inl (some (vi x))) bb σ := r_ret (by decide +kernel)
-- 177: RowProverModel.looksAtSides(I)V
theorem k177_0 : qx sc D 177 0 ls st u bb σ Q ↔ qx sc D 177 1 ls (vi 0 :: st) u bb σ Q := r_iconst (by decide +kernel)
theorem k177_1 : qx sc D 177 1 [l0, l1, l2] (vi x :: st) u bb σ Q ↔ qx sc D 177 2 [l0, l1, vi x] st u bb σ Q := r_istore_n (k := 2) (by decide +kernel) (Nat.le_of_ble_eq_true rfl)
theorem k177_2 : qx sc D 177 2 [l0, l1, vi x] st u bb σ Q ↔ qx sc D 177 3 [l0, l1, vi x] (vi x :: st) u bb σ Q := r_iload_n (k := 2) (by decide +kernel) rfl
theorem k177_3 : qx sc D 177 3 ls st u bb σ Q ↔ qx sc D 177 4 ls (vi 2 :: st) u bb σ Q := r_iconst (by decide +kernel)
theorem k177_4 : qx sc D 177 4 ls (vi b' :: vi a' :: st) u bb σ Q ↔ (a' < b' → qx sc D 177 7 ls st u bb σ Q) ∧ (¬ (a' < b') → qx sc D 177 56 ls st u bb σ Q) := r_ic_ge (off := 52) (t := 56) (by decide +kernel)
theorem k177_7 : qx sc D 177 7 [vr a, l1, l2] st u bb σ Q ↔ qx sc D 177 8 [vr a, l1, l2] (vr a :: st) u bb σ Q := r_aload_n (k := 0) (by decide +kernel) rfl
theorem k177_8 : qx sc D 177 8 ls (vr 136 :: st) u bb σ Q ↔ qx sc D 177 11 ls (vr 167 :: st) u bb σ Q := r_getR (idx := 233) (c := 15) (k := 44) (by decide +kernel)
theorem k177_11 : qx sc D 177 11 ls st u bb σ Q ↔ qx sc D 177 12 ls (vi 2 :: st) u bb σ Q := r_iconst (by decide +kernel)
theorem k177_12 : qx sc D 177 12 [l0, vi x, l2] st u bb σ Q ↔ qx sc D 177 13 [l0, vi x, l2] (vi x :: st) u bb σ Q := r_iload_n (k := 1) (by decide +kernel) rfl
theorem k177_13 : qx sc D 177 13 ls (vi b' :: vi a' :: st) u bb σ Q ↔ q_R (a' * b') ∧ qx sc D 177 14 ls (vi (a' * b') :: st) u bb σ Q := r_imul (by decide +kernel)
theorem k177_14 : qx sc D 177 14 [l0, l1, vi x] st u bb σ Q ↔ qx sc D 177 15 [l0, l1, vi x] (vi x :: st) u bb σ Q := r_iload_n (k := 2) (by decide +kernel) rfl
theorem k177_15 : qx sc D 177 15 ls (vi b' :: vi a' :: st) u bb σ Q ↔ q_R (a' + b') ∧ qx sc D 177 16 ls (vi (a' + b') :: st) u bb σ Q := r_iadd (by decide +kernel)
theorem k177_16 : qx sc D 177 16 [vr a, l1, l2] st u bb σ Q ↔ qx sc D 177 17 [vr a, l1, l2] (vr a :: st) u bb σ Q := r_aload_n (k := 0) (by decide +kernel) rfl
theorem k177_17 : qx sc D 177 17 ls (vr 136 :: st) u bb σ Q ↔ qx sc D 177 20 ls (vr 165 :: st) u bb σ Q := r_getR (idx := 220) (c := 15) (k := 42) (by decide +kernel)
theorem k177_20 : qx sc D 177 20 ls st u bb σ Q ↔ qx sc D 177 21 ls (vi 2 :: st) u bb σ Q := r_iconst (by decide +kernel)
theorem k177_21 : qx sc D 177 21 [l0, vi x, l2] st u bb σ Q ↔ qx sc D 177 22 [l0, vi x, l2] (vi x :: st) u bb σ Q := r_iload_n (k := 1) (by decide +kernel) rfl
theorem k177_22 : qx sc D 177 22 ls (vi b' :: vi a' :: st) u bb σ Q ↔ q_R (a' * b') ∧ qx sc D 177 23 ls (vi (a' * b') :: st) u bb σ Q := r_imul (by decide +kernel)
theorem k177_23 : qx sc D 177 23 [l0, l1, vi x] st u bb σ Q ↔ qx sc D 177 24 [l0, l1, vi x] (vi x :: st) u bb σ Q := r_iload_n (k := 2) (by decide +kernel) rfl
theorem k177_24 : qx sc D 177 24 ls (vi b' :: vi a' :: st) u bb σ Q ↔ q_R (a' + b') ∧ qx sc D 177 25 ls (vi (a' + b') :: st) u bb σ Q := r_iadd (by decide +kernel)
theorem k177_25 : qx sc D 177 25 ls (vi i :: vr a :: st) u bb σ Q ↔ (q_ty a = 0 ∧ 0 ≤ i ∧ i < q_ln a) ∧ qx sc D 177 26 ls (vi (σ a i) :: st) u bb σ Q := r_iald (by decide +kernel)
theorem k177_26 : qx sc D 177 26 ls st u bb σ Q ↔ qx sc D 177 27 ls (vi 1 :: st) u bb σ Q := r_iconst (by decide +kernel)
theorem k177_27 : qx sc D 177 27 ls (vi b' :: vi a' :: st) u bb σ Q ↔ (a' = b' → qx sc D 177 30 ls st u bb σ Q) ∧ (¬ (a' = b') → qx sc D 177 48 ls st u bb σ Q) := r_ic_ne (off := 21) (t := 48) (by decide +kernel)
theorem k177_30 : qx sc D 177 30 [vr a, l1, l2] st u bb σ Q ↔ qx sc D 177 31 [vr a, l1, l2] (vr a :: st) u bb σ Q := r_aload_n (k := 0) (by decide +kernel) rfl
theorem k177_31 : qx sc D 177 31 ls (vr 136 :: st) u bb σ Q ↔ qx sc D 177 34 ls (vr 171 :: st) u bb σ Q := r_getR (idx := 57) (c := 15) (k := 48) (by decide +kernel)
theorem k177_34 : qx sc D 177 34 [vr a, l1, l2] st u bb σ Q ↔ qx sc D 177 35 [vr a, l1, l2] (vr a :: st) u bb σ Q := r_aload_n (k := 0) (by decide +kernel) rfl
theorem k177_35 : qx sc D 177 35 ls (vr 136 :: st) u bb σ Q ↔ qx sc D 177 38 ls (vr 166 :: st) u bb σ Q := r_getR (idx := 223) (c := 15) (k := 43) (by decide +kernel)
theorem k177_38 : qx sc D 177 38 ls st u bb σ Q ↔ qx sc D 177 39 ls (vi 2 :: st) u bb σ Q := r_iconst (by decide +kernel)
theorem k177_39 : qx sc D 177 39 [l0, vi x, l2] st u bb σ Q ↔ qx sc D 177 40 [l0, vi x, l2] (vi x :: st) u bb σ Q := r_iload_n (k := 1) (by decide +kernel) rfl
theorem k177_40 : qx sc D 177 40 ls (vi b' :: vi a' :: st) u bb σ Q ↔ q_R (a' * b') ∧ qx sc D 177 41 ls (vi (a' * b') :: st) u bb σ Q := r_imul (by decide +kernel)
theorem k177_41 : qx sc D 177 41 [l0, l1, vi x] st u bb σ Q ↔ qx sc D 177 42 [l0, l1, vi x] (vi x :: st) u bb σ Q := r_iload_n (k := 2) (by decide +kernel) rfl
theorem k177_42 : qx sc D 177 42 ls (vi b' :: vi a' :: st) u bb σ Q ↔ q_R (a' + b') ∧ qx sc D 177 43 ls (vi (a' + b') :: st) u bb σ Q := r_iadd (by decide +kernel)
theorem k177_43 : qx sc D 177 43 ls (vi i :: vr a :: st) u bb σ Q ↔ (q_ty a = 0 ∧ 0 ≤ i ∧ i < q_ln a) ∧ qx sc D 177 44 ls (vi (σ a i) :: st) u bb σ Q := r_iald (by decide +kernel)
theorem k177_44 : qx sc D 177 44 ls (vi i :: vr a :: st) u bb σ Q ↔ (q_ty a = 0 ∧ 0 ≤ i ∧ i < q_ln a) ∧ qx sc D 177 45 ls (vi (σ a i) :: st) u bb σ Q := r_iald (by decide +kernel)
theorem k177_45 : qx sc D 177 45 ls st u bb σ Q ↔ qx sc D 177 49 ls st u bb σ Q := r_goto (off := 4) (by decide +kernel)
theorem k177_48 : qx sc D 177 48 ls st u bb σ Q ↔ qx sc D 177 49 ls (vi (-1) :: st) u bb σ Q := r_iconst (by decide +kernel)
theorem k177_49 : qx sc D 177 49 ls (vi x :: vi i :: vr a :: st) u bb σ Q ↔ (q_ty a = 0 ∧ 0 ≤ i ∧ i < q_ln a) ∧ qx sc D 177 50 ls st u bb (q_up σ a i x) Q := r_iast (by decide +kernel)
theorem k177_50 : qx sc D 177 50 [l0, l1, vi x] st u bb σ Q ↔ q_R (x + 1) ∧ qx sc D 177 53 [l0, l1, vi (x + 1)] st u bb σ Q := r_iinc (k := 2) (n := 1) (by decide +kernel) rfl
theorem k177_53 : qx sc D 177 53 ls st u bb σ Q ↔ qx sc D 177 2 ls st u bb σ Q := r_goto (off := (-51)) (by decide +kernel)
theorem k177_56 : qx sc D 177 56 ls [] (0, 0) bb σ Q ↔ Q (.inl none) bb σ := r_retV (by decide +kernel)
-- 178: RowProverModel.loop(II)I
theorem k178_0 : qx sc D 178 0 [vr a, l1, l2] st u bb σ Q ↔ qx sc D 178 1 [vr a, l1, l2] (vr a :: st) u bb σ Q := r_aload_n (k := 0) (by decide +kernel) rfl
theorem k178_1 : qx sc D 178 1 ls st u bb σ Q ↔ qx sc D 178 2 ls (vi 0 :: st) u bb σ Q := r_iconst (by decide +kernel)
theorem k178_2 : qx sc D 178 2 ls (vi x :: vr 136 :: st) u bb σ Q ↔ qx sc D 178 5 ls st u bb (q_up σ 136 0 x) Q := r_putI (idx := 3) (c := 15) (k := 0) (by decide +kernel)
theorem k178_5 : qx sc D 178 5 [vr a, l1, l2] st u bb σ Q ↔ qx sc D 178 6 [vr a, l1, l2] (vr a :: st) u bb σ Q := r_aload_n (k := 0) (by decide +kernel) rfl
theorem k178_6 : qx sc D 178 6 [l0, vi x, l2] st u bb σ Q ↔ qx sc D 178 7 [l0, vi x, l2] (vi x :: st) u bb σ Q := r_iload_n (k := 1) (by decide +kernel) rfl
theorem k178_7 : qx sc D 178 7 ls st u bb σ Q ↔ qx sc D 178 8 ls (vi 0 :: st) u bb σ Q := r_iconst (by decide +kernel)
theorem k178_8 : qx sc D 178 8 [vr a, l1, l2] st u bb σ Q ↔ qx sc D 178 9 [vr a, l1, l2] (vr a :: st) u bb σ Q := r_aload_n (k := 0) (by decide +kernel) rfl
theorem k178_9 : qx sc D 178 9 ls (vr 136 :: st) u bb σ Q ↔ qx sc D 178 12 ls (vi (σ 136 17) :: st) u bb σ Q := r_getI (idx := 275) (c := 15) (k := 17) (by decide +kernel)
theorem k178_12 : qx sc D 178 12 ls st u bb σ Q ↔ qx sc D 178 13 ls (vi 1 :: st) u bb σ Q := r_iconst (by decide +kernel)
theorem k178_13 : qx sc D 178 13 ls (vi b' :: vi a' :: st) u bb σ Q ↔ q_R (a' - b') ∧ qx sc D 178 14 ls (vi (a' - b') :: st) u bb σ Q := r_isub (by decide +kernel)
theorem k178_14 : qx sc (D + 1) 178 14 ls [vi x2, vi x1, vi x0, vr a20] (0, 0) bb σ Q ↔ qx sc D 157 0 [vi x0, vi x1, vi x2] [] (0, 0) bb σ (q_kn sc (D + 1) 178 17 ls [vr a20] (0, 0) Q) := r_calls (idx := 498) (n := 3) (m := 3) (by decide +kernel) rfl (Nat.le_of_ble_eq_true rfl) ⟨Nat.le_of_ble_eq_true rfl, Nat.le_of_ble_eq_true rfl, rfl⟩ rfl
theorem k178_17 : qx sc D 178 17 ls (vi x :: st) u bb σ Q ↔ (x = 0 → qx sc D 178 20 ls st u bb σ Q) ∧ (¬ (x = 0) → qx sc D 178 24 ls st u bb σ Q) := r_if_ne (off := 7) (t := 24) (by decide +kernel)
theorem k178_20 : qx sc D 178 20 ls st u bb σ Q ↔ qx sc D 178 21 ls (vi 1 :: st) u bb σ Q := r_iconst (by decide +kernel)
theorem k178_21 : qx sc D 178 21 ls st u bb σ Q ↔ qx sc D 178 25 ls st u bb σ Q := r_goto (off := 4) (by decide +kernel)
theorem k178_24 : qx sc D 178 24 ls st u bb σ Q ↔ qx sc D 178 25 ls (vi 0 :: st) u bb σ Q := r_iconst (by decide +kernel)
theorem k178_25 : qx sc D 178 25 ls st u bb σ Q ↔ qx sc D 178 26 ls (vi 1 :: st) u bb σ Q := r_iconst (by decide +kernel)
theorem k178_26 : qx sc (D + 1) 178 26 ls [vi x1, vi x0, vr 136] (0, 0) bb σ Q ↔ qx sc D 224 0 [vr 136, vi x0, vi x1] [] (0, 0) bb σ (q_kn sc (D + 1) 178 29 ls [] (0, 0) Q) := r_callv (idx := 501) (n := 2) (m := 3) (by decide +kernel) rfl (Nat.le_of_ble_eq_true rfl) ⟨Nat.le_of_ble_eq_true rfl, Nat.le_of_ble_eq_true rfl, rfl⟩ rfl
theorem k178_29 : qx sc D 178 29 ls (vi x :: st) u bb σ Q ↔ (x = 0 → qx sc D 178 32 ls st u bb σ Q) ∧ (¬ (x = 0) → qx sc D 178 54 ls st u bb σ Q) := r_if_ne (off := 25) (t := 54) (by decide +kernel)
theorem k178_32 : qx sc D 178 32 [vr a, l1, l2] st u bb σ Q ↔ qx sc D 178 33 [vr a, l1, l2] (vr a :: st) u bb σ Q := r_aload_n (k := 0) (by decide +kernel) rfl
theorem k178_33 : qx sc D 178 33 [l0, l1, vi x] st u bb σ Q ↔ qx sc D 178 34 [l0, l1, vi x] (vi x :: st) u bb σ Q := r_iload_n (k := 2) (by decide +kernel) rfl
theorem k178_34 : qx sc D 178 34 ls st u bb σ Q ↔ qx sc D 178 35 ls (vi 0 :: st) u bb σ Q := r_iconst (by decide +kernel)
theorem k178_35 : qx sc D 178 35 ls st u bb σ Q ↔ qx sc D 178 36 ls (vi 4 :: st) u bb σ Q := r_iconst (by decide +kernel)
theorem k178_36 : qx sc (D + 1) 178 36 ls [vi x2, vi x1, vi x0, vr a20] (0, 0) bb σ Q ↔ qx sc D 157 0 [vi x0, vi x1, vi x2] [] (0, 0) bb σ (q_kn sc (D + 1) 178 39 ls [vr a20] (0, 0) Q) := r_calls (idx := 498) (n := 3) (m := 3) (by decide +kernel) rfl (Nat.le_of_ble_eq_true rfl) ⟨Nat.le_of_ble_eq_true rfl, Nat.le_of_ble_eq_true rfl, rfl⟩ rfl
theorem k178_39 : qx sc D 178 39 ls (vi x :: st) u bb σ Q ↔ (x = 0 → qx sc D 178 42 ls st u bb σ Q) ∧ (¬ (x = 0) → qx sc D 178 46 ls st u bb σ Q) := r_if_ne (off := 7) (t := 46) (by decide +kernel)
theorem k178_42 : qx sc D 178 42 ls st u bb σ Q ↔ qx sc D 178 43 ls (vi 1 :: st) u bb σ Q := r_iconst (by decide +kernel)
theorem k178_43 : qx sc D 178 43 ls st u bb σ Q ↔ qx sc D 178 47 ls st u bb σ Q := r_goto (off := 4) (by decide +kernel)
theorem k178_46 : qx sc D 178 46 ls st u bb σ Q ↔ qx sc D 178 47 ls (vi 0 :: st) u bb σ Q := r_iconst (by decide +kernel)
theorem k178_47 : qx sc D 178 47 ls st u bb σ Q ↔ qx sc D 178 48 ls (vi 2 :: st) u bb σ Q := r_iconst (by decide +kernel)
theorem k178_48 : qx sc (D + 1) 178 48 ls [vi x1, vi x0, vr 136] (0, 0) bb σ Q ↔ qx sc D 224 0 [vr 136, vi x0, vi x1] [] (0, 0) bb σ (q_kn sc (D + 1) 178 51 ls [] (0, 0) Q) := r_callv (idx := 501) (n := 2) (m := 3) (by decide +kernel) rfl (Nat.le_of_ble_eq_true rfl) ⟨Nat.le_of_ble_eq_true rfl, Nat.le_of_ble_eq_true rfl, rfl⟩ rfl
theorem k178_51 : qx sc D 178 51 ls (vi x :: st) u bb σ Q ↔ (x = 0 → qx sc D 178 56 ls st u bb σ Q) ∧ (¬ (x = 0) → qx sc D 178 54 ls st u bb σ Q) := r_if_eq (off := 5) (t := 56) (by decide +kernel)
theorem k178_54 : qx sc D 178 54 ls st u bb σ Q ↔ qx sc D 178 55 ls (vi 0 :: st) u bb σ Q := r_iconst (by decide +kernel)
theorem k178_55 : qx sc D 178 55 ls [vi x] (0, 0) bb σ Q ↔ Q (.inl (some (vi x))) bb σ := r_ret (by decide +kernel)
theorem k178_56 : qx sc D 178 56 [l0, l1, vi x] st u bb σ Q ↔ qx sc D 178 57 [l0, l1, vi x] (vi x :: st) u bb σ Q := r_iload_n (k := 2) (by decide +kernel) rfl
theorem k178_57 : qx sc D 178 57 ls (vi x :: st) u bb σ Q ↔ qx sc D 178 (if x < 0 ∨ 3 < x then 116 else [88, 95, 102, 109].getD (x - 0).toNat 0) ls st u bb σ Q := r_tsw (d := 59) (lo := 0) (hi := 3) (offs := #[31, 38, 45, 52]) (dt := 116) (tg := [88, 95, 102, 109]) (by decide +kernel)
theorem k178_88 : qx sc D 178 88 [vr a, l1, l2] st u bb σ Q ↔ qx sc D 178 89 [vr a, l1, l2] (vr a :: st) u bb σ Q := r_aload_n (k := 0) (by decide +kernel) rfl
theorem k178_89 : qx sc D 178 89 ls (vr 136 :: st) u bb σ Q ↔ qx sc D 178 92 ls (vr 160 :: st) u bb σ Q := r_getR (idx := 278) (c := 15) (k := 37) (by decide +kernel)
theorem k178_92 : qx sc D 178 92 [l0, vi x, l2] st u bb σ Q ↔ qx sc D 178 93 [l0, vi x, l2] (vi x :: st) u bb σ Q := r_iload_n (k := 1) (by decide +kernel) rfl
theorem k178_93 : qx sc D 178 93 ls (vi i :: vr a :: st) u bb σ Q ↔ (q_ty a = 0 ∧ 0 ≤ i ∧ i < q_ln a) ∧ qx sc D 178 94 ls (vi (σ a i) :: st) u bb σ Q := r_iald (by decide +kernel)
theorem k178_94 : qx sc D 178 94 ls [vi x] (0, 0) bb σ Q ↔ Q (.inl (some (vi x))) bb σ := r_ret (by decide +kernel)
theorem k178_95 : qx sc D 178 95 [vr a, l1, l2] st u bb σ Q ↔ qx sc D 178 96 [vr a, l1, l2] (vr a :: st) u bb σ Q := r_aload_n (k := 0) (by decide +kernel) rfl
theorem k178_96 : qx sc D 178 96 ls (vr 136 :: st) u bb σ Q ↔ qx sc D 178 99 ls (vr 161 :: st) u bb σ Q := r_getR (idx := 281) (c := 15) (k := 38) (by decide +kernel)
theorem k178_99 : qx sc D 178 99 [l0, vi x, l2] st u bb σ Q ↔ qx sc D 178 100 [l0, vi x, l2] (vi x :: st) u bb σ Q := r_iload_n (k := 1) (by decide +kernel) rfl
theorem k178_100 : qx sc D 178 100 ls (vi i :: vr a :: st) u bb σ Q ↔ (q_ty a = 0 ∧ 0 ≤ i ∧ i < q_ln a) ∧ qx sc D 178 101 ls (vi (σ a i) :: st) u bb σ Q := r_iald (by decide +kernel)
theorem k178_101 : qx sc D 178 101 ls [vi x] (0, 0) bb σ Q ↔ Q (.inl (some (vi x))) bb σ := r_ret (by decide +kernel)
theorem k178_102 : qx sc D 178 102 [vr a, l1, l2] st u bb σ Q ↔ qx sc D 178 103 [vr a, l1, l2] (vr a :: st) u bb σ Q := r_aload_n (k := 0) (by decide +kernel) rfl
theorem k178_103 : qx sc D 178 103 [l0, vi x, l2] st u bb σ Q ↔ qx sc D 178 104 [l0, vi x, l2] (vi x :: st) u bb σ Q := r_iload_n (k := 1) (by decide +kernel) rfl
theorem k178_104 : qx sc D 178 104 ls st u bb σ Q ↔ qx sc D 178 105 ls (vi 0 :: st) u bb σ Q := r_iconst (by decide +kernel)
theorem k178_105 : qx sc (D + 1) 178 105 ls [vi x1, vi x0, vr 136] (0, 0) bb σ Q ↔ qx sc D 151 0 [vr 136, vi x0, vi x1, vn, vn] [] (0, 0) bb σ (q_kn sc (D + 1) 178 108 ls [] (0, 0) Q) := r_callv (idx := 455) (n := 2) (m := 5) (by decide +kernel) rfl (Nat.le_of_ble_eq_true rfl) ⟨Nat.le_of_ble_eq_true rfl, Nat.le_of_ble_eq_true rfl, rfl⟩ rfl
theorem k178_108 : qx sc D 178 108 ls [vi x] (0, 0) bb σ Q ↔ Q (.inl (some (vi x))) bb σ := r_ret (by decide +kernel)
theorem k178_109 : qx sc D 178 109 [vr a, l1, l2] st u bb σ Q ↔ qx sc D 178 110 [vr a, l1, l2] (vr a :: st) u bb σ Q := r_aload_n (k := 0) (by decide +kernel) rfl
theorem k178_110 : qx sc D 178 110 ls (vr 136 :: st) u bb σ Q ↔ qx sc D 178 113 ls (vr 163 :: st) u bb σ Q := r_getR (idx := 290) (c := 15) (k := 40) (by decide +kernel)
theorem k178_113 : qx sc D 178 113 [l0, vi x, l2] st u bb σ Q ↔ qx sc D 178 114 [l0, vi x, l2] (vi x :: st) u bb σ Q := r_iload_n (k := 1) (by decide +kernel) rfl
theorem k178_114 : qx sc D 178 114 ls (vi i :: vr a :: st) u bb σ Q ↔ (q_ty a = 0 ∧ 0 ≤ i ∧ i < q_ln a) ∧ qx sc D 178 115 ls (vi (σ a i) :: st) u bb σ Q := r_iald (by decide +kernel)
theorem k178_115 : qx sc D 178 115 ls [vi x] (0, 0) bb σ Q ↔ Q (.inl (some (vi x))) bb σ := r_ret (by decide +kernel)
theorem k178_116 : qx sc D 178 116 [vr a, l1, l2] st u bb σ Q ↔ qx sc D 178 117 [vr a, l1, l2] (vr a :: st) u bb σ Q := r_aload_n (k := 0) (by decide +kernel) rfl
theorem k178_117 : qx sc D 178 117 [l0, vi x, l2] st u bb σ Q ↔ qx sc D 178 118 [l0, vi x, l2] (vi x :: st) u bb σ Q := r_iload_n (k := 1) (by decide +kernel) rfl
theorem k178_118 : qx sc D 178 118 ls st u bb σ Q ↔ qx sc D 178 119 ls (vi 1 :: st) u bb σ Q := r_iconst (by decide +kernel)
theorem k178_119 : qx sc (D + 1) 178 119 ls [vi x1, vi x0, vr 136] (0, 0) bb σ Q ↔ qx sc D 151 0 [vr 136, vi x0, vi x1, vn, vn] [] (0, 0) bb σ (q_kn sc (D + 1) 178 122 ls [] (0, 0) Q) := r_callv (idx := 455) (n := 2) (m := 5) (by decide +kernel) rfl (Nat.le_of_ble_eq_true rfl) ⟨Nat.le_of_ble_eq_true rfl, Nat.le_of_ble_eq_true rfl, rfl⟩ rfl
theorem k178_122 : qx sc D 178 122 ls [vi x] (0, 0) bb σ Q ↔ Q (.inl (some (vi x))) bb σ := r_ret (by decide +kernel)
-- 179: RowProverModel.looser(III)I
theorem k179_0 : qx sc D 179 0 [l0, vi x, l2, l3] st u bb σ Q ↔ qx sc D 179 1 [l0, vi x, l2, l3] (vi x :: st) u bb σ Q := r_iload_n (k := 1) (by decide +kernel) rfl
theorem k179_1 : qx sc D 179 1 ls st u bb σ Q ↔ qx sc D 179 2 ls (vi 3 :: st) u bb σ Q := r_iconst (by decide +kernel)
theorem k179_2 : qx sc D 179 2 ls (vi b' :: vi a' :: st) u bb σ Q ↔ (a' = b' → qx sc D 179 5 ls st u bb σ Q) ∧ (¬ (a' = b') → qx sc D 179 18 ls st u bb σ Q) := r_ic_ne (off := 16) (t := 18) (by decide +kernel)
theorem k179_5 : qx sc D 179 5 [l0, l1, vi x, l3] st u bb σ Q ↔ qx sc D 179 6 [l0, l1, vi x, l3] (vi x :: st) u bb σ Q := r_iload_n (k := 2) (by decide +kernel) rfl
theorem k179_6 : qx sc D 179 6 [l0, l1, l2, vi x] st u bb σ Q ↔ qx sc D 179 7 [l0, l1, l2, vi x] (vi x :: st) u bb σ Q := r_iload_n (k := 3) (by decide +kernel) rfl
theorem k179_7 : qx sc D 179 7 ls (vi b' :: vi a' :: st) u bb σ Q ↔ (a' < b' → qx sc D 179 10 ls st u bb σ Q) ∧ (¬ (a' < b') → qx sc D 179 14 ls st u bb σ Q) := r_ic_ge (off := 7) (t := 14) (by decide +kernel)
theorem k179_10 : qx sc D 179 10 [l0, l1, vi x, l3] st u bb σ Q ↔ qx sc D 179 11 [l0, l1, vi x, l3] (vi x :: st) u bb σ Q := r_iload_n (k := 2) (by decide +kernel) rfl
theorem k179_11 : qx sc D 179 11 ls st u bb σ Q ↔ qx sc D 179 28 ls st u bb σ Q := r_goto (off := 17) (by decide +kernel)
theorem k179_14 : qx sc D 179 14 [l0, l1, l2, vi x] st u bb σ Q ↔ qx sc D 179 15 [l0, l1, l2, vi x] (vi x :: st) u bb σ Q := r_iload_n (k := 3) (by decide +kernel) rfl
theorem k179_15 : qx sc D 179 15 ls st u bb σ Q ↔ qx sc D 179 28 ls st u bb σ Q := r_goto (off := 13) (by decide +kernel)
theorem k179_18 : qx sc D 179 18 [l0, l1, vi x, l3] st u bb σ Q ↔ qx sc D 179 19 [l0, l1, vi x, l3] (vi x :: st) u bb σ Q := r_iload_n (k := 2) (by decide +kernel) rfl
theorem k179_19 : qx sc D 179 19 [l0, l1, l2, vi x] st u bb σ Q ↔ qx sc D 179 20 [l0, l1, l2, vi x] (vi x :: st) u bb σ Q := r_iload_n (k := 3) (by decide +kernel) rfl
theorem k179_20 : qx sc D 179 20 ls (vi b' :: vi a' :: st) u bb σ Q ↔ (b' < a' → qx sc D 179 23 ls st u bb σ Q) ∧ (¬ (b' < a') → qx sc D 179 27 ls st u bb σ Q) := r_ic_le (off := 7) (t := 27) (by decide +kernel)
theorem k179_23 : qx sc D 179 23 [l0, l1, vi x, l3] st u bb σ Q ↔ qx sc D 179 24 [l0, l1, vi x, l3] (vi x :: st) u bb σ Q := r_iload_n (k := 2) (by decide +kernel) rfl
theorem k179_24 : qx sc D 179 24 ls st u bb σ Q ↔ qx sc D 179 28 ls st u bb σ Q := r_goto (off := 4) (by decide +kernel)
theorem k179_27 : qx sc D 179 27 [l0, l1, l2, vi x] st u bb σ Q ↔ qx sc D 179 28 [l0, l1, l2, vi x] (vi x :: st) u bb σ Q := r_iload_n (k := 3) (by decide +kernel) rfl
theorem k179_28 : qx sc D 179 28 ls [vi x] (0, 0) bb σ Q ↔ Q (.inl (some (vi x))) bb σ := r_ret (by decide +kernel)
-- 180: RowProverModel.makes(IIIII)I
theorem k180_0 : qx sc D 180 0 [vr a, l1, l2, l3, l4, l5, l6] st u bb σ Q ↔ qx sc D 180 1 [vr a, l1, l2, l3, l4, l5, l6] (vr a :: st) u bb σ Q := r_aload_n (k := 0) (by decide +kernel) rfl
theorem k180_1 : qx sc D 180 1 ls (vr 136 :: st) u bb σ Q ↔ qx sc D 180 4 ls (vi (σ 136 15) :: st) u bb σ Q := r_getI (idx := 30) (c := 15) (k := 15) (by decide +kernel)
theorem k180_4 : qx sc D 180 4 [l0, l1, l2, l3, l4, l5, l6] (vi x :: st) u bb σ Q ↔ qx sc D 180 6 [l0, l1, l2, l3, l4, l5, vi x] st u bb σ Q := r_istore (k := 6) (by decide +kernel) (Nat.le_of_ble_eq_true rfl)
theorem k180_6 : qx sc D 180 6 [vr a, l1, l2, l3, l4, l5, l6] st u bb σ Q ↔ qx sc D 180 7 [vr a, l1, l2, l3, l4, l5, l6] (vr a :: st) u bb σ Q := r_aload_n (k := 0) (by decide +kernel) rfl
theorem k180_7 : qx sc D 180 7 ls (vr 136 :: st) u bb σ Q ↔ qx sc D 180 10 ls (vr 147 :: st) u bb σ Q := r_getR (idx := 33) (c := 15) (k := 24) (by decide +kernel)
theorem k180_10 : qx sc D 180 10 [l0, l1, l2, l3, l4, l5, vi x] st u bb σ Q ↔ qx sc D 180 12 [l0, l1, l2, l3, l4, l5, vi x] (vi x :: st) u bb σ Q := r_iload (k := 6) (by decide +kernel) rfl
theorem k180_12 : qx sc D 180 12 [l0, vi x, l2, l3, l4, l5, l6] st u bb σ Q ↔ qx sc D 180 13 [l0, vi x, l2, l3, l4, l5, l6] (vi x :: st) u bb σ Q := r_iload_n (k := 1) (by decide +kernel) rfl
theorem k180_13 : qx sc D 180 13 ls (vi x :: vi i :: vr a :: st) u bb σ Q ↔ (q_ty a = 0 ∧ 0 ≤ i ∧ i < q_ln a) ∧ qx sc D 180 14 ls st u bb (q_up σ a i x) Q := r_iast (by decide +kernel)
theorem k180_14 : qx sc D 180 14 [vr a, l1, l2, l3, l4, l5, l6] st u bb σ Q ↔ qx sc D 180 15 [vr a, l1, l2, l3, l4, l5, l6] (vr a :: st) u bb σ Q := r_aload_n (k := 0) (by decide +kernel) rfl
theorem k180_15 : qx sc D 180 15 ls (vr 136 :: st) u bb σ Q ↔ qx sc D 180 18 ls (vr 148 :: st) u bb σ Q := r_getR (idx := 36) (c := 15) (k := 25) (by decide +kernel)
theorem k180_18 : qx sc D 180 18 [l0, l1, l2, l3, l4, l5, vi x] st u bb σ Q ↔ qx sc D 180 20 [l0, l1, l2, l3, l4, l5, vi x] (vi x :: st) u bb σ Q := r_iload (k := 6) (by decide +kernel) rfl
theorem k180_20 : qx sc D 180 20 [l0, l1, vi x, l3, l4, l5, l6] st u bb σ Q ↔ qx sc D 180 21 [l0, l1, vi x, l3, l4, l5, l6] (vi x :: st) u bb σ Q := r_iload_n (k := 2) (by decide +kernel) rfl
theorem k180_21 : qx sc D 180 21 ls (vi x :: vi i :: vr a :: st) u bb σ Q ↔ (q_ty a = 0 ∧ 0 ≤ i ∧ i < q_ln a) ∧ qx sc D 180 22 ls st u bb (q_up σ a i x) Q := r_iast (by decide +kernel)
theorem k180_22 : qx sc D 180 22 [vr a, l1, l2, l3, l4, l5, l6] st u bb σ Q ↔ qx sc D 180 23 [vr a, l1, l2, l3, l4, l5, l6] (vr a :: st) u bb σ Q := r_aload_n (k := 0) (by decide +kernel) rfl
theorem k180_23 : qx sc D 180 23 ls (vr 136 :: st) u bb σ Q ↔ qx sc D 180 26 ls (vr 149 :: st) u bb σ Q := r_getR (idx := 39) (c := 15) (k := 26) (by decide +kernel)
theorem k180_26 : qx sc D 180 26 [l0, l1, l2, l3, l4, l5, vi x] st u bb σ Q ↔ qx sc D 180 28 [l0, l1, l2, l3, l4, l5, vi x] (vi x :: st) u bb σ Q := r_iload (k := 6) (by decide +kernel) rfl
theorem k180_28 : qx sc D 180 28 [l0, l1, l2, vi x, l4, l5, l6] st u bb σ Q ↔ qx sc D 180 29 [l0, l1, l2, vi x, l4, l5, l6] (vi x :: st) u bb σ Q := r_iload_n (k := 3) (by decide +kernel) rfl
theorem k180_29 : qx sc D 180 29 ls (vi x :: vi i :: vr a :: st) u bb σ Q ↔ (q_ty a = 0 ∧ 0 ≤ i ∧ i < q_ln a) ∧ qx sc D 180 30 ls st u bb (q_up σ a i x) Q := r_iast (by decide +kernel)
theorem k180_30 : qx sc D 180 30 [vr a, l1, l2, l3, l4, l5, l6] st u bb σ Q ↔ qx sc D 180 31 [vr a, l1, l2, l3, l4, l5, l6] (vr a :: st) u bb σ Q := r_aload_n (k := 0) (by decide +kernel) rfl
theorem k180_31 : qx sc D 180 31 ls (vr 136 :: st) u bb σ Q ↔ qx sc D 180 34 ls (vr 150 :: st) u bb σ Q := r_getR (idx := 42) (c := 15) (k := 27) (by decide +kernel)
theorem k180_34 : qx sc D 180 34 [l0, l1, l2, l3, l4, l5, vi x] st u bb σ Q ↔ qx sc D 180 36 [l0, l1, l2, l3, l4, l5, vi x] (vi x :: st) u bb σ Q := r_iload (k := 6) (by decide +kernel) rfl
theorem k180_36 : qx sc D 180 36 [l0, l1, l2, l3, vi x, l5, l6] st u bb σ Q ↔ qx sc D 180 38 [l0, l1, l2, l3, vi x, l5, l6] (vi x :: st) u bb σ Q := r_iload (k := 4) (by decide +kernel) rfl
theorem k180_38 : qx sc D 180 38 ls (vi x :: vi i :: vr a :: st) u bb σ Q ↔ (q_ty a = 0 ∧ 0 ≤ i ∧ i < q_ln a) ∧ qx sc D 180 39 ls st u bb (q_up σ a i x) Q := r_iast (by decide +kernel)
theorem k180_39 : qx sc D 180 39 [vr a, l1, l2, l3, l4, l5, l6] st u bb σ Q ↔ qx sc D 180 40 [vr a, l1, l2, l3, l4, l5, l6] (vr a :: st) u bb σ Q := r_aload_n (k := 0) (by decide +kernel) rfl
theorem k180_40 : qx sc D 180 40 ls (vr 136 :: st) u bb σ Q ↔ qx sc D 180 43 ls (vr 151 :: st) u bb σ Q := r_getR (idx := 45) (c := 15) (k := 28) (by decide +kernel)
theorem k180_43 : qx sc D 180 43 [l0, l1, l2, l3, l4, l5, vi x] st u bb σ Q ↔ qx sc D 180 45 [l0, l1, l2, l3, l4, l5, vi x] (vi x :: st) u bb σ Q := r_iload (k := 6) (by decide +kernel) rfl
theorem k180_45 : qx sc D 180 45 [l0, l1, l2, l3, l4, vi x, l6] st u bb σ Q ↔ qx sc D 180 47 [l0, l1, l2, l3, l4, vi x, l6] (vi x :: st) u bb σ Q := r_iload (k := 5) (by decide +kernel) rfl
theorem k180_47 : qx sc D 180 47 ls (vi x :: vi i :: vr a :: st) u bb σ Q ↔ (q_ty a = 0 ∧ 0 ≤ i ∧ i < q_ln a) ∧ qx sc D 180 48 ls st u bb (q_up σ a i x) Q := r_iast (by decide +kernel)
theorem k180_48 : qx sc D 180 48 [vr a, l1, l2, l3, l4, l5, l6] st u bb σ Q ↔ qx sc D 180 49 [vr a, l1, l2, l3, l4, l5, l6] (vr a :: st) u bb σ Q := r_aload_n (k := 0) (by decide +kernel) rfl
theorem k180_49 : qx sc D 180 49 ls (vr 136 :: st) u bb σ Q ↔ qx sc D 180 52 ls (vr 152 :: st) u bb σ Q := r_getR (idx := 48) (c := 15) (k := 29) (by decide +kernel)
theorem k180_52 : qx sc D 180 52 [l0, l1, l2, l3, l4, l5, vi x] st u bb σ Q ↔ qx sc D 180 54 [l0, l1, l2, l3, l4, l5, vi x] (vi x :: st) u bb σ Q := r_iload (k := 6) (by decide +kernel) rfl
theorem k180_54 : qx sc D 180 54 ls st u bb σ Q ↔ qx sc D 180 55 ls (vi 0 :: st) u bb σ Q := r_iconst (by decide +kernel)
theorem k180_55 : qx sc D 180 55 ls (vi x :: vi i :: vr a :: st) u bb σ Q ↔ (q_ty a = 0 ∧ 0 ≤ i ∧ i < q_ln a) ∧ qx sc D 180 56 ls st u bb (q_up σ a i x) Q := r_iast (by decide +kernel)
theorem k180_56 : qx sc D 180 56 [vr a, l1, l2, l3, l4, l5, l6] st u bb σ Q ↔ qx sc D 180 57 [vr a, l1, l2, l3, l4, l5, l6] (vr a :: st) u bb σ Q := r_aload_n (k := 0) (by decide +kernel) rfl
theorem k180_57 : qx sc D 180 57 ls (vr 136 :: st) u bb σ Q ↔ qx sc D 180 60 ls (vr 153 :: st) u bb σ Q := r_getR (idx := 51) (c := 15) (k := 30) (by decide +kernel)
theorem k180_60 : qx sc D 180 60 [l0, l1, l2, l3, l4, l5, vi x] st u bb σ Q ↔ qx sc D 180 62 [l0, l1, l2, l3, l4, l5, vi x] (vi x :: st) u bb σ Q := r_iload (k := 6) (by decide +kernel) rfl
theorem k180_62 : qx sc D 180 62 ls st u bb σ Q ↔ qx sc D 180 63 ls (vi (-1) :: st) u bb σ Q := r_iconst (by decide +kernel)
theorem k180_63 : qx sc D 180 63 ls (vi x :: vi i :: vr a :: st) u bb σ Q ↔ (q_ty a = 0 ∧ 0 ≤ i ∧ i < q_ln a) ∧ qx sc D 180 64 ls st u bb (q_up σ a i x) Q := r_iast (by decide +kernel)
theorem k180_64 : qx sc D 180 64 [vr a, l1, l2, l3, l4, l5, l6] st u bb σ Q ↔ qx sc D 180 65 [vr a, l1, l2, l3, l4, l5, l6] (vr a :: st) u bb σ Q := r_aload_n (k := 0) (by decide +kernel) rfl
theorem k180_65 : qx sc D 180 65 ls (vr 136 :: st) u bb σ Q ↔ qx sc D 180 68 ls (vr 154 :: st) u bb σ Q := r_getR (idx := 54) (c := 15) (k := 31) (by decide +kernel)
theorem k180_68 : qx sc D 180 68 [l0, l1, l2, l3, l4, l5, vi x] st u bb σ Q ↔ qx sc D 180 70 [l0, l1, l2, l3, l4, l5, vi x] (vi x :: st) u bb σ Q := r_iload (k := 6) (by decide +kernel) rfl
theorem k180_70 : qx sc D 180 70 ls st u bb σ Q ↔ qx sc D 180 71 ls (vi 0 :: st) u bb σ Q := r_iconst (by decide +kernel)
theorem k180_71 : qx sc D 180 71 ls (vi x :: vi i :: vr a :: st) u bb σ Q ↔ (q_ty a = 0 ∧ 0 ≤ i ∧ i < q_ln a) ∧ qx sc D 180 72 ls st u bb (q_up σ a i x) Q := r_iast (by decide +kernel)
theorem k180_72 : qx sc D 180 72 [vr a, l1, l2, l3, l4, l5, l6] st u bb σ Q ↔ qx sc D 180 73 [vr a, l1, l2, l3, l4, l5, l6] (vr a :: st) u bb σ Q := r_aload_n (k := 0) (by decide +kernel) rfl
theorem k180_73 : qx sc D 180 73 ls (vr a :: st) u bb σ Q ↔ qx sc D 180 74 ls (vr a :: vr a :: st) u bb σ Q := r_dupA (by decide +kernel)
theorem k180_74 : qx sc D 180 74 ls (vr 136 :: st) u bb σ Q ↔ qx sc D 180 77 ls (vi (σ 136 15) :: st) u bb σ Q := r_getI (idx := 30) (c := 15) (k := 15) (by decide +kernel)
theorem k180_77 : qx sc D 180 77 ls st u bb σ Q ↔ qx sc D 180 78 ls (vi 1 :: st) u bb σ Q := r_iconst (by decide +kernel)
theorem k180_78 : qx sc D 180 78 ls (vi b' :: vi a' :: st) u bb σ Q ↔ q_R (a' + b') ∧ qx sc D 180 79 ls (vi (a' + b') :: st) u bb σ Q := r_iadd (by decide +kernel)
theorem k180_79 : qx sc D 180 79 ls (vi x :: vr 136 :: st) u bb σ Q ↔ qx sc D 180 82 ls st u bb (q_up σ 136 15 x) Q := r_putI (idx := 30) (c := 15) (k := 15) (by decide +kernel)
theorem k180_82 : qx sc D 180 82 [vr a, l1, l2, l3, l4, l5, l6] st u bb σ Q ↔ qx sc D 180 83 [vr a, l1, l2, l3, l4, l5, l6] (vr a :: st) u bb σ Q := r_aload_n (k := 0) (by decide +kernel) rfl
theorem k180_83 : qx sc D 180 83 ls (vr 136 :: st) u bb σ Q ↔ qx sc D 180 86 ls (vr 171 :: st) u bb σ Q := r_getR (idx := 57) (c := 15) (k := 48) (by decide +kernel)
theorem k180_86 : qx sc D 180 86 [l0, vi x, l2, l3, l4, l5, l6] st u bb σ Q ↔ qx sc D 180 87 [l0, vi x, l2, l3, l4, l5, l6] (vi x :: st) u bb σ Q := r_iload_n (k := 1) (by decide +kernel) rfl
theorem k180_87 : qx sc D 180 87 [l0, l1, l2, l3, l4, l5, vi x] st u bb σ Q ↔ qx sc D 180 89 [l0, l1, l2, l3, l4, l5, vi x] (vi x :: st) u bb σ Q := r_iload (k := 6) (by decide +kernel) rfl
theorem k180_89 : qx sc D 180 89 ls (vi x :: vi i :: vr a :: st) u bb σ Q ↔ (q_ty a = 0 ∧ 0 ≤ i ∧ i < q_ln a) ∧ qx sc D 180 90 ls st u bb (q_up σ a i x) Q := r_iast (by decide +kernel)
theorem k180_90 : qx sc D 180 90 [l0, l1, l2, l3, l4, l5, vi x] st u bb σ Q ↔ qx sc D 180 92 [l0, l1, l2, l3, l4, l5, vi x] (vi x :: st) u bb σ Q := r_iload (k := 6) (by decide +kernel) rfl
theorem k180_92 : qx sc D 180 92 ls [vi x] (0, 0) bb σ Q ↔ Q (.inl (some (vi x))) bb σ := r_ret (by decide +kernel)
-- 181: RowProverModel.makesSides(II)V
theorem k181_0 : qx sc D 181 0 ls st u bb σ Q ↔ qx sc D 181 1 ls (vi 0 :: st) u bb σ Q := r_iconst (by decide +kernel)
theorem k181_1 : qx sc D 181 1 [l0, l1, l2, l3, l4, l5] (vi x :: st) u bb σ Q ↔ qx sc D 181 2 [l0, l1, l2, vi x, l4, l5] st u bb σ Q := r_istore_n (k := 3) (by decide +kernel) (Nat.le_of_ble_eq_true rfl)
theorem k181_2 : qx sc D 181 2 [l0, l1, l2, vi x, l4, l5] st u bb σ Q ↔ qx sc D 181 3 [l0, l1, l2, vi x, l4, l5] (vi x :: st) u bb σ Q := r_iload_n (k := 3) (by decide +kernel) rfl
theorem k181_3 : qx sc D 181 3 ls st u bb σ Q ↔ qx sc D 181 4 ls (vi 2 :: st) u bb σ Q := r_iconst (by decide +kernel)
theorem k181_4 : qx sc D 181 4 ls (vi b' :: vi a' :: st) u bb σ Q ↔ (a' < b' → qx sc D 181 7 ls st u bb σ Q) ∧ (¬ (a' < b') → qx sc D 181 65 ls st u bb σ Q) := r_ic_ge (off := 61) (t := 65) (by decide +kernel)
theorem k181_7 : qx sc D 181 7 [vr a, l1, l2, l3, l4, l5] st u bb σ Q ↔ qx sc D 181 8 [vr a, l1, l2, l3, l4, l5] (vr a :: st) u bb σ Q := r_aload_n (k := 0) (by decide +kernel) rfl
theorem k181_8 : qx sc D 181 8 [l0, vi x, l2, l3, l4, l5] st u bb σ Q ↔ qx sc D 181 9 [l0, vi x, l2, l3, l4, l5] (vi x :: st) u bb σ Q := r_iload_n (k := 1) (by decide +kernel) rfl
theorem k181_9 : qx sc D 181 9 [l0, l1, l2, vi x, l4, l5] st u bb σ Q ↔ qx sc D 181 10 [l0, l1, l2, vi x, l4, l5] (vi x :: st) u bb σ Q := r_iload_n (k := 3) (by decide +kernel) rfl
theorem k181_10 : qx sc (D + 1) 181 10 ls [vi x1, vi x0, vr 136] (0, 0) bb σ Q ↔ qx sc D 155 0 [vr 136, vi x0, vi x1] [] (0, 0) bb σ (q_kn sc (D + 1) 181 13 ls [] (0, 0) Q) := r_callv (idx := 236) (n := 2) (m := 3) (by decide +kernel) rfl (Nat.le_of_ble_eq_true rfl) ⟨Nat.le_of_ble_eq_true rfl, Nat.le_of_ble_eq_true rfl, rfl⟩ rfl
theorem k181_13 : qx sc D 181 13 ls (vi x :: st) u bb σ Q ↔ (x = 0 → qx sc D 181 16 ls st u bb σ Q) ∧ (¬ (x = 0) → qx sc D 181 19 ls st u bb σ Q) := r_if_ne (off := 6) (t := 19) (by decide +kernel)
theorem k181_16 : qx sc D 181 16 ls st u bb σ Q ↔ qx sc D 181 59 ls st u bb σ Q := r_goto (off := 43) (by decide +kernel)
theorem k181_19 : qx sc D 181 19 [vr a, l1, l2, l3, l4, l5] st u bb σ Q ↔ qx sc D 181 20 [vr a, l1, l2, l3, l4, l5] (vr a :: st) u bb σ Q := r_aload_n (k := 0) (by decide +kernel) rfl
theorem k181_20 : qx sc D 181 20 [vr a, l1, l2, l3, l4, l5] st u bb σ Q ↔ qx sc D 181 21 [vr a, l1, l2, l3, l4, l5] (vr a :: st) u bb σ Q := r_aload_n (k := 0) (by decide +kernel) rfl
theorem k181_21 : qx sc D 181 21 ls (vr 136 :: st) u bb σ Q ↔ qx sc D 181 24 ls (vr 166 :: st) u bb σ Q := r_getR (idx := 223) (c := 15) (k := 43) (by decide +kernel)
theorem k181_24 : qx sc D 181 24 ls st u bb σ Q ↔ qx sc D 181 25 ls (vi 2 :: st) u bb σ Q := r_iconst (by decide +kernel)
theorem k181_25 : qx sc D 181 25 [l0, vi x, l2, l3, l4, l5] st u bb σ Q ↔ qx sc D 181 26 [l0, vi x, l2, l3, l4, l5] (vi x :: st) u bb σ Q := r_iload_n (k := 1) (by decide +kernel) rfl
theorem k181_26 : qx sc D 181 26 ls (vi b' :: vi a' :: st) u bb σ Q ↔ q_R (a' * b') ∧ qx sc D 181 27 ls (vi (a' * b') :: st) u bb σ Q := r_imul (by decide +kernel)
theorem k181_27 : qx sc D 181 27 [l0, l1, l2, vi x, l4, l5] st u bb σ Q ↔ qx sc D 181 28 [l0, l1, l2, vi x, l4, l5] (vi x :: st) u bb σ Q := r_iload_n (k := 3) (by decide +kernel) rfl
theorem k181_28 : qx sc D 181 28 ls (vi b' :: vi a' :: st) u bb σ Q ↔ q_R (a' + b') ∧ qx sc D 181 29 ls (vi (a' + b') :: st) u bb σ Q := r_iadd (by decide +kernel)
theorem k181_29 : qx sc D 181 29 ls (vi i :: vr a :: st) u bb σ Q ↔ (q_ty a = 0 ∧ 0 ≤ i ∧ i < q_ln a) ∧ qx sc D 181 30 ls (vi (σ a i) :: st) u bb σ Q := r_iald (by decide +kernel)
theorem k181_30 : qx sc D 181 30 [l0, l1, vi x, l3, l4, l5] st u bb σ Q ↔ qx sc D 181 31 [l0, l1, vi x, l3, l4, l5] (vi x :: st) u bb σ Q := r_iload_n (k := 2) (by decide +kernel) rfl
theorem k181_31 : qx sc D 181 31 [l0, vi x, l2, l3, l4, l5] st u bb σ Q ↔ qx sc D 181 32 [l0, vi x, l2, l3, l4, l5] (vi x :: st) u bb σ Q := r_iload_n (k := 1) (by decide +kernel) rfl
theorem k181_32 : qx sc D 181 32 [vr a, l1, l2, l3, l4, l5] st u bb σ Q ↔ qx sc D 181 33 [vr a, l1, l2, l3, l4, l5] (vr a :: st) u bb σ Q := r_aload_n (k := 0) (by decide +kernel) rfl
theorem k181_33 : qx sc D 181 33 ls (vr 136 :: st) u bb σ Q ↔ qx sc D 181 36 ls (vr 167 :: st) u bb σ Q := r_getR (idx := 233) (c := 15) (k := 44) (by decide +kernel)
theorem k181_36 : qx sc D 181 36 ls st u bb σ Q ↔ qx sc D 181 37 ls (vi 2 :: st) u bb σ Q := r_iconst (by decide +kernel)
theorem k181_37 : qx sc D 181 37 [l0, vi x, l2, l3, l4, l5] st u bb σ Q ↔ qx sc D 181 38 [l0, vi x, l2, l3, l4, l5] (vi x :: st) u bb σ Q := r_iload_n (k := 1) (by decide +kernel) rfl
theorem k181_38 : qx sc D 181 38 ls (vi b' :: vi a' :: st) u bb σ Q ↔ q_R (a' * b') ∧ qx sc D 181 39 ls (vi (a' * b') :: st) u bb σ Q := r_imul (by decide +kernel)
theorem k181_39 : qx sc D 181 39 [l0, l1, l2, vi x, l4, l5] st u bb σ Q ↔ qx sc D 181 40 [l0, l1, l2, vi x, l4, l5] (vi x :: st) u bb σ Q := r_iload_n (k := 3) (by decide +kernel) rfl
theorem k181_40 : qx sc D 181 40 ls (vi b' :: vi a' :: st) u bb σ Q ↔ q_R (a' + b') ∧ qx sc D 181 41 ls (vi (a' + b') :: st) u bb σ Q := r_iadd (by decide +kernel)
theorem k181_41 : qx sc D 181 41 ls (vi i :: vr a :: st) u bb σ Q ↔ (q_ty a = 0 ∧ 0 ≤ i ∧ i < q_ln a) ∧ qx sc D 181 42 ls (vi (σ a i) :: st) u bb σ Q := r_iald (by decide +kernel)
theorem k181_42 : qx sc D 181 42 ls st u bb σ Q ↔ qx sc D 181 43 ls (vi (-1) :: st) u bb σ Q := r_iconst (by decide +kernel)
theorem k181_43 : qx sc (D + 1) 181 43 ls [vi x4, vi x3, vi x2, vi x1, vi x0, vr 136] (0, 0) bb σ Q ↔ qx sc D 180 0 [vr 136, vi x0, vi x1, vi x2, vi x3, vi x4, vn] [] (0, 0) bb σ (q_kn sc (D + 1) 181 46 ls [] (0, 0) Q) := r_callv (idx := 211) (n := 5) (m := 7) (by decide +kernel) rfl (Nat.le_of_ble_eq_true rfl) ⟨Nat.le_of_ble_eq_true rfl, Nat.le_of_ble_eq_true rfl, rfl⟩ rfl
theorem k181_46 : qx sc D 181 46 [l0, l1, l2, l3, l4, l5] (vi x :: st) u bb σ Q ↔ qx sc D 181 48 [l0, l1, l2, l3, vi x, l5] st u bb σ Q := r_istore (k := 4) (by decide +kernel) (Nat.le_of_ble_eq_true rfl)
theorem k181_48 : qx sc D 181 48 [vr a, l1, l2, l3, l4, l5] st u bb σ Q ↔ qx sc D 181 49 [vr a, l1, l2, l3, l4, l5] (vr a :: st) u bb σ Q := r_aload_n (k := 0) (by decide +kernel) rfl
theorem k181_49 : qx sc D 181 49 ls st u bb σ Q ↔ qx sc D 181 51 ls (vi 6 :: st) u bb σ Q := r_bipush (by decide +kernel)
theorem k181_51 : qx sc D 181 51 [l0, l1, l2, l3, vi x, l5] st u bb σ Q ↔ qx sc D 181 53 [l0, l1, l2, l3, vi x, l5] (vi x :: st) u bb σ Q := r_iload (k := 4) (by decide +kernel) rfl
theorem k181_53 : qx sc D 181 53 ls st u bb σ Q ↔ qx sc D 181 54 ls (vi 0 :: st) u bb σ Q := r_iconst (by decide +kernel)
theorem k181_54 : qx sc (D + 1) 181 54 ls [vi x2, vi x1, vi x0, vr 136] (0, 0) bb σ Q ↔ qx sc D 172 0 [vr 136, vi x0, vi x1, vi x2] [] (0, 0) bb σ (q_kn sc (D + 1) 181 57 ls [] (0, 0) Q) := r_callv (idx := 186) (n := 3) (m := 4) (by decide +kernel) rfl (Nat.le_of_ble_eq_true rfl) ⟨Nat.le_of_ble_eq_true rfl, Nat.le_of_ble_eq_true rfl, rfl⟩ rfl
theorem k181_57 : qx sc D 181 57 [l0, l1, l2, l3, l4, l5] (vi x :: st) u bb σ Q ↔ qx sc D 181 59 [l0, l1, l2, l3, l4, vi x] st u bb σ Q := r_istore (k := 5) (by decide +kernel) (Nat.le_of_ble_eq_true rfl)
theorem k181_59 : qx sc D 181 59 [l0, l1, l2, vi x, l4, l5] st u bb σ Q ↔ q_R (x + 1) ∧ qx sc D 181 62 [l0, l1, l2, vi (x + 1), l4, l5] st u bb σ Q := r_iinc (k := 3) (n := 1) (by decide +kernel) rfl
theorem k181_62 : qx sc D 181 62 ls st u bb σ Q ↔ qx sc D 181 2 ls st u bb σ Q := r_goto (off := (-60)) (by decide +kernel)
theorem k181_65 : qx sc D 181 65 ls [] (0, 0) bb σ Q ↔ Q (.inl none) bb σ := r_retV (by decide +kernel)
-- 182: RowProverModel.more(II)I
theorem k182_0 : qx sc D 182 0 [vi x, l1] st u bb σ Q ↔ qx sc D 182 1 [vi x, l1] (vi x :: st) u bb σ Q := r_iload_n (k := 0) (by decide +kernel) rfl
theorem k182_1 : qx sc D 182 1 ls st u bb σ Q ↔ qx sc D 182 4 ls (vi 268435456 :: st) u bb σ Q := r_ldc_w (idx := 361) (v := 268435456) (by decide +kernel)
theorem k182_4 : qx sc D 182 4 ls (vi b' :: vi a' :: st) u bb σ Q ↔ (a' = b' → qx sc D 182 14 ls st u bb σ Q) ∧ (¬ (a' = b') → qx sc D 182 7 ls st u bb σ Q) := r_ic_eq (off := 10) (t := 14) (by decide +kernel)
theorem k182_7 : qx sc D 182 7 [vi x, l1] st u bb σ Q ↔ qx sc D 182 8 [vi x, l1] (vi x :: st) u bb σ Q := r_iload_n (k := 0) (by decide +kernel) rfl
theorem k182_8 : qx sc D 182 8 ls st u bb σ Q ↔ qx sc D 182 11 ls (vi (-268435456) :: st) u bb σ Q := r_ldc_w (idx := 362) (v := (-268435456)) (by decide +kernel)
theorem k182_11 : qx sc D 182 11 ls (vi b' :: vi a' :: st) u bb σ Q ↔ (a' = b' → qx sc D 182 14 ls st u bb σ Q) ∧ (¬ (a' = b') → qx sc D 182 18 ls st u bb σ Q) := r_ic_ne (off := 7) (t := 18) (by decide +kernel)
theorem k182_14 : qx sc D 182 14 [vi x, l1] st u bb σ Q ↔ qx sc D 182 15 [vi x, l1] (vi x :: st) u bb σ Q := r_iload_n (k := 0) (by decide +kernel) rfl
theorem k182_15 : qx sc D 182 15 ls st u bb σ Q ↔ qx sc D 182 21 ls st u bb σ Q := r_goto (off := 6) (by decide +kernel)
theorem k182_18 : qx sc D 182 18 [vi x, l1] st u bb σ Q ↔ qx sc D 182 19 [vi x, l1] (vi x :: st) u bb σ Q := r_iload_n (k := 0) (by decide +kernel) rfl
theorem k182_19 : qx sc D 182 19 [l0, vi x] st u bb σ Q ↔ qx sc D 182 20 [l0, vi x] (vi x :: st) u bb σ Q := r_iload_n (k := 1) (by decide +kernel) rfl
theorem k182_20 : qx sc D 182 20 ls (vi b' :: vi a' :: st) u bb σ Q ↔ q_R (a' + b') ∧ qx sc D 182 21 ls (vi (a' + b') :: st) u bb σ Q := r_iadd (by decide +kernel)
theorem k182_21 : qx sc D 182 21 ls [vi x] (0, 0) bb σ Q ↔ Q (.inl (some (vi x))) bb σ := r_ret (by decide +kernel)
end K_305_kM1
