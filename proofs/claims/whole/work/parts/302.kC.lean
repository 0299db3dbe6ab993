section K_302_kC
variable {sc : Nat × (Nat → Int32)} {D : Nat} {ls st : List V2} {u : PU} {bb : Bool} {σ : St} {Q : QP} {x i a' b' x0 x1 x2 x3 x4 x5 x20 x21 x22 x23 x24 : Int} {a b c a0 a1 a2 a3 a4 a20 a21 a22 a23 : Nat} {l0 l1 l2 l3 l4 l5 l6 l7 l8 l9 l10 l11 l12 : V2}
-- 10: RowProver$Code.addCheck(III)V
theorem k10_0 : qx sc D 10 0 [vr a, l1, l2, l3, l4] st u bb σ Q ↔ qx sc D 10 1 [vr a, l1, l2, l3, l4] (vr a :: st) u bb σ Q := r_aload_n (k := 0) (by decide +kernel) rfl
theorem k10_1 (hc : q_C c) : qx sc D 10 1 ls (vr c :: st) u bb σ Q ↔ qx sc D 10 4 ls (vi (σ c 1) :: st) u bb σ Q := r_getIc (idx := 74) (k := 1) (by decide +kernel) hc
theorem k10_4 : qx sc D 10 4 [l0, l1, l2, l3, l4] (vi x :: st) u bb σ Q ↔ qx sc D 10 6 [l0, l1, l2, l3, vi x] st u bb σ Q := r_istore (k := 4) (by decide +kernel) (Nat.le_of_ble_eq_true rfl)
theorem k10_6 : qx sc D 10 6 [vr a, l1, l2, l3, l4] st u bb σ Q ↔ qx sc D 10 7 [vr a, l1, l2, l3, l4] (vr a :: st) u bb σ Q := r_aload_n (k := 0) (by decide +kernel) rfl
theorem k10_7 : qx sc D 10 7 ls (vr a :: st) u bb σ Q ↔ qx sc D 10 8 ls (vr a :: vr a :: st) u bb σ Q := r_dupA (by decide +kernel)
theorem k10_8 (hc : q_C c) : qx sc D 10 8 ls (vr c :: st) u bb σ Q ↔ qx sc D 10 11 ls (vi (σ c 1) :: st) u bb σ Q := r_getIc (idx := 74) (k := 1) (by decide +kernel) hc
theorem k10_11 : qx sc D 10 11 ls st u bb σ Q ↔ qx sc D 10 12 ls (vi 1 :: st) u bb σ Q := r_iconst (by decide +kernel)
theorem k10_12 : qx sc D 10 12 ls (vi b' :: vi a' :: st) u bb σ Q ↔ q_R (a' + b') ∧ qx sc D 10 13 ls (vi (a' + b') :: st) u bb σ Q := r_iadd (by decide +kernel)
theorem k10_13 (hc : q_C c) : qx sc D 10 13 ls (vi x :: vr c :: st) u bb σ Q ↔ qx sc D 10 16 ls st u bb (q_up σ c 1 x) Q := r_putIc (idx := 74) (k := 1) (by decide +kernel) hc
theorem k10_16 : qx sc D 10 16 [vr a, l1, l2, l3, l4] st u bb σ Q ↔ qx sc D 10 17 [vr a, l1, l2, l3, l4] (vr a :: st) u bb σ Q := r_aload_n (k := 0) (by decide +kernel) rfl
theorem k10_17 (hc : q_C c) : qx sc D 10 17 ls (vr c :: st) u bb σ Q ↔ qx sc D 10 20 ls (vr (c + 7) :: st) u bb σ Q := r_getRc (idx := 30) (k := 9) (by decide +kernel) hc
theorem k10_20 : qx sc D 10 20 [l0, vi x, l2, l3, l4] st u bb σ Q ↔ qx sc D 10 21 [l0, vi x, l2, l3, l4] (vi x :: st) u bb σ Q := r_iload_n (k := 1) (by decide +kernel) rfl
theorem k10_21 : qx sc D 10 21 [l0, l1, l2, l3, vi x] st u bb σ Q ↔ qx sc D 10 23 [l0, l1, l2, l3, vi x] (vi x :: st) u bb σ Q := r_iload (k := 4) (by decide +kernel) rfl
theorem k10_23 : qx sc D 10 23 ls (vi x :: vi i :: vr a :: st) u bb σ Q ↔ (q_ty a = 0 ∧ 0 ≤ i ∧ i < q_ln a) ∧ qx sc D 10 24 ls st u bb (q_up σ a i x) Q := r_iast (by decide +kernel)
theorem k10_24 : qx sc D 10 24 [vr a, l1, l2, l3, l4] st u bb σ Q ↔ qx sc D 10 25 [vr a, l1, l2, l3, l4] (vr a :: st) u bb σ Q := r_aload_n (k := 0) (by decide +kernel) rfl
theorem k10_25 (hc : q_C c) : qx sc D 10 25 ls (vr c :: st) u bb σ Q ↔ qx sc D 10 28 ls (vr (c + 12) :: st) u bb σ Q := r_getRc (idx := 45) (k := 14) (by decide +kernel) hc
theorem k10_28 : qx sc D 10 28 [l0, l1, l2, l3, vi x] st u bb σ Q ↔ qx sc D 10 30 [l0, l1, l2, l3, vi x] (vi x :: st) u bb σ Q := r_iload (k := 4) (by decide +kernel) rfl
theorem k10_30 : qx sc D 10 30 [l0, vi x, l2, l3, l4] st u bb σ Q ↔ qx sc D 10 31 [l0, vi x, l2, l3, l4] (vi x :: st) u bb σ Q := r_iload_n (k := 1) (by decide +kernel) rfl
theorem k10_31 : qx sc D 10 31 ls (vi x :: vi i :: vr a :: st) u bb σ Q ↔ (q_ty a = 0 ∧ 0 ≤ i ∧ i < q_ln a) ∧ qx sc D 10 32 ls st u bb (q_up σ a i x) Q := r_iast (by decide +kernel)
theorem k10_32 : qx sc D 10 32 [vr a, l1, l2, l3, l4] st u bb σ Q ↔ qx sc D 10 33 [vr a, l1, l2, l3, l4] (vr a :: st) u bb σ Q := r_aload_n (k := 0) (by decide +kernel) rfl
theorem k10_33 (hc : q_C c) : qx sc D 10 33 ls (vr c :: st) u bb σ Q ↔ qx sc D 10 36 ls (vr (c + 13) :: st) u bb σ Q := r_getRc (idx := 48) (k := 15) (by decide +kernel) hc
theorem k10_36 : qx sc D 10 36 [l0, l1, l2, l3, vi x] st u bb σ Q ↔ qx sc D 10 38 [l0, l1, l2, l3, vi x] (vi x :: st) u bb σ Q := r_iload (k := 4) (by decide +kernel) rfl
theorem k10_38 : qx sc D 10 38 [l0, l1, vi x, l3, l4] st u bb σ Q ↔ qx sc D 10 39 [l0, l1, vi x, l3, l4] (vi x :: st) u bb σ Q := r_iload_n (k := 2) (by decide +kernel) rfl
theorem k10_39 : qx sc D 10 39 ls (vi x :: vi i :: vr a :: st) u bb σ Q ↔ (q_ty a = 0 ∧ 0 ≤ i ∧ i < q_ln a) ∧ qx sc D 10 40 ls st u bb (q_up σ a i x) Q := r_iast (by decide +kernel)
theorem k10_40 : qx sc D 10 40 [vr a, l1, l2, l3, l4] st u bb σ Q ↔ qx sc D 10 41 [vr a, l1, l2, l3, l4] (vr a :: st) u bb σ Q := r_aload_n (k := 0) (by decide +kernel) rfl
theorem k10_41 (hc : q_C c) : qx sc D 10 41 ls (vr c :: st) u bb σ Q ↔ qx sc D 10 44 ls (vr (c + 14) :: st) u bb σ Q := r_getRc (idx := 51) (k := 16) (by decide +kernel) hc
theorem k10_44 : qx sc D 10 44 [l0, l1, l2, l3, vi x] st u bb σ Q ↔ qx sc D 10 46 [l0, l1, l2, l3, vi x] (vi x :: st) u bb σ Q := r_iload (k := 4) (by decide +kernel) rfl
theorem k10_46 : qx sc D 10 46 [l0, l1, l2, vi x, l4] st u bb σ Q ↔ qx sc D 10 47 [l0, l1, l2, vi x, l4] (vi x :: st) u bb σ Q := r_iload_n (k := 3) (by decide +kernel) rfl
theorem k10_47 : qx sc D 10 47 ls (vi x :: vi i :: vr a :: st) u bb σ Q ↔ (q_ty a = 0 ∧ 0 ≤ i ∧ i < q_ln a) ∧ qx sc D 10 48 ls st u bb (q_up σ a i x) Q := r_iast (by decide +kernel)
theorem k10_48 : qx sc D 10 48 ls [] (0, 0) bb σ Q ↔ Q (.inl none) bb σ := r_retV (by decide +kernel)
-- 11: RowProver$Code.addLoop(I)I
theorem k11_0 : qx sc D 11 0 [vr a, l1, l2] st u bb σ Q ↔ qx sc D 11 1 [vr a, l1, l2] (vr a :: st) u bb σ Q := r_aload_n (k := 0) (by decide +kernel) rfl
theorem k11_1 (hc : q_C c) : qx sc D 11 1 ls (vr c :: st) u bb σ Q ↔ qx sc D 11 4 ls (vi (σ c 2) :: st) u bb σ Q := r_getIc (idx := 77) (k := 2) (by decide +kernel) hc
theorem k11_4 : qx sc D 11 4 [l0, l1, l2] (vi x :: st) u bb σ Q ↔ qx sc D 11 5 [l0, l1, vi x] st u bb σ Q := r_istore_n (k := 2) (by decide +kernel) (Nat.le_of_ble_eq_true rfl)
theorem k11_5 : qx sc D 11 5 [vr a, l1, l2] st u bb σ Q ↔ qx sc D 11 6 [vr a, l1, l2] (vr a :: st) u bb σ Q := r_aload_n (k := 0) (by decide +kernel) rfl
theorem k11_6 : qx sc D 11 6 ls (vr a :: st) u bb σ Q ↔ qx sc D 11 7 ls (vr a :: vr a :: st) u bb σ Q := r_dupA (by decide +kernel)
theorem k11_7 (hc : q_C c) : qx sc D 11 7 ls (vr c :: st) u bb σ Q ↔ qx sc D 11 10 ls (vi (σ c 2) :: st) u bb σ Q := r_getIc (idx := 77) (k := 2) (by decide +kernel) hc
theorem k11_10 : qx sc D 11 10 ls st u bb σ Q ↔ qx sc D 11 11 ls (vi 1 :: st) u bb σ Q := r_iconst (by decide +kernel)
theorem k11_11 : qx sc D 11 11 ls (vi b' :: vi a' :: st) u bb σ Q ↔ q_R (a' + b') ∧ qx sc D 11 12 ls (vi (a' + b') :: st) u bb σ Q := r_iadd (by decide +kernel)
theorem k11_12 (hc : q_C c) : qx sc D 11 12 ls (vi x :: vr c :: st) u bb σ Q ↔ qx sc D 11 15 ls st u bb (q_up σ c 2 x) Q := r_putIc (idx := 77) (k := 2) (by decide +kernel) hc
theorem k11_15 : qx sc D 11 15 [vr a, l1, l2] st u bb σ Q ↔ qx sc D 11 16 [vr a, l1, l2] (vr a :: st) u bb σ Q := r_aload_n (k := 0) (by decide +kernel) rfl
theorem k11_16 (hc : q_C c) : qx sc D 11 16 ls (vr c :: st) u bb σ Q ↔ qx sc D 11 19 ls (vr (c + 8) :: st) u bb σ Q := r_getRc (idx := 33) (k := 10) (by decide +kernel) hc
theorem k11_19 : qx sc D 11 19 [l0, vi x, l2] st u bb σ Q ↔ qx sc D 11 20 [l0, vi x, l2] (vi x :: st) u bb σ Q := r_iload_n (k := 1) (by decide +kernel) rfl
theorem k11_20 : qx sc D 11 20 [l0, l1, vi x] st u bb σ Q ↔ qx sc D 11 21 [l0, l1, vi x] (vi x :: st) u bb σ Q := r_iload_n (k := 2) (by decide +kernel) rfl
theorem k11_21 : qx sc D 11 21 ls (vi x :: vi i :: vr a :: st) u bb σ Q ↔ (q_ty a = 0 ∧ 0 ≤ i ∧ i < q_ln a) ∧ qx sc D 11 22 ls st u bb (q_up σ a i x) Q := r_iast (by decide +kernel)
theorem k11_22 : qx sc D 11 22 [vr a, l1, l2] st u bb σ Q ↔ qx sc D 11 23 [vr a, l1, l2] (vr a :: st) u bb σ Q := r_aload_n (k := 0) (by decide +kernel) rfl
theorem k11_23 (hc : q_C c) : qx sc D 11 23 ls (vr c :: st) u bb σ Q ↔ qx sc D 11 26 ls (vr (c + 15) :: st) u bb σ Q := r_getRc (idx := 54) (k := 17) (by decide +kernel) hc
theorem k11_26 : qx sc D 11 26 [l0, l1, vi x] st u bb σ Q ↔ qx sc D 11 27 [l0, l1, vi x] (vi x :: st) u bb σ Q := r_iload_n (k := 2) (by decide +kernel) rfl
theorem k11_27 : qx sc D 11 27 [l0, vi x, l2] st u bb σ Q ↔ qx sc D 11 28 [l0, vi x, l2] (vi x :: st) u bb σ Q := r_iload_n (k := 1) (by decide +kernel) rfl
theorem k11_28 : qx sc D 11 28 ls (vi x :: vi i :: vr a :: st) u bb σ Q ↔ (q_ty a = 0 ∧ 0 ≤ i ∧ i < q_ln a) ∧ qx sc D 11 29 ls st u bb (q_up σ a i x) Q := r_iast (by decide +kernel)
theorem k11_29 : qx sc D 11 29 [l0, l1, vi x] st u bb σ Q ↔ qx sc D 11 30 [l0, l1, vi x] (vi x :: st) u bb σ Q := r_iload_n (k := 2) (by decide +kernel) rfl
theorem k11_30 : qx sc D 11 30 ls [vi x] (0, 0) bb σ Q ↔ Q (.inl (some (vi x))) bb σ := r_ret (by decide +kernel)
-- 12: RowProver$Code.begin(II)I
theorem k12_0 : qx sc D 12 0 [vr a, l1, l2, l3] st u bb σ Q ↔ qx sc D 12 1 [vr a, l1, l2, l3] (vr a :: st) u bb σ Q := r_aload_n (k := 0) (by decide +kernel) rfl
theorem k12_1 (hc : q_C c) : qx sc D 12 1 ls (vr c :: st) u bb σ Q ↔ qx sc D 12 4 ls (vi (σ c 0) :: st) u bb σ Q := r_getIc (idx := 70) (k := 0) (by decide +kernel) hc
theorem k12_4 : qx sc D 12 4 [l0, l1, l2, l3] (vi x :: st) u bb σ Q ↔ qx sc D 12 5 [l0, l1, l2, vi x] st u bb σ Q := r_istore_n (k := 3) (by decide +kernel) (Nat.le_of_ble_eq_true rfl)
theorem k12_5 : qx sc D 12 5 [vr a, l1, l2, l3] st u bb σ Q ↔ qx sc D 12 6 [vr a, l1, l2, l3] (vr a :: st) u bb σ Q := r_aload_n (k := 0) (by decide +kernel) rfl
theorem k12_6 : qx sc D 12 6 ls (vr a :: st) u bb σ Q ↔ qx sc D 12 7 ls (vr a :: vr a :: st) u bb σ Q := r_dupA (by decide +kernel)
theorem k12_7 (hc : q_C c) : qx sc D 12 7 ls (vr c :: st) u bb σ Q ↔ qx sc D 12 10 ls (vi (σ c 0) :: st) u bb σ Q := r_getIc (idx := 70) (k := 0) (by decide +kernel) hc
theorem k12_10 : qx sc D 12 10 ls st u bb σ Q ↔ qx sc D 12 11 ls (vi 1 :: st) u bb σ Q := r_iconst (by decide +kernel)
theorem k12_11 : qx sc D 12 11 ls (vi b' :: vi a' :: st) u bb σ Q ↔ q_R (a' + b') ∧ qx sc D 12 12 ls (vi (a' + b') :: st) u bb σ Q := r_iadd (by decide +kernel)
theorem k12_12 (hc : q_C c) : qx sc D 12 12 ls (vi x :: vr c :: st) u bb σ Q ↔ qx sc D 12 15 ls st u bb (q_up σ c 0 x) Q := r_putIc (idx := 70) (k := 0) (by decide +kernel) hc
theorem k12_15 : qx sc D 12 15 [vr a, l1, l2, l3] st u bb σ Q ↔ qx sc D 12 16 [vr a, l1, l2, l3] (vr a :: st) u bb σ Q := r_aload_n (k := 0) (by decide +kernel) rfl
theorem k12_16 (hc : q_C c) : qx sc D 12 16 ls (vr c :: st) u bb σ Q ↔ qx sc D 12 19 ls (vr (c + 2) :: st) u bb σ Q := r_getRc (idx := 15) (k := 4) (by decide +kernel) hc
theorem k12_19 : qx sc D 12 19 [l0, l1, l2, vi x] st u bb σ Q ↔ qx sc D 12 20 [l0, l1, l2, vi x] (vi x :: st) u bb σ Q := r_iload_n (k := 3) (by decide +kernel) rfl
theorem k12_20 : qx sc D 12 20 [l0, vi x, l2, l3] st u bb σ Q ↔ qx sc D 12 21 [l0, vi x, l2, l3] (vi x :: st) u bb σ Q := r_iload_n (k := 1) (by decide +kernel) rfl
theorem k12_21 : qx sc D 12 21 ls (vi x :: vi i :: vr a :: st) u bb σ Q ↔ (q_ty a = 0 ∧ 0 ≤ i ∧ i < q_ln a) ∧ qx sc D 12 22 ls st u bb (q_up σ a i x) Q := r_iast (by decide +kernel)
theorem k12_22 : qx sc D 12 22 [vr a, l1, l2, l3] st u bb σ Q ↔ qx sc D 12 23 [vr a, l1, l2, l3] (vr a :: st) u bb σ Q := r_aload_n (k := 0) (by decide +kernel) rfl
theorem k12_23 (hc : q_C c) : qx sc D 12 23 ls (vr c :: st) u bb σ Q ↔ qx sc D 12 26 ls (vr (c + 3) :: st) u bb σ Q := r_getRc (idx := 18) (k := 5) (by decide +kernel) hc
theorem k12_26 : qx sc D 12 26 [l0, l1, l2, vi x] st u bb σ Q ↔ qx sc D 12 27 [l0, l1, l2, vi x] (vi x :: st) u bb σ Q := r_iload_n (k := 3) (by decide +kernel) rfl
theorem k12_27 : qx sc D 12 27 ls st u bb σ Q ↔ qx sc D 12 28 ls (vi (-1) :: st) u bb σ Q := r_iconst (by decide +kernel)
theorem k12_28 : qx sc D 12 28 ls (vi x :: vi i :: vr a :: st) u bb σ Q ↔ (q_ty a = 0 ∧ 0 ≤ i ∧ i < q_ln a) ∧ qx sc D 12 29 ls st u bb (q_up σ a i x) Q := r_iast (by decide +kernel)
theorem k12_29 : qx sc D 12 29 [vr a, l1, l2, l3] st u bb σ Q ↔ qx sc D 12 30 [vr a, l1, l2, l3] (vr a :: st) u bb σ Q := r_aload_n (k := 0) (by decide +kernel) rfl
theorem k12_30 (hc : q_C c) : qx sc D 12 30 ls (vr c :: st) u bb σ Q ↔ qx sc D 12 33 ls (vr (c + 4) :: st) u bb σ Q := r_getRc (idx := 21) (k := 6) (by decide +kernel) hc
theorem k12_33 : qx sc D 12 33 [l0, l1, l2, vi x] st u bb σ Q ↔ qx sc D 12 34 [l0, l1, l2, vi x] (vi x :: st) u bb σ Q := r_iload_n (k := 3) (by decide +kernel) rfl
theorem k12_34 : qx sc D 12 34 ls st u bb σ Q ↔ qx sc D 12 35 ls (vi 0 :: st) u bb σ Q := r_iconst (by decide +kernel)
theorem k12_35 : qx sc D 12 35 ls (vi x :: vi i :: vr a :: st) u bb σ Q ↔ (q_ty a = 0 ∧ 0 ≤ i ∧ i < q_ln a) ∧ qx sc D 12 36 ls st u bb (q_up σ a i x) Q := r_iast (by decide +kernel)
theorem k12_36 : qx sc D 12 36 [vr a, l1, l2, l3] st u bb σ Q ↔ qx sc D 12 37 [vr a, l1, l2, l3] (vr a :: st) u bb σ Q := r_aload_n (k := 0) (by decide +kernel) rfl
theorem k12_37 (hc : q_C c) : qx sc D 12 37 ls (vr c :: st) u bb σ Q ↔ qx sc D 12 40 ls (vr (c + 5) :: st) u bb σ Q := r_getRc (idx := 24) (k := 7) (by decide +kernel) hc
theorem k12_40 : qx sc D 12 40 [l0, l1, l2, vi x] st u bb σ Q ↔ qx sc D 12 41 [l0, l1, l2, vi x] (vi x :: st) u bb σ Q := r_iload_n (k := 3) (by decide +kernel) rfl
theorem k12_41 : qx sc D 12 41 ls st u bb σ Q ↔ qx sc D 12 42 ls (vi (-1) :: st) u bb σ Q := r_iconst (by decide +kernel)
theorem k12_42 : qx sc D 12 42 ls (vi x :: vi i :: vr a :: st) u bb σ Q ↔ (q_ty a = 0 ∧ 0 ≤ i ∧ i < q_ln a) ∧ qx sc D 12 43 ls st u bb (q_up σ a i x) Q := r_iast (by decide +kernel)
theorem k12_43 : qx sc D 12 43 [vr a, l1, l2, l3] st u bb σ Q ↔ qx sc D 12 44 [vr a, l1, l2, l3] (vr a :: st) u bb σ Q := r_aload_n (k := 0) (by decide +kernel) rfl
theorem k12_44 (hc : q_C c) : qx sc D 12 44 ls (vr c :: st) u bb σ Q ↔ qx sc D 12 47 ls (vr (c + 6) :: st) u bb σ Q := r_getRc (idx := 27) (k := 8) (by decide +kernel) hc
theorem k12_47 : qx sc D 12 47 [l0, l1, l2, vi x] st u bb σ Q ↔ qx sc D 12 48 [l0, l1, l2, vi x] (vi x :: st) u bb σ Q := r_iload_n (k := 3) (by decide +kernel) rfl
theorem k12_48 : qx sc D 12 48 ls st u bb σ Q ↔ qx sc D 12 49 ls (vi 0 :: st) u bb σ Q := r_iconst (by decide +kernel)
theorem k12_49 : qx sc D 12 49 ls (vi x :: vi i :: vr a :: st) u bb σ Q ↔ (q_ty a = 0 ∧ 0 ≤ i ∧ i < q_ln a) ∧ qx sc D 12 50 ls st u bb (q_up σ a i x) Q := r_iast (by decide +kernel)
theorem k12_50 : qx sc D 12 50 [vr a, l1, l2, l3] st u bb σ Q ↔ qx sc D 12 51 [vr a, l1, l2, l3] (vr a :: st) u bb σ Q := r_aload_n (k := 0) (by decide +kernel) rfl
theorem k12_51 (hc : q_C c) : qx sc D 12 51 ls (vr c :: st) u bb σ Q ↔ qx sc D 12 54 ls (vr (c + 7) :: st) u bb σ Q := r_getRc (idx := 30) (k := 9) (by decide +kernel) hc
theorem k12_54 : qx sc D 12 54 [l0, l1, l2, vi x] st u bb σ Q ↔ qx sc D 12 55 [l0, l1, l2, vi x] (vi x :: st) u bb σ Q := r_iload_n (k := 3) (by decide +kernel) rfl
theorem k12_55 : qx sc D 12 55 ls st u bb σ Q ↔ qx sc D 12 56 ls (vi (-1) :: st) u bb σ Q := r_iconst (by decide +kernel)
theorem k12_56 : qx sc D 12 56 ls (vi x :: vi i :: vr a :: st) u bb σ Q ↔ (q_ty a = 0 ∧ 0 ≤ i ∧ i < q_ln a) ∧ qx sc D 12 57 ls st u bb (q_up σ a i x) Q := r_iast (by decide +kernel)
theorem k12_57 : qx sc D 12 57 [vr a, l1, l2, l3] st u bb σ Q ↔ qx sc D 12 58 [vr a, l1, l2, l3] (vr a :: st) u bb σ Q := r_aload_n (k := 0) (by decide +kernel) rfl
theorem k12_58 (hc : q_C c) : qx sc D 12 58 ls (vr c :: st) u bb σ Q ↔ qx sc D 12 61 ls (vr (c + 8) :: st) u bb σ Q := r_getRc (idx := 33) (k := 10) (by decide +kernel) hc
theorem k12_61 : qx sc D 12 61 [l0, l1, l2, vi x] st u bb σ Q ↔ qx sc D 12 62 [l0, l1, l2, vi x] (vi x :: st) u bb σ Q := r_iload_n (k := 3) (by decide +kernel) rfl
theorem k12_62 : qx sc D 12 62 ls st u bb σ Q ↔ qx sc D 12 63 ls (vi (-1) :: st) u bb σ Q := r_iconst (by decide +kernel)
theorem k12_63 : qx sc D 12 63 ls (vi x :: vi i :: vr a :: st) u bb σ Q ↔ (q_ty a = 0 ∧ 0 ≤ i ∧ i < q_ln a) ∧ qx sc D 12 64 ls st u bb (q_up σ a i x) Q := r_iast (by decide +kernel)
theorem k12_64 : qx sc D 12 64 [vr a, l1, l2, l3] st u bb σ Q ↔ qx sc D 12 65 [vr a, l1, l2, l3] (vr a :: st) u bb σ Q := r_aload_n (k := 0) (by decide +kernel) rfl
theorem k12_65 (hc : q_C c) : qx sc D 12 65 ls (vr c :: st) u bb σ Q ↔ qx sc D 12 68 ls (vr (c + 9) :: st) u bb σ Q := r_getRc (idx := 36) (k := 11) (by decide +kernel) hc
theorem k12_68 : qx sc D 12 68 [l0, l1, l2, vi x] st u bb σ Q ↔ qx sc D 12 69 [l0, l1, l2, vi x] (vi x :: st) u bb σ Q := r_iload_n (k := 3) (by decide +kernel) rfl
theorem k12_69 : qx sc D 12 69 [l0, l1, vi x, l3] st u bb σ Q ↔ qx sc D 12 70 [l0, l1, vi x, l3] (vi x :: st) u bb σ Q := r_iload_n (k := 2) (by decide +kernel) rfl
theorem k12_70 : qx sc D 12 70 ls (vi x :: vi i :: vr a :: st) u bb σ Q ↔ (q_ty a = 0 ∧ 0 ≤ i ∧ i < q_ln a) ∧ qx sc D 12 71 ls st u bb (q_up σ a i x) Q := r_iast (by decide +kernel)
theorem k12_71 : qx sc D 12 71 [vr a, l1, l2, l3] st u bb σ Q ↔ qx sc D 12 72 [vr a, l1, l2, l3] (vr a :: st) u bb σ Q := r_aload_n (k := 0) (by decide +kernel) rfl
theorem k12_72 (hc : q_C c) : qx sc D 12 72 ls (vr c :: st) u bb σ Q ↔ qx sc D 12 75 ls (vr (c + 10) :: st) u bb σ Q := r_getRc (idx := 39) (k := 12) (by decide +kernel) hc
theorem k12_75 : qx sc D 12 75 [l0, l1, l2, vi x] st u bb σ Q ↔ qx sc D 12 76 [l0, l1, l2, vi x] (vi x :: st) u bb σ Q := r_iload_n (k := 3) (by decide +kernel) rfl
theorem k12_76 : qx sc D 12 76 [l0, l1, l2, vi x] st u bb σ Q ↔ qx sc D 12 77 [l0, l1, l2, vi x] (vi x :: st) u bb σ Q := r_iload_n (k := 3) (by decide +kernel) rfl
theorem k12_77 : qx sc D 12 77 ls st u bb σ Q ↔ qx sc D 12 78 ls (vi 1 :: st) u bb σ Q := r_iconst (by decide +kernel)
theorem k12_78 : qx sc D 12 78 ls (vi b' :: vi a' :: st) u bb σ Q ↔ q_R (a' + b') ∧ qx sc D 12 79 ls (vi (a' + b') :: st) u bb σ Q := r_iadd (by decide +kernel)
theorem k12_79 : qx sc D 12 79 ls (vi x :: vi i :: vr a :: st) u bb σ Q ↔ (q_ty a = 0 ∧ 0 ≤ i ∧ i < q_ln a) ∧ qx sc D 12 80 ls st u bb (q_up σ a i x) Q := r_iast (by decide +kernel)
theorem k12_80 : qx sc D 12 80 [vr a, l1, l2, l3] st u bb σ Q ↔ qx sc D 12 81 [vr a, l1, l2, l3] (vr a :: st) u bb σ Q := r_aload_n (k := 0) (by decide +kernel) rfl
theorem k12_81 (hc : q_C c) : qx sc D 12 81 ls (vr c :: st) u bb σ Q ↔ qx sc D 12 84 ls (vr (c + 11) :: st) u bb σ Q := r_getRc (idx := 42) (k := 13) (by decide +kernel) hc
theorem k12_84 : qx sc D 12 84 [l0, l1, l2, vi x] st u bb σ Q ↔ qx sc D 12 85 [l0, l1, l2, vi x] (vi x :: st) u bb σ Q := r_iload_n (k := 3) (by decide +kernel) rfl
theorem k12_85 : qx sc D 12 85 [l0, l1, l2, vi x] st u bb σ Q ↔ qx sc D 12 86 [l0, l1, l2, vi x] (vi x :: st) u bb σ Q := r_iload_n (k := 3) (by decide +kernel) rfl
theorem k12_86 : qx sc D 12 86 ls st u bb σ Q ↔ qx sc D 12 87 ls (vi 1 :: st) u bb σ Q := r_iconst (by decide +kernel)
theorem k12_87 : qx sc D 12 87 ls (vi b' :: vi a' :: st) u bb σ Q ↔ q_R (a' + b') ∧ qx sc D 12 88 ls (vi (a' + b') :: st) u bb σ Q := r_iadd (by decide +kernel)
theorem k12_88 : qx sc D 12 88 ls (vi x :: vi i :: vr a :: st) u bb σ Q ↔ (q_ty a = 0 ∧ 0 ≤ i ∧ i < q_ln a) ∧ qx sc D 12 89 ls st u bb (q_up σ a i x) Q := r_iast (by decide +kernel)
theorem k12_89 : qx sc D 12 89 [l0, l1, l2, vi x] st u bb σ Q ↔ qx sc D 12 90 [l0, l1, l2, vi x] (vi x :: st) u bb σ Q := r_iload_n (k := 3) (by decide +kernel) rfl
theorem k12_90 : qx sc D 12 90 ls [vi x] (0, 0) bb σ Q ↔ Q (.inl (some (vi x))) bb σ := r_ret (by decide +kernel)
-- 13: RowProver$Code.empty()V
theorem k13_0 : qx sc D 13 0 [vr a] st u bb σ Q ↔ qx sc D 13 1 [vr a] (vr a :: st) u bb σ Q := r_aload_n (k := 0) (by decide +kernel) rfl
theorem k13_1 : qx sc D 13 1 ls st u bb σ Q ↔ qx sc D 13 2 ls (vi 0 :: st) u bb σ Q := r_iconst (by decide +kernel)
theorem k13_2 (hc : q_C c) : qx sc D 13 2 ls (vi x :: vr c :: st) u bb σ Q ↔ qx sc D 13 5 ls st u bb (q_up σ c 0 x) Q := r_putIc (idx := 70) (k := 0) (by decide +kernel) hc
theorem k13_5 : qx sc D 13 5 [vr a] st u bb σ Q ↔ qx sc D 13 6 [vr a] (vr a :: st) u bb σ Q := r_aload_n (k := 0) (by decide +kernel) rfl
theorem k13_6 : qx sc D 13 6 ls st u bb σ Q ↔ qx sc D 13 7 ls (vi 0 :: st) u bb σ Q := r_iconst (by decide +kernel)
theorem k13_7 (hc : q_C c) : qx sc D 13 7 ls (vi x :: vr c :: st) u bb σ Q ↔ qx sc D 13 10 ls st u bb (q_up σ c 1 x) Q := r_putIc (idx := 74) (k := 1) (by decide +kernel) hc
theorem k13_10 : qx sc D 13 10 [vr a] st u bb σ Q ↔ qx sc D 13 11 [vr a] (vr a :: st) u bb σ Q := r_aload_n (k := 0) (by decide +kernel) rfl
theorem k13_11 : qx sc D 13 11 ls st u bb σ Q ↔ qx sc D 13 12 ls (vi 0 :: st) u bb σ Q := r_iconst (by decide +kernel)
theorem k13_12 (hc : q_C c) : qx sc D 13 12 ls (vi x :: vr c :: st) u bb σ Q ↔ qx sc D 13 15 ls st u bb (q_up σ c 2 x) Q := r_putIc (idx := 77) (k := 2) (by decide +kernel) hc
theorem k13_15 : qx sc D 13 15 [vr a] st u bb σ Q ↔ qx sc D 13 16 [vr a] (vr a :: st) u bb σ Q := r_aload_n (k := 0) (by decide +kernel) rfl
theorem k13_16 (hc : q_C c) : qx sc D 13 16 ls (vr c :: st) u bb σ Q ↔ qx sc D 13 19 ls (vr (c + 1) :: st) u bb σ Q := r_getRc (idx := 9) (k := 3) (by decide +kernel) hc
theorem k13_19 : qx sc D 13 19 ls st u bb σ Q ↔ qx sc D 13 20 ls (vi (-1) :: st) u bb σ Q := r_iconst (by decide +kernel)
theorem k13_20 : qx sc (D + 1) 13 20 ls [vi x1, vr a0] (0, 0) bb σ Q ↔ qx sc D 249 0 [vr a0, vi x1, vn, vn] [] (0, 0) bb σ (q_kn sc (D + 1) 13 23 ls [] (0, 0) Q) := r_calls (idx := 64) (n := 2) (m := 4) (by decide +kernel) rfl (Nat.le_of_ble_eq_true rfl) ⟨Nat.le_of_ble_eq_true rfl, Nat.le_of_ble_eq_true rfl, rfl⟩ rfl
theorem k13_23 : qx sc D 13 23 ls [] (0, 0) bb σ Q ↔ Q (.inl none) bb σ := r_retV (by decide +kernel)
-- 14: RowProver$Code.rowBits()I
theorem k14_0 : qx sc D 14 0 ls st u bb σ Q ↔ qx sc D 14 1 ls (vi 0 :: st) u bb σ Q := r_iconst (by decide +kernel)
theorem k14_1 : qx sc D 14 1 [l0, l1, l2] (vi x :: st) u bb σ Q ↔ qx sc D 14 2 [l0, vi x, l2] st u bb σ Q := r_istore_n (k := 1) (by decide +kernel) (Nat.le_of_ble_eq_true rfl)
theorem k14_2 : qx sc D 14 2 ls st u bb σ Q ↔ qx sc D 14 3 ls (vi 0 :: st) u bb σ Q := r_iconst (by decide +kernel)
theorem k14_3 : qx sc D 14 3 [l0, l1, l2] (vi x :: st) u bb σ Q ↔ qx sc D 14 4 [l0, l1, vi x] st u bb σ Q := r_istore_n (k := 2) (by decide +kernel) (Nat.le_of_ble_eq_true rfl)
theorem k14_4 : qx sc D 14 4 [l0, l1, vi x] st u bb σ Q ↔ qx sc D 14 5 [l0, l1, vi x] (vi x :: st) u bb σ Q := r_iload_n (k := 2) (by decide +kernel) rfl
theorem k14_5 : qx sc D 14 5 ls st u bb σ Q ↔ qx sc D 14 6 ls (vi 3 :: st) u bb σ Q := r_iconst (by decide +kernel)
theorem k14_6 : qx sc D 14 6 ls (vi b' :: vi a' :: st) u bb σ Q ↔ (a' < b' → qx sc D 14 9 ls st u bb σ Q) ∧ (¬ (a' < b') → qx sc D 14 31 ls st u bb σ Q) := r_ic_ge (off := 25) (t := 31) (by decide +kernel)
theorem k14_9 : qx sc D 14 9 [vr a, l1, l2] st u bb σ Q ↔ qx sc D 14 10 [vr a, l1, l2] (vr a :: st) u bb σ Q := r_aload_n (k := 0) (by decide +kernel) rfl
theorem k14_10 (hc : q_C c) : qx sc D 14 10 ls (vr c :: st) u bb σ Q ↔ qx sc D 14 13 ls (vr (c + 1) :: st) u bb σ Q := r_getRc (idx := 9) (k := 3) (by decide +kernel) hc
theorem k14_13 : qx sc D 14 13 [l0, l1, vi x] st u bb σ Q ↔ qx sc D 14 14 [l0, l1, vi x] (vi x :: st) u bb σ Q := r_iload_n (k := 2) (by decide +kernel) rfl
theorem k14_14 : qx sc D 14 14 ls (vi i :: vr a :: st) u bb σ Q ↔ (q_ty a = 0 ∧ 0 ≤ i ∧ i < q_ln a) ∧ qx sc D 14 15 ls (vi (σ a i) :: st) u bb σ Q := r_iald (by decide +kernel)
theorem k14_15 : qx sc D 14 15 ls st u bb σ Q ↔ qx sc D 14 16 ls (vi (-1) :: st) u bb σ Q := r_iconst (by decide +kernel)
theorem k14_16 : qx sc D 14 16 ls (vi b' :: vi a' :: st) u bb σ Q ↔ (a' = b' → qx sc D 14 25 ls st u bb σ Q) ∧ (¬ (a' = b') → qx sc D 14 19 ls st u bb σ Q) := r_ic_eq (off := 9) (t := 25) (by decide +kernel)
theorem k14_19 : qx sc D 14 19 [l0, vi x, l2] st u bb σ Q ↔ qx sc D 14 20 [l0, vi x, l2] (vi x :: st) u bb σ Q := r_iload_n (k := 1) (by decide +kernel) rfl
theorem k14_20 : qx sc D 14 20 ls st u bb σ Q ↔ qx sc D 14 21 ls (vi 1 :: st) u bb σ Q := r_iconst (by decide +kernel)
theorem k14_21 : qx sc D 14 21 [l0, l1, vi x] st u bb σ Q ↔ qx sc D 14 22 [l0, l1, vi x] (vi x :: st) u bb σ Q := r_iload_n (k := 2) (by decide +kernel) rfl
theorem k14_22 : qx sc D 14 22 ls (vi b' :: vi a' :: st) u bb σ Q ↔ qx sc D 14 23 ls (vi (q_I a' <<< (q_I b' &&& 31)).toInt :: st) u bb σ Q := r_ishl (by decide +kernel)
theorem k14_23 : qx sc D 14 23 ls (vi b' :: vi a' :: st) u bb σ Q ↔ qx sc D 14 24 ls (vi (q_I a' ||| q_I b').toInt :: st) u bb σ Q := r_ior (by decide +kernel)
theorem k14_24 : qx sc D 14 24 [l0, l1, l2] (vi x :: st) u bb σ Q ↔ qx sc D 14 25 [l0, vi x, l2] st u bb σ Q := r_istore_n (k := 1) (by decide +kernel) (Nat.le_of_ble_eq_true rfl)
theorem k14_25 : qx sc D 14 25 [l0, l1, vi x] st u bb σ Q ↔ q_R (x + 1) ∧ qx sc D 14 28 [l0, l1, vi (x + 1)] st u bb σ Q := r_iinc (k := 2) (n := 1) (by decide +kernel) rfl
theorem k14_28 : qx sc D 14 28 ls st u bb σ Q ↔ qx sc D 14 4 ls st u bb σ Q := r_goto (off := (-24)) (by decide +kernel)
theorem k14_31 : qx sc D 14 31 [l0, vi x, l2] st u bb σ Q ↔ qx sc D 14 32 [l0, vi x, l2] (vi x :: st) u bb σ Q := r_iload_n (k := 1) (by decide +kernel) rfl
theorem k14_32 : qx sc D 14 32 ls [vi x] (0, 0) bb σ Q ↔ Q (.inl (some (vi x))) bb σ := r_ret (by decide +kernel)
-- 15: RowProver$Code.toldAnew(I)I
theorem k15_0 : qx sc D 15 0 ls st u bb σ Q ↔ qx sc D 15 1 ls (vi 0 :: st) u bb σ Q := r_iconst (by decide +kernel)
theorem k15_1 : qx sc D 15 1 [l0, l1, l2, l3] (vi x :: st) u bb σ Q ↔ qx sc D 15 2 [l0, l1, vi x, l3] st u bb σ Q := r_istore_n (k := 2) (by decide +kernel) (Nat.le_of_ble_eq_true rfl)
theorem k15_2 : qx sc D 15 2 [l0, vi x, l2, l3] st u bb σ Q ↔ qx sc D 15 3 [l0, vi x, l2, l3] (vi x :: st) u bb σ Q := r_iload_n (k := 1) (by decide +kernel) rfl
theorem k15_3 : qx sc D 15 3 ls st u bb σ Q ↔ qx sc D 15 4 ls (vi 1 :: st) u bb σ Q := r_iconst (by decide +kernel)
theorem k15_4 : qx sc D 15 4 ls (vi b' :: vi a' :: st) u bb σ Q ↔ q_R (a' + b') ∧ qx sc D 15 5 ls (vi (a' + b') :: st) u bb σ Q := r_iadd (by decide +kernel)
theorem k15_5 : qx sc D 15 5 [l0, l1, l2, l3] (vi x :: st) u bb σ Q ↔ qx sc D 15 6 [l0, l1, l2, vi x] st u bb σ Q := r_istore_n (k := 3) (by decide +kernel) (Nat.le_of_ble_eq_true rfl)
theorem k15_6 : qx sc D 15 6 [l0, l1, l2, vi x] st u bb σ Q ↔ qx sc D 15 7 [l0, l1, l2, vi x] (vi x :: st) u bb σ Q := r_iload_n (k := 3) (by decide +kernel) rfl
theorem k15_7 : qx sc D 15 7 [vr a, l1, l2, l3] st u bb σ Q ↔ qx sc D 15 8 [vr a, l1, l2, l3] (vr a :: st) u bb σ Q := r_aload_n (k := 0) (by decide +kernel) rfl
theorem k15_8 (hc : q_C c) : qx sc D 15 8 ls (vr c :: st) u bb σ Q ↔ qx sc D 15 11 ls (vr (c + 11) :: st) u bb σ Q := r_getRc (idx := 42) (k := 13) (by decide +kernel) hc
theorem k15_11 : qx sc D 15 11 [l0, vi x, l2, l3] st u bb σ Q ↔ qx sc D 15 12 [l0, vi x, l2, l3] (vi x :: st) u bb σ Q := r_iload_n (k := 1) (by decide +kernel) rfl
theorem k15_12 : qx sc D 15 12 ls (vi i :: vr a :: st) u bb σ Q ↔ (q_ty a = 0 ∧ 0 ≤ i ∧ i < q_ln a) ∧ qx sc D 15 13 ls (vi (σ a i) :: st) u bb σ Q := r_iald (by decide +kernel)
theorem k15_13 : qx sc D 15 13 ls (vi b' :: vi a' :: st) u bb σ Q ↔ (a' < b' → qx sc D 15 16 ls st u bb σ Q) ∧ (¬ (a' < b') → qx sc D 15 42 ls st u bb σ Q) := r_ic_ge (off := 29) (t := 42) (by decide +kernel)
theorem k15_16 : qx sc D 15 16 [vr a, l1, l2, l3] st u bb σ Q ↔ qx sc D 15 17 [vr a, l1, l2, l3] (vr a :: st) u bb σ Q := r_aload_n (k := 0) (by decide +kernel) rfl
theorem k15_17 (hc : q_C c) : qx sc D 15 17 ls (vr c :: st) u bb σ Q ↔ qx sc D 15 20 ls (vr (c + 2) :: st) u bb σ Q := r_getRc (idx := 15) (k := 4) (by decide +kernel) hc
theorem k15_20 : qx sc D 15 20 [l0, l1, l2, vi x] st u bb σ Q ↔ qx sc D 15 21 [l0, l1, l2, vi x] (vi x :: st) u bb σ Q := r_iload_n (k := 3) (by decide +kernel) rfl
theorem k15_21 : qx sc D 15 21 ls (vi i :: vr a :: st) u bb σ Q ↔ (q_ty a = 0 ∧ 0 ≤ i ∧ i < q_ln a) ∧ qx sc D 15 22 ls (vi (σ a i) :: st) u bb σ Q := r_iald (by decide +kernel)
theorem k15_22 : qx sc D 15 22 ls (vi x :: st) u bb σ Q ↔ (x = 0 → qx sc D 15 25 ls st u bb σ Q) ∧ (¬ (x = 0) → qx sc D 15 36 ls st u bb σ Q) := r_if_ne (off := 14) (t := 36) (by decide +kernel)
theorem k15_25 : qx sc D 15 25 [l0, l1, vi x, l3] st u bb σ Q ↔ qx sc D 15 26 [l0, l1, vi x, l3] (vi x :: st) u bb σ Q := r_iload_n (k := 2) (by decide +kernel) rfl
theorem k15_26 : qx sc D 15 26 ls st u bb σ Q ↔ qx sc D 15 27 ls (vi 1 :: st) u bb σ Q := r_iconst (by decide +kernel)
theorem k15_27 : qx sc D 15 27 [vr a, l1, l2, l3] st u bb σ Q ↔ qx sc D 15 28 [vr a, l1, l2, l3] (vr a :: st) u bb σ Q := r_aload_n (k := 0) (by decide +kernel) rfl
theorem k15_28 (hc : q_C c) : qx sc D 15 28 ls (vr c :: st) u bb σ Q ↔ qx sc D 15 31 ls (vr (c + 3) :: st) u bb σ Q := r_getRc (idx := 18) (k := 5) (by decide +kernel) hc
theorem k15_31 : qx sc D 15 31 [l0, l1, l2, vi x] st u bb σ Q ↔ qx sc D 15 32 [l0, l1, l2, vi x] (vi x :: st) u bb σ Q := r_iload_n (k := 3) (by decide +kernel) rfl
theorem k15_32 : qx sc D 15 32 ls (vi i :: vr a :: st) u bb σ Q ↔ (q_ty a = 0 ∧ 0 ≤ i ∧ i < q_ln a) ∧ qx sc D 15 33 ls (vi (σ a i) :: st) u bb σ Q := r_iald (by decide +kernel)
theorem k15_33 : qx sc D 15 33 ls (vi b' :: vi a' :: st) u bb σ Q ↔ qx sc D 15 34 ls (vi (q_I a' <<< (q_I b' &&& 31)).toInt :: st) u bb σ Q := r_ishl (by decide +kernel)
theorem k15_34 : qx sc D 15 34 ls (vi b' :: vi a' :: st) u bb σ Q ↔ qx sc D 15 35 ls (vi (q_I a' ||| q_I b').toInt :: st) u bb σ Q := r_ior (by decide +kernel)
theorem k15_35 : qx sc D 15 35 [l0, l1, l2, l3] (vi x :: st) u bb σ Q ↔ qx sc D 15 36 [l0, l1, vi x, l3] st u bb σ Q := r_istore_n (k := 2) (by decide +kernel) (Nat.le_of_ble_eq_true rfl)
theorem k15_36 : qx sc D 15 36 [l0, l1, l2, vi x] st u bb σ Q ↔ q_R (x + 1) ∧ qx sc D 15 39 [l0, l1, l2, vi (x + 1)] st u bb σ Q := r_iinc (k := 3) (n := 1) (by decide +kernel) rfl
theorem k15_39 : qx sc D 15 39 ls st u bb σ Q ↔ qx sc D 15 6 ls st u bb σ Q := r_goto (off := (-33)) (by decide +kernel)
theorem k15_42 : qx sc D 15 42 [l0, l1, vi x, l3] st u bb σ Q ↔ qx sc D 15 43 [l0, l1, vi x, l3] (vi x :: st) u bb σ Q := r_iload_n (k := 2) (by decide +kernel) rfl
theorem k15_43 : qx sc D 15 43 ls [vi x] (0, 0) bb σ Q ↔ Q (.inl (some (vi x))) bb σ := r_ret (by decide +kernel)
-- 77: RowProver$Tests.sameVariables(I)Z
theorem k77_0 : qx sc D 77 0 [vr a, l1] st u bb σ Q ↔ qx sc D 77 1 [vr a, l1] (vr a :: st) u bb σ Q := r_aload_n (k := 0) (by decide +kernel) rfl
theorem k77_1 (hc : q_C c) : qx sc D 77 1 ls (vr (c + 16) :: st) u bb σ Q ↔ qx sc D 77 4 ls (vr (c + 18) :: st) u bb σ Q := r_getRt (idx := 17) (k := 1) (j := 2) (by decide +kernel) hc
theorem k77_4 : qx sc D 77 4 ls st u bb σ Q ↔ qx sc D 77 5 ls (vi 0 :: st) u bb σ Q := r_iconst (by decide +kernel)
theorem k77_5 : qx sc D 77 5 ls (vi i :: vr a :: st) u bb σ Q ↔ (q_ty a = 4 ∧ 0 ≤ i ∧ i < q_ln a) ∧ qx sc D 77 6 ls (vr (a + 1 + i.toNat) :: st) u bb σ Q := r_aald (by decide +kernel)
theorem k77_6 : qx sc D 77 6 [l0, vi x] st u bb σ Q ↔ qx sc D 77 7 [l0, vi x] (vi x :: st) u bb σ Q := r_iload_n (k := 1) (by decide +kernel) rfl
theorem k77_7 : qx sc D 77 7 ls (vi i :: vr a :: st) u bb σ Q ↔ (q_ty a = 0 ∧ 0 ≤ i ∧ i < q_ln a) ∧ qx sc D 77 8 ls (vi (σ a i) :: st) u bb σ Q := r_iald (by decide +kernel)
theorem k77_8 : qx sc D 77 8 ls st u bb σ Q ↔ qx sc D 77 9 ls (vi 3 :: st) u bb σ Q := r_iconst (by decide +kernel)
theorem k77_9 : qx sc D 77 9 ls (vi b' :: vi a' :: st) u bb σ Q ↔ (a' = b' → qx sc D 77 12 ls st u bb σ Q) ∧ (¬ (a' = b') → qx sc D 77 47 ls st u bb σ Q) := r_ic_ne (off := 38) (t := 47) (by decide +kernel)
theorem k77_12 : qx sc D 77 12 [vr a, l1] st u bb σ Q ↔ qx sc D 77 13 [vr a, l1] (vr a :: st) u bb σ Q := r_aload_n (k := 0) (by decide +kernel) rfl
theorem k77_13 (hc : q_C c) : qx sc D 77 13 ls (vr (c + 16) :: st) u bb σ Q ↔ qx sc D 77 16 ls (vr (c + 18) :: st) u bb σ Q := r_getRt (idx := 17) (k := 1) (j := 2) (by decide +kernel) hc
theorem k77_16 : qx sc D 77 16 ls st u bb σ Q ↔ qx sc D 77 17 ls (vi 1 :: st) u bb σ Q := r_iconst (by decide +kernel)
theorem k77_17 : qx sc D 77 17 ls (vi i :: vr a :: st) u bb σ Q ↔ (q_ty a = 4 ∧ 0 ≤ i ∧ i < q_ln a) ∧ qx sc D 77 18 ls (vr (a + 1 + i.toNat) :: st) u bb σ Q := r_aald (by decide +kernel)
theorem k77_18 : qx sc D 77 18 [l0, vi x] st u bb σ Q ↔ qx sc D 77 19 [l0, vi x] (vi x :: st) u bb σ Q := r_iload_n (k := 1) (by decide +kernel) rfl
theorem k77_19 : qx sc D 77 19 ls (vi i :: vr a :: st) u bb σ Q ↔ (q_ty a = 0 ∧ 0 ≤ i ∧ i < q_ln a) ∧ qx sc D 77 20 ls (vi (σ a i) :: st) u bb σ Q := r_iald (by decide +kernel)
theorem k77_20 : qx sc D 77 20 ls st u bb σ Q ↔ qx sc D 77 21 ls (vi 3 :: st) u bb σ Q := r_iconst (by decide +kernel)
theorem k77_21 : qx sc D 77 21 ls (vi b' :: vi a' :: st) u bb σ Q ↔ (a' = b' → qx sc D 77 24 ls st u bb σ Q) ∧ (¬ (a' = b') → qx sc D 77 47 ls st u bb σ Q) := r_ic_ne (off := 26) (t := 47) (by decide +kernel)
theorem k77_24 : qx sc D 77 24 [vr a, l1] st u bb σ Q ↔ qx sc D 77 25 [vr a, l1] (vr a :: st) u bb σ Q := r_aload_n (k := 0) (by decide +kernel) rfl
theorem k77_25 (hc : q_C c) : qx sc D 77 25 ls (vr (c + 16) :: st) u bb σ Q ↔ qx sc D 77 28 ls (vr (c + 21) :: st) u bb σ Q := r_getRt (idx := 20) (k := 2) (j := 5) (by decide +kernel) hc
theorem k77_28 : qx sc D 77 28 ls st u bb σ Q ↔ qx sc D 77 29 ls (vi 0 :: st) u bb σ Q := r_iconst (by decide +kernel)
theorem k77_29 : qx sc D 77 29 ls (vi i :: vr a :: st) u bb σ Q ↔ (q_ty a = 4 ∧ 0 ≤ i ∧ i < q_ln a) ∧ qx sc D 77 30 ls (vr (a + 1 + i.toNat) :: st) u bb σ Q := r_aald (by decide +kernel)
theorem k77_30 : qx sc D 77 30 [l0, vi x] st u bb σ Q ↔ qx sc D 77 31 [l0, vi x] (vi x :: st) u bb σ Q := r_iload_n (k := 1) (by decide +kernel) rfl
theorem k77_31 : qx sc D 77 31 ls (vi i :: vr a :: st) u bb σ Q ↔ (q_ty a = 0 ∧ 0 ≤ i ∧ i < q_ln a) ∧ qx sc D 77 32 ls (vi (σ a i) :: st) u bb σ Q := r_iald (by decide +kernel)
theorem k77_32 : qx sc D 77 32 [vr a, l1] st u bb σ Q ↔ qx sc D 77 33 [vr a, l1] (vr a :: st) u bb σ Q := r_aload_n (k := 0) (by decide +kernel) rfl
theorem k77_33 (hc : q_C c) : qx sc D 77 33 ls (vr (c + 16) :: st) u bb σ Q ↔ qx sc D 77 36 ls (vr (c + 21) :: st) u bb σ Q := r_getRt (idx := 20) (k := 2) (j := 5) (by decide +kernel) hc
theorem k77_36 : qx sc D 77 36 ls st u bb σ Q ↔ qx sc D 77 37 ls (vi 1 :: st) u bb σ Q := r_iconst (by decide +kernel)
theorem k77_37 : qx sc D 77 37 ls (vi i :: vr a :: st) u bb σ Q ↔ (q_ty a = 4 ∧ 0 ≤ i ∧ i < q_ln a) ∧ qx sc D 77 38 ls (vr (a + 1 + i.toNat) :: st) u bb σ Q := r_aald (by decide +kernel)
theorem k77_38 : qx sc D 77 38 [l0, vi x] st u bb σ Q ↔ qx sc D 77 39 [l0, vi x] (vi x :: st) u bb σ Q := r_iload_n (k := 1) (by decide +kernel) rfl
theorem k77_39 : qx sc D 77 39 ls (vi i :: vr a :: st) u bb σ Q ↔ (q_ty a = 0 ∧ 0 ≤ i ∧ i < q_ln a) ∧ qx sc D 77 40 ls (vi (σ a i) :: st) u bb σ Q := r_iald (by decide +kernel)
theorem k77_40 : qx sc D 77 40 ls (vi b' :: vi a' :: st) u bb σ Q ↔ (a' = b' → qx sc D 77 43 ls st u bb σ Q) ∧ (¬ (a' = b') → qx sc D 77 47 ls st u bb σ Q) := r_ic_ne (off := 7) (t := 47) (by decide +kernel)
theorem k77_43 : qx sc D 77 43 ls st u bb σ Q ↔ qx sc D 77 44 ls (vi 1 :: st) u bb σ Q := r_iconst (by decide +kernel)
theorem k77_44 : qx sc D 77 44 ls st u bb σ Q ↔ qx sc D 77 48 ls st u bb σ Q := r_goto (off := 4) (by decide +kernel)
theorem k77_47 : qx sc D 77 47 ls st u bb σ Q ↔ qx sc D 77 48 ls (vi 0 :: st) u bb σ Q := r_iconst (by decide +kernel)
theorem k77_48 : qx sc D 77 48 ls [vi x] (0, 0) bb σ Q ↔ (x = 0 ∨ x = 1) ∧ Q (.inl (some (vi x))) bb σ := r_retB (by decide +kernel)
-- 88: RowProver$Versions.add(III)I
theorem k88_0 : qx sc D 88 0 [vr a, l1, l2, l3, l4] st u bb σ Q ↔ qx sc D 88 1 [vr a, l1, l2, l3, l4] (vr a :: st) u bb σ Q := r_aload_n (k := 0) (by decide +kernel) rfl
theorem k88_1 : qx sc D 88 1 ls (vr 9 :: st) u bb σ Q ↔ qx sc D 88 4 ls (vi (σ 9 0) :: st) u bb σ Q := r_getI (idx := 47) (c := 13) (k := 0) (by decide +kernel)
theorem k88_4 : qx sc D 88 4 ls st u bb σ Q ↔ qx sc D 88 7 ls (vi 239 :: st) u bb σ Q := r_sipush (by decide +kernel)
theorem k88_7 : qx sc D 88 7 ls [vi b', vi a'] (0, 0) bb σ Q ↔ qx sc D 88 10 ls [vi (min a' b')] (0, 0) bb σ Q := r_min (idx := 51) (y' := 0) (by decide +kernel) (Nat.le_of_ble_eq_true rfl)
theorem k88_10 : qx sc D 88 10 [l0, l1, l2, l3, l4] (vi x :: st) u bb σ Q ↔ qx sc D 88 12 [l0, l1, l2, l3, vi x] st u bb σ Q := r_istore (k := 4) (by decide +kernel) (Nat.le_of_ble_eq_true rfl)
theorem k88_12 : qx sc D 88 12 [vr a, l1, l2, l3, l4] st u bb σ Q ↔ qx sc D 88 13 [vr a, l1, l2, l3, l4] (vr a :: st) u bb σ Q := r_aload_n (k := 0) (by decide +kernel) rfl
theorem k88_13 : qx sc D 88 13 [l0, l1, l2, l3, vi x] st u bb σ Q ↔ qx sc D 88 15 [l0, l1, l2, l3, vi x] (vi x :: st) u bb σ Q := r_iload (k := 4) (by decide +kernel) rfl
theorem k88_15 : qx sc D 88 15 ls st u bb σ Q ↔ qx sc D 88 16 ls (vi 1 :: st) u bb σ Q := r_iconst (by decide +kernel)
theorem k88_16 : qx sc D 88 16 ls (vi b' :: vi a' :: st) u bb σ Q ↔ q_R (a' + b') ∧ qx sc D 88 17 ls (vi (a' + b') :: st) u bb σ Q := r_iadd (by decide +kernel)
theorem k88_17 : qx sc D 88 17 ls (vi x :: vr 9 :: st) u bb σ Q ↔ qx sc D 88 20 ls st u bb (q_up σ 9 0 x) Q := r_putI (idx := 47) (c := 13) (k := 0) (by decide +kernel)
theorem k88_20 : qx sc D 88 20 [vr a, l1, l2, l3, l4] st u bb σ Q ↔ qx sc D 88 21 [vr a, l1, l2, l3, l4] (vr a :: st) u bb σ Q := r_aload_n (k := 0) (by decide +kernel) rfl
theorem k88_21 : qx sc D 88 21 ls (vr 9 :: st) u bb σ Q ↔ qx sc D 88 24 ls (vr 10 :: st) u bb σ Q := r_getR (idx := 9) (c := 13) (k := 1) (by decide +kernel)
theorem k88_24 : qx sc D 88 24 [l0, l1, l2, l3, vi x] st u bb σ Q ↔ qx sc D 88 26 [l0, l1, l2, l3, vi x] (vi x :: st) u bb σ Q := r_iload (k := 4) (by decide +kernel) rfl
theorem k88_26 : qx sc D 88 26 [l0, vi x, l2, l3, l4] st u bb σ Q ↔ qx sc D 88 27 [l0, vi x, l2, l3, l4] (vi x :: st) u bb σ Q := r_iload_n (k := 1) (by decide +kernel) rfl
theorem k88_27 : qx sc D 88 27 ls (vi x :: vi i :: vr a :: st) u bb σ Q ↔ (q_ty a = 0 ∧ 0 ≤ i ∧ i < q_ln a) ∧ qx sc D 88 28 ls st u bb (q_up σ a i x) Q := r_iast (by decide +kernel)
theorem k88_28 : qx sc D 88 28 [vr a, l1, l2, l3, l4] st u bb σ Q ↔ qx sc D 88 29 [vr a, l1, l2, l3, l4] (vr a :: st) u bb σ Q := r_aload_n (k := 0) (by decide +kernel) rfl
theorem k88_29 : qx sc D 88 29 ls (vr 9 :: st) u bb σ Q ↔ qx sc D 88 32 ls (vr 11 :: st) u bb σ Q := r_getR (idx := 15) (c := 13) (k := 2) (by decide +kernel)
theorem k88_32 : qx sc D 88 32 [l0, l1, l2, l3, vi x] st u bb σ Q ↔ qx sc D 88 34 [l0, l1, l2, l3, vi x] (vi x :: st) u bb σ Q := r_iload (k := 4) (by decide +kernel) rfl
theorem k88_34 : qx sc D 88 34 [l0, l1, vi x, l3, l4] st u bb σ Q ↔ qx sc D 88 35 [l0, l1, vi x, l3, l4] (vi x :: st) u bb σ Q := r_iload_n (k := 2) (by decide +kernel) rfl
theorem k88_35 : qx sc D 88 35 ls (vi x :: vi i :: vr a :: st) u bb σ Q ↔ (q_ty a = 0 ∧ 0 ≤ i ∧ i < q_ln a) ∧ qx sc D 88 36 ls st u bb (q_up σ a i x) Q := r_iast (by decide +kernel)
theorem k88_36 : qx sc D 88 36 [vr a, l1, l2, l3, l4] st u bb σ Q ↔ qx sc D 88 37 [vr a, l1, l2, l3, l4] (vr a :: st) u bb σ Q := r_aload_n (k := 0) (by decide +kernel) rfl
theorem k88_37 : qx sc D 88 37 ls (vr 9 :: st) u bb σ Q ↔ qx sc D 88 40 ls (vr 12 :: st) u bb σ Q := r_getR (idx := 18) (c := 13) (k := 3) (by decide +kernel)
theorem k88_40 : qx sc D 88 40 [l0, l1, l2, l3, vi x] st u bb σ Q ↔ qx sc D 88 42 [l0, l1, l2, l3, vi x] (vi x :: st) u bb σ Q := r_iload (k := 4) (by decide +kernel) rfl
theorem k88_42 : qx sc D 88 42 [l0, l1, l2, vi x, l4] st u bb σ Q ↔ qx sc D 88 43 [l0, l1, l2, vi x, l4] (vi x :: st) u bb σ Q := r_iload_n (k := 3) (by decide +kernel) rfl
theorem k88_43 : qx sc D 88 43 ls (vi x :: vi i :: vr a :: st) u bb σ Q ↔ (q_ty a = 0 ∧ 0 ≤ i ∧ i < q_ln a) ∧ qx sc D 88 44 ls st u bb (q_up σ a i x) Q := r_iast (by decide +kernel)
theorem k88_44 : qx sc D 88 44 [vr a, l1, l2, l3, l4] st u bb σ Q ↔ qx sc D 88 45 [vr a, l1, l2, l3, l4] (vr a :: st) u bb σ Q := r_aload_n (k := 0) (by decide +kernel) rfl
theorem k88_45 : qx sc D 88 45 ls (vr 9 :: st) u bb σ Q ↔ qx sc D 88 48 ls (vr 13 :: st) u bb σ Q := r_getR (idx := 21) (c := 13) (k := 4) (by decide +kernel)
theorem k88_48 : qx sc D 88 48 [l0, l1, l2, l3, vi x] st u bb σ Q ↔ qx sc D 88 50 [l0, l1, l2, l3, vi x] (vi x :: st) u bb σ Q := r_iload (k := 4) (by decide +kernel) rfl
theorem k88_50 : qx sc D 88 50 ls st u bb σ Q ↔ qx sc D 88 51 ls (vi (-1) :: st) u bb σ Q := r_iconst (by decide +kernel)
theorem k88_51 : qx sc D 88 51 ls (vi x :: vi i :: vr a :: st) u bb σ Q ↔ (q_ty a = 0 ∧ 0 ≤ i ∧ i < q_ln a) ∧ qx sc D 88 52 ls st u bb (q_up σ a i x) Q := r_iast (by decide +kernel)
theorem k88_52 : qx sc D 88 52 [vr a, l1, l2, l3, l4] st u bb σ Q ↔ qx sc D 88 53 [vr a, l1, l2, l3, l4] (vr a :: st) u bb σ Q := r_aload_n (k := 0) (by decide +kernel) rfl
theorem k88_53 : qx sc D 88 53 ls (vr 9 :: st) u bb σ Q ↔ qx sc D 88 56 ls (vr 14 :: st) u bb σ Q := r_getR (idx := 24) (c := 13) (k := 5) (by decide +kernel)
theorem k88_56 : qx sc D 88 56 [l0, l1, l2, l3, vi x] st u bb σ Q ↔ qx sc D 88 58 [l0, l1, l2, l3, vi x] (vi x :: st) u bb σ Q := r_iload (k := 4) (by decide +kernel) rfl
theorem k88_58 : qx sc D 88 58 ls st u bb σ Q ↔ qx sc D 88 59 ls (vi (-1) :: st) u bb σ Q := r_iconst (by decide +kernel)
theorem k88_59 : qx sc D 88 59 ls (vi x :: vi i :: vr a :: st) u bb σ Q ↔ (q_ty a = 0 ∧ 0 ≤ i ∧ i < q_ln a) ∧ qx sc D 88 60 ls st u bb (q_up σ a i x) Q := r_iast (by decide +kernel)
theorem k88_60 : qx sc D 88 60 [vr a, l1, l2, l3, l4] st u bb σ Q ↔ qx sc D 88 61 [vr a, l1, l2, l3, l4] (vr a :: st) u bb σ Q := r_aload_n (k := 0) (by decide +kernel) rfl
theorem k88_61 : qx sc D 88 61 ls (vr 9 :: st) u bb σ Q ↔ qx sc D 88 64 ls (vr 15 :: st) u bb σ Q := r_getR (idx := 27) (c := 13) (k := 6) (by decide +kernel)
theorem k88_64 : qx sc D 88 64 [l0, l1, l2, l3, vi x] st u bb σ Q ↔ qx sc D 88 66 [l0, l1, l2, l3, vi x] (vi x :: st) u bb σ Q := r_iload (k := 4) (by decide +kernel) rfl
theorem k88_66 : qx sc D 88 66 ls st u bb σ Q ↔ qx sc D 88 67 ls (vi 0 :: st) u bb σ Q := r_iconst (by decide +kernel)
theorem k88_67 : qx sc D 88 67 ls (vi x :: vi i :: vr a :: st) u bb σ Q ↔ (q_ty a = 0 ∧ 0 ≤ i ∧ i < q_ln a) ∧ qx sc D 88 68 ls st u bb (q_up σ a i x) Q := r_iast (by decide +kernel)
theorem k88_68 : qx sc D 88 68 [vr a, l1, l2, l3, l4] st u bb σ Q ↔ qx sc D 88 69 [vr a, l1, l2, l3, l4] (vr a :: st) u bb σ Q := r_aload_n (k := 0) (by decide +kernel) rfl
theorem k88_69 : qx sc D 88 69 ls (vr 9 :: st) u bb σ Q ↔ qx sc D 88 72 ls (vr 16 :: st) u bb σ Q := r_getR (idx := 30) (c := 13) (k := 7) (by decide +kernel)
theorem k88_72 : qx sc D 88 72 [l0, l1, l2, l3, vi x] st u bb σ Q ↔ qx sc D 88 74 [l0, l1, l2, l3, vi x] (vi x :: st) u bb σ Q := r_iload (k := 4) (by decide +kernel) rfl
theorem k88_74 : qx sc D 88 74 [l0, l1, l2, l3, vi x] st u bb σ Q ↔ qx sc D 88 76 [l0, l1, l2, l3, vi x] (vi x :: st) u bb σ Q := r_iload (k := 4) (by decide +kernel) rfl
theorem k88_76 : qx sc D 88 76 ls (vi x :: vi i :: vr a :: st) u bb σ Q ↔ (q_ty a = 0 ∧ 0 ≤ i ∧ i < q_ln a) ∧ qx sc D 88 77 ls st u bb (q_up σ a i x) Q := r_iast (by decide +kernel)
theorem k88_77 : qx sc D 88 77 [vr a, l1, l2, l3, l4] st u bb σ Q ↔ qx sc D 88 78 [vr a, l1, l2, l3, l4] (vr a :: st) u bb σ Q := r_aload_n (k := 0) (by decide +kernel) rfl
theorem k88_78 : qx sc D 88 78 ls (vr 9 :: st) u bb σ Q ↔ qx sc D 88 81 ls (vr 17 :: st) u bb σ Q := r_getR (idx := 33) (c := 13) (k := 8) (by decide +kernel)
theorem k88_81 : qx sc D 88 81 [l0, l1, l2, l3, vi x] st u bb σ Q ↔ qx sc D 88 83 [l0, l1, l2, l3, vi x] (vi x :: st) u bb σ Q := r_iload (k := 4) (by decide +kernel) rfl
theorem k88_83 : qx sc D 88 83 ls st u bb σ Q ↔ qx sc D 88 84 ls (vi 0 :: st) u bb σ Q := r_iconst (by decide +kernel)
theorem k88_84 : qx sc D 88 84 ls (vi x :: vi i :: vr a :: st) u bb σ Q ↔ (q_ty a = 0 ∧ 0 ≤ i ∧ i < q_ln a) ∧ qx sc D 88 85 ls st u bb (q_up σ a i x) Q := r_iast (by decide +kernel)
theorem k88_85 : qx sc D 88 85 [vr a, l1, l2, l3, l4] st u bb σ Q ↔ qx sc D 88 86 [vr a, l1, l2, l3, l4] (vr a :: st) u bb σ Q := r_aload_n (k := 0) (by decide +kernel) rfl
theorem k88_86 : qx sc D 88 86 ls st u bb σ Q ↔ qx sc D 88 87 ls (vi 0 :: st) u bb σ Q := r_iconst (by decide +kernel)
theorem k88_87 : qx sc D 88 87 [l0, l1, l2, l3, vi x] st u bb σ Q ↔ qx sc D 88 89 [l0, l1, l2, l3, vi x] (vi x :: st) u bb σ Q := r_iload (k := 4) (by decide +kernel) rfl
theorem k88_89 : qx sc D 88 89 ls st u bb σ Q ↔ qx sc D 88 90 ls (vi 0 :: st) u bb σ Q := r_iconst (by decide +kernel)
theorem k88_90 : qx sc D 88 90 ls st u bb σ Q ↔ qx sc D 88 91 ls (vi 0 :: st) u bb σ Q := r_iconst (by decide +kernel)
theorem k88_91 : qx sc D 88 91 ls st u bb σ Q ↔ qx sc D 88 92 ls (vi 0 :: st) u bb σ Q := r_iconst (by decide +kernel)
theorem k88_92 : qx sc (D + 1) 88 92 ls [vi x4, vi x3, vi x2, vi x1, vi x0, vr 9] (0, 0) bb σ Q ↔ qx sc D 92 0 [vr 9, vi x0, vi x1, vi x2, vi x3, vi x4] [] (0, 0) bb σ (q_kn sc (D + 1) 88 95 ls [] (0, 0) Q) := r_callv (idx := 57) (n := 5) (m := 6) (by decide +kernel) rfl (Nat.le_of_ble_eq_true rfl) ⟨Nat.le_of_ble_eq_true rfl, Nat.le_of_ble_eq_true rfl, rfl⟩ rfl
theorem k88_95 : qx sc D 88 95 [vr a, l1, l2, l3, l4] st u bb σ Q ↔ qx sc D 88 96 [vr a, l1, l2, l3, l4] (vr a :: st) u bb σ Q := r_aload_n (k := 0) (by decide +kernel) rfl
theorem k88_96 : qx sc D 88 96 ls st u bb σ Q ↔ qx sc D 88 97 ls (vi 1 :: st) u bb σ Q := r_iconst (by decide +kernel)
theorem k88_97 : qx sc D 88 97 [l0, l1, l2, l3, vi x] st u bb σ Q ↔ qx sc D 88 99 [l0, l1, l2, l3, vi x] (vi x :: st) u bb σ Q := r_iload (k := 4) (by decide +kernel) rfl
theorem k88_99 : qx sc D 88 99 ls st u bb σ Q ↔ qx sc D 88 100 ls (vi 0 :: st) u bb σ Q := r_iconst (by decide +kernel)
theorem k88_100 : qx sc D 88 100 ls st u bb σ Q ↔ qx sc D 88 101 ls (vi 0 :: st) u bb σ Q := r_iconst (by decide +kernel)
theorem k88_101 : qx sc D 88 101 ls st u bb σ Q ↔ qx sc D 88 102 ls (vi 0 :: st) u bb σ Q := r_iconst (by decide +kernel)
theorem k88_102 : qx sc (D + 1) 88 102 ls [vi x4, vi x3, vi x2, vi x1, vi x0, vr 9] (0, 0) bb σ Q ↔ qx sc D 92 0 [vr 9, vi x0, vi x1, vi x2, vi x3, vi x4] [] (0, 0) bb σ (q_kn sc (D + 1) 88 105 ls [] (0, 0) Q) := r_callv (idx := 57) (n := 5) (m := 6) (by decide +kernel) rfl (Nat.le_of_ble_eq_true rfl) ⟨Nat.le_of_ble_eq_true rfl, Nat.le_of_ble_eq_true rfl, rfl⟩ rfl
theorem k88_105 : qx sc D 88 105 [l0, l1, l2, l3, vi x] st u bb σ Q ↔ qx sc D 88 107 [l0, l1, l2, l3, vi x] (vi x :: st) u bb σ Q := r_iload (k := 4) (by decide +kernel) rfl
theorem k88_107 : qx sc D 88 107 ls [vi x] (0, 0) bb σ Q ↔ Q (.inl (some (vi x))) bb σ := r_ret (by decide +kernel)
-- 89: RowProver$Versions.follow(III)V
theorem k89_0 : qx sc D 89 0 [vr a, l1, l2, l3] st u bb σ Q ↔ qx sc D 89 1 [vr a, l1, l2, l3] (vr a :: st) u bb σ Q := r_aload_n (k := 0) (by decide +kernel) rfl
theorem k89_1 : qx sc D 89 1 ls (vr 9 :: st) u bb σ Q ↔ qx sc D 89 4 ls (vr 13 :: st) u bb σ Q := r_getR (idx := 21) (c := 13) (k := 4) (by decide +kernel)
theorem k89_4 : qx sc D 89 4 [l0, vi x, l2, l3] st u bb σ Q ↔ qx sc D 89 5 [l0, vi x, l2, l3] (vi x :: st) u bb σ Q := r_iload_n (k := 1) (by decide +kernel) rfl
theorem k89_5 : qx sc D 89 5 [l0, l1, vi x, l3] st u bb σ Q ↔ qx sc D 89 6 [l0, l1, vi x, l3] (vi x :: st) u bb σ Q := r_iload_n (k := 2) (by decide +kernel) rfl
theorem k89_6 : qx sc D 89 6 ls (vi x :: vi i :: vr a :: st) u bb σ Q ↔ (q_ty a = 0 ∧ 0 ≤ i ∧ i < q_ln a) ∧ qx sc D 89 7 ls st u bb (q_up σ a i x) Q := r_iast (by decide +kernel)
theorem k89_7 : qx sc D 89 7 [vr a, l1, l2, l3] st u bb σ Q ↔ qx sc D 89 8 [vr a, l1, l2, l3] (vr a :: st) u bb σ Q := r_aload_n (k := 0) (by decide +kernel) rfl
theorem k89_8 : qx sc D 89 8 ls (vr 9 :: st) u bb σ Q ↔ qx sc D 89 11 ls (vr 15 :: st) u bb σ Q := r_getR (idx := 27) (c := 13) (k := 6) (by decide +kernel)
theorem k89_11 : qx sc D 89 11 [l0, vi x, l2, l3] st u bb σ Q ↔ qx sc D 89 12 [l0, vi x, l2, l3] (vi x :: st) u bb σ Q := r_iload_n (k := 1) (by decide +kernel) rfl
theorem k89_12 : qx sc D 89 12 [l0, l1, l2, vi x] st u bb σ Q ↔ qx sc D 89 13 [l0, l1, l2, vi x] (vi x :: st) u bb σ Q := r_iload_n (k := 3) (by decide +kernel) rfl
theorem k89_13 : qx sc D 89 13 ls (vi x :: vi i :: vr a :: st) u bb σ Q ↔ (q_ty a = 0 ∧ 0 ≤ i ∧ i < q_ln a) ∧ qx sc D 89 14 ls st u bb (q_up σ a i x) Q := r_iast (by decide +kernel)
theorem k89_14 : qx sc D 89 14 [vr a, l1, l2, l3] st u bb σ Q ↔ qx sc D 89 15 [vr a, l1, l2, l3] (vr a :: st) u bb σ Q := r_aload_n (k := 0) (by decide +kernel) rfl
theorem k89_15 : qx sc D 89 15 ls (vr 9 :: st) u bb σ Q ↔ qx sc D 89 18 ls (vr 16 :: st) u bb σ Q := r_getR (idx := 30) (c := 13) (k := 7) (by decide +kernel)
theorem k89_18 : qx sc D 89 18 [l0, vi x, l2, l3] st u bb σ Q ↔ qx sc D 89 19 [l0, vi x, l2, l3] (vi x :: st) u bb σ Q := r_iload_n (k := 1) (by decide +kernel) rfl
theorem k89_19 : qx sc D 89 19 [vr a, l1, l2, l3] st u bb σ Q ↔ qx sc D 89 20 [vr a, l1, l2, l3] (vr a :: st) u bb σ Q := r_aload_n (k := 0) (by decide +kernel) rfl
theorem k89_20 : qx sc D 89 20 ls (vr 9 :: st) u bb σ Q ↔ qx sc D 89 23 ls (vr 16 :: st) u bb σ Q := r_getR (idx := 30) (c := 13) (k := 7) (by decide +kernel)
theorem k89_23 : qx sc D 89 23 [l0, l1, vi x, l3] st u bb σ Q ↔ qx sc D 89 24 [l0, l1, vi x, l3] (vi x :: st) u bb σ Q := r_iload_n (k := 2) (by decide +kernel) rfl
theorem k89_24 : qx sc D 89 24 ls (vi i :: vr a :: st) u bb σ Q ↔ (q_ty a = 0 ∧ 0 ≤ i ∧ i < q_ln a) ∧ qx sc D 89 25 ls (vi (σ a i) :: st) u bb σ Q := r_iald (by decide +kernel)
theorem k89_25 : qx sc D 89 25 ls (vi x :: vi i :: vr a :: st) u bb σ Q ↔ (q_ty a = 0 ∧ 0 ≤ i ∧ i < q_ln a) ∧ qx sc D 89 26 ls st u bb (q_up σ a i x) Q := r_iast (by decide +kernel)
theorem k89_26 : qx sc D 89 26 [vr a, l1, l2, l3] st u bb σ Q ↔ qx sc D 89 27 [vr a, l1, l2, l3] (vr a :: st) u bb σ Q := r_aload_n (k := 0) (by decide +kernel) rfl
theorem k89_27 : qx sc D 89 27 ls (vr 9 :: st) u bb σ Q ↔ qx sc D 89 30 ls (vr 17 :: st) u bb σ Q := r_getR (idx := 33) (c := 13) (k := 8) (by decide +kernel)
theorem k89_30 : qx sc D 89 30 [l0, vi x, l2, l3] st u bb σ Q ↔ qx sc D 89 31 [l0, vi x, l2, l3] (vi x :: st) u bb σ Q := r_iload_n (k := 1) (by decide +kernel) rfl
theorem k89_31 : qx sc D 89 31 [vr a, l1, l2, l3] st u bb σ Q ↔ qx sc D 89 32 [vr a, l1, l2, l3] (vr a :: st) u bb σ Q := r_aload_n (k := 0) (by decide +kernel) rfl
theorem k89_32 : qx sc D 89 32 ls (vr 9 :: st) u bb σ Q ↔ qx sc D 89 35 ls (vr 17 :: st) u bb σ Q := r_getR (idx := 33) (c := 13) (k := 8) (by decide +kernel)
theorem k89_35 : qx sc D 89 35 [l0, l1, vi x, l3] st u bb σ Q ↔ qx sc D 89 36 [l0, l1, vi x, l3] (vi x :: st) u bb σ Q := r_iload_n (k := 2) (by decide +kernel) rfl
theorem k89_36 : qx sc D 89 36 ls (vi i :: vr a :: st) u bb σ Q ↔ (q_ty a = 0 ∧ 0 ≤ i ∧ i < q_ln a) ∧ qx sc D 89 37 ls (vi (σ a i) :: st) u bb σ Q := r_iald (by decide +kernel)
theorem k89_37 : qx sc D 89 37 [l0, l1, l2, vi x] st u bb σ Q ↔ qx sc D 89 38 [l0, l1, l2, vi x] (vi x :: st) u bb σ Q := r_iload_n (k := 3) (by decide +kernel) rfl
theorem k89_38 : qx sc D 89 38 ls (vi b' :: vi a' :: st) u bb σ Q ↔ q_R (a' + b') ∧ qx sc D 89 39 ls (vi (a' + b') :: st) u bb σ Q := r_iadd (by decide +kernel)
theorem k89_39 : qx sc D 89 39 ls (vi x :: vi i :: vr a :: st) u bb σ Q ↔ (q_ty a = 0 ∧ 0 ≤ i ∧ i < q_ln a) ∧ qx sc D 89 40 ls st u bb (q_up σ a i x) Q := r_iast (by decide +kernel)
theorem k89_40 : qx sc D 89 40 ls [] (0, 0) bb σ Q ↔ Q (.inl none) bb σ := r_retV (by decide +kernel)
-- 90: RowProver$Versions.meets(I)Z
theorem k90_0 : qx sc D 90 0 [vr a, l1] st u bb σ Q ↔ qx sc D 90 1 [vr a, l1] (vr a :: st) u bb σ Q := r_aload_n (k := 0) (by decide +kernel) rfl
theorem k90_1 : qx sc D 90 1 ls (vr 9 :: st) u bb σ Q ↔ qx sc D 90 4 ls (vr 11 :: st) u bb σ Q := r_getR (idx := 15) (c := 13) (k := 2) (by decide +kernel)
theorem k90_4 : qx sc D 90 4 [l0, vi x] st u bb σ Q ↔ qx sc D 90 5 [l0, vi x] (vi x :: st) u bb σ Q := r_iload_n (k := 1) (by decide +kernel) rfl
theorem k90_5 : qx sc D 90 5 ls (vi i :: vr a :: st) u bb σ Q ↔ (q_ty a = 0 ∧ 0 ≤ i ∧ i < q_ln a) ∧ qx sc D 90 6 ls (vi (σ a i) :: st) u bb σ Q := r_iald (by decide +kernel)
theorem k90_6 : qx sc D 90 6 ls st u bb σ Q ↔ qx sc D 90 7 ls (vi 5 :: st) u bb σ Q := r_iconst (by decide +kernel)
theorem k90_7 : qx sc D 90 7 ls (vi b' :: vi a' :: st) u bb σ Q ↔ (a' = b' → qx sc D 90 21 ls st u bb σ Q) ∧ (¬ (a' = b') → qx sc D 90 10 ls st u bb σ Q) := r_ic_eq (off := 14) (t := 21) (by decide +kernel)
theorem k90_10 : qx sc D 90 10 [vr a, l1] st u bb σ Q ↔ qx sc D 90 11 [vr a, l1] (vr a :: st) u bb σ Q := r_aload_n (k := 0) (by decide +kernel) rfl
theorem k90_11 : qx sc D 90 11 ls (vr 9 :: st) u bb σ Q ↔ qx sc D 90 14 ls (vr 11 :: st) u bb σ Q := r_getR (idx := 15) (c := 13) (k := 2) (by decide +kernel)
theorem k90_14 : qx sc D 90 14 [l0, vi x] st u bb σ Q ↔ qx sc D 90 15 [l0, vi x] (vi x :: st) u bb σ Q := r_iload_n (k := 1) (by decide +kernel) rfl
theorem k90_15 : qx sc D 90 15 ls (vi i :: vr a :: st) u bb σ Q ↔ (q_ty a = 0 ∧ 0 ≤ i ∧ i < q_ln a) ∧ qx sc D 90 16 ls (vi (σ a i) :: st) u bb σ Q := r_iald (by decide +kernel)
theorem k90_16 : qx sc D 90 16 ls st u bb σ Q ↔ qx sc D 90 18 ls (vi 6 :: st) u bb σ Q := r_bipush (by decide +kernel)
theorem k90_18 : qx sc D 90 18 ls (vi b' :: vi a' :: st) u bb σ Q ↔ (a' = b' → qx sc D 90 21 ls st u bb σ Q) ∧ (¬ (a' = b') → qx sc D 90 25 ls st u bb σ Q) := r_ic_ne (off := 7) (t := 25) (by decide +kernel)
theorem k90_21 : qx sc D 90 21 ls st u bb σ Q ↔ qx sc D 90 22 ls (vi 1 :: st) u bb σ Q := r_iconst (by decide +kernel)
theorem k90_22 : qx sc D 90 22 ls st u bb σ Q ↔ qx sc D 90 26 ls st u bb σ Q := r_goto (off := 4) (by decide +kernel)
theorem k90_25 : qx sc D 90 25 ls st u bb σ Q ↔ qx sc D 90 26 ls (vi 0 :: st) u bb σ Q := r_iconst (by decide +kernel)
theorem k90_26 : qx sc D 90 26 ls [vi x] (0, 0) bb σ Q ↔ (x = 0 ∨ x = 1) ∧ Q (.inl (some (vi x))) bb σ := r_retB (by decide +kernel)
-- 91: RowProver$Versions.tellBoth(III)V
theorem k91_0 : qx sc D 91 0 [vr a, l1, l2, l3] st u bb σ Q ↔ qx sc D 91 1 [vr a, l1, l2, l3] (vr a :: st) u bb σ Q := r_aload_n (k := 0) (by decide +kernel) rfl
theorem k91_1 : qx sc D 91 1 ls st u bb σ Q ↔ qx sc D 91 2 ls (vi 0 :: st) u bb σ Q := r_iconst (by decide +kernel)
theorem k91_2 : qx sc D 91 2 [l0, vi x, l2, l3] st u bb σ Q ↔ qx sc D 91 3 [l0, vi x, l2, l3] (vi x :: st) u bb σ Q := r_iload_n (k := 1) (by decide +kernel) rfl
theorem k91_3 : qx sc D 91 3 [l0, l1, vi x, l3] st u bb σ Q ↔ qx sc D 91 4 [l0, l1, vi x, l3] (vi x :: st) u bb σ Q := r_iload_n (k := 2) (by decide +kernel) rfl
theorem k91_4 : qx sc D 91 4 [l0, l1, l2, vi x] st u bb σ Q ↔ qx sc D 91 5 [l0, l1, l2, vi x] (vi x :: st) u bb σ Q := r_iload_n (k := 3) (by decide +kernel) rfl
theorem k91_5 : qx sc D 91 5 ls st u bb σ Q ↔ qx sc D 91 6 ls (vi 0 :: st) u bb σ Q := r_iconst (by decide +kernel)
theorem k91_6 : qx sc (D + 1) 91 6 ls [vi x4, vi x3, vi x2, vi x1, vi x0, vr 9] (0, 0) bb σ Q ↔ qx sc D 92 0 [vr 9, vi x0, vi x1, vi x2, vi x3, vi x4] [] (0, 0) bb σ (q_kn sc (D + 1) 91 9 ls [] (0, 0) Q) := r_callv (idx := 57) (n := 5) (m := 6) (by decide +kernel) rfl (Nat.le_of_ble_eq_true rfl) ⟨Nat.le_of_ble_eq_true rfl, Nat.le_of_ble_eq_true rfl, rfl⟩ rfl
theorem k91_9 : qx sc D 91 9 [vr a, l1, l2, l3] st u bb σ Q ↔ qx sc D 91 10 [vr a, l1, l2, l3] (vr a :: st) u bb σ Q := r_aload_n (k := 0) (by decide +kernel) rfl
theorem k91_10 : qx sc D 91 10 ls st u bb σ Q ↔ qx sc D 91 11 ls (vi 1 :: st) u bb σ Q := r_iconst (by decide +kernel)
theorem k91_11 : qx sc D 91 11 [l0, vi x, l2, l3] st u bb σ Q ↔ qx sc D 91 12 [l0, vi x, l2, l3] (vi x :: st) u bb σ Q := r_iload_n (k := 1) (by decide +kernel) rfl
theorem k91_12 : qx sc D 91 12 [l0, l1, vi x, l3] st u bb σ Q ↔ qx sc D 91 13 [l0, l1, vi x, l3] (vi x :: st) u bb σ Q := r_iload_n (k := 2) (by decide +kernel) rfl
theorem k91_13 : qx sc D 91 13 [l0, l1, l2, vi x] st u bb σ Q ↔ qx sc D 91 14 [l0, l1, l2, vi x] (vi x :: st) u bb σ Q := r_iload_n (k := 3) (by decide +kernel) rfl
theorem k91_14 : qx sc D 91 14 ls st u bb σ Q ↔ qx sc D 91 15 ls (vi 0 :: st) u bb σ Q := r_iconst (by decide +kernel)
theorem k91_15 : qx sc (D + 1) 91 15 ls [vi x4, vi x3, vi x2, vi x1, vi x0, vr 9] (0, 0) bb σ Q ↔ qx sc D 92 0 [vr 9, vi x0, vi x1, vi x2, vi x3, vi x4] [] (0, 0) bb σ (q_kn sc (D + 1) 91 18 ls [] (0, 0) Q) := r_callv (idx := 57) (n := 5) (m := 6) (by decide +kernel) rfl (Nat.le_of_ble_eq_true rfl) ⟨Nat.le_of_ble_eq_true rfl, Nat.le_of_ble_eq_true rfl, rfl⟩ rfl
theorem k91_18 : qx sc D 91 18 ls [] (0, 0) bb σ Q ↔ Q (.inl none) bb σ := r_retV (by decide +kernel)
-- 92: RowProver$Versions.tellTerm(IIIII)V
theorem k92_0 : qx sc D 92 0 [vr a, l1, l2, l3, l4, l5] st u bb σ Q ↔ qx sc D 92 1 [vr a, l1, l2, l3, l4, l5] (vr a :: st) u bb σ Q := r_aload_n (k := 0) (by decide +kernel) rfl
theorem k92_1 : qx sc D 92 1 ls (vr 9 :: st) u bb σ Q ↔ qx sc D 92 4 ls (vr 18 :: st) u bb σ Q := r_getR (idx := 38) (c := 13) (k := 9) (by decide +kernel)
theorem k92_4 : qx sc D 92 4 [l0, vi x, l2, l3, l4, l5] st u bb σ Q ↔ qx sc D 92 5 [l0, vi x, l2, l3, l4, l5] (vi x :: st) u bb σ Q := r_iload_n (k := 1) (by decide +kernel) rfl
theorem k92_5 : qx sc D 92 5 ls (vi i :: vr a :: st) u bb σ Q ↔ (q_ty a = 4 ∧ 0 ≤ i ∧ i < q_ln a) ∧ qx sc D 92 6 ls (vr (a + 1 + i.toNat) :: st) u bb σ Q := r_aald (by decide +kernel)
theorem k92_6 : qx sc D 92 6 [l0, l1, vi x, l3, l4, l5] st u bb σ Q ↔ qx sc D 92 7 [l0, l1, vi x, l3, l4, l5] (vi x :: st) u bb σ Q := r_iload_n (k := 2) (by decide +kernel) rfl
theorem k92_7 : qx sc D 92 7 [l0, l1, l2, vi x, l4, l5] st u bb σ Q ↔ qx sc D 92 8 [l0, l1, l2, vi x, l4, l5] (vi x :: st) u bb σ Q := r_iload_n (k := 3) (by decide +kernel) rfl
theorem k92_8 : qx sc D 92 8 ls (vi x :: vi i :: vr a :: st) u bb σ Q ↔ (q_ty a = 0 ∧ 0 ≤ i ∧ i < q_ln a) ∧ qx sc D 92 9 ls st u bb (q_up σ a i x) Q := r_iast (by decide +kernel)
theorem k92_9 : qx sc D 92 9 [vr a, l1, l2, l3, l4, l5] st u bb σ Q ↔ qx sc D 92 10 [vr a, l1, l2, l3, l4, l5] (vr a :: st) u bb σ Q := r_aload_n (k := 0) (by decide +kernel) rfl
theorem k92_10 : qx sc D 92 10 ls (vr 9 :: st) u bb σ Q ↔ qx sc D 92 13 ls (vr 21 :: st) u bb σ Q := r_getR (idx := 41) (c := 13) (k := 10) (by decide +kernel)
theorem k92_13 : qx sc D 92 13 [l0, vi x, l2, l3, l4, l5] st u bb σ Q ↔ qx sc D 92 14 [l0, vi x, l2, l3, l4, l5] (vi x :: st) u bb σ Q := r_iload_n (k := 1) (by decide +kernel) rfl
theorem k92_14 : qx sc D 92 14 ls (vi i :: vr a :: st) u bb σ Q ↔ (q_ty a = 4 ∧ 0 ≤ i ∧ i < q_ln a) ∧ qx sc D 92 15 ls (vr (a + 1 + i.toNat) :: st) u bb σ Q := r_aald (by decide +kernel)
theorem k92_15 : qx sc D 92 15 [l0, l1, vi x, l3, l4, l5] st u bb σ Q ↔ qx sc D 92 16 [l0, l1, vi x, l3, l4, l5] (vi x :: st) u bb σ Q := r_iload_n (k := 2) (by decide +kernel) rfl
theorem k92_16 : qx sc D 92 16 [l0, l1, l2, l3, vi x, l5] st u bb σ Q ↔ qx sc D 92 18 [l0, l1, l2, l3, vi x, l5] (vi x :: st) u bb σ Q := r_iload (k := 4) (by decide +kernel) rfl
theorem k92_18 : qx sc D 92 18 ls (vi x :: vi i :: vr a :: st) u bb σ Q ↔ (q_ty a = 0 ∧ 0 ≤ i ∧ i < q_ln a) ∧ qx sc D 92 19 ls st u bb (q_up σ a i x) Q := r_iast (by decide +kernel)
theorem k92_19 : qx sc D 92 19 [vr a, l1, l2, l3, l4, l5] st u bb σ Q ↔ qx sc D 92 20 [vr a, l1, l2, l3, l4, l5] (vr a :: st) u bb σ Q := r_aload_n (k := 0) (by decide +kernel) rfl
theorem k92_20 : qx sc D 92 20 ls (vr 9 :: st) u bb σ Q ↔ qx sc D 92 23 ls (vr 24 :: st) u bb σ Q := r_getR (idx := 44) (c := 13) (k := 11) (by decide +kernel)
theorem k92_23 : qx sc D 92 23 [l0, vi x, l2, l3, l4, l5] st u bb σ Q ↔ qx sc D 92 24 [l0, vi x, l2, l3, l4, l5] (vi x :: st) u bb σ Q := r_iload_n (k := 1) (by decide +kernel) rfl
theorem k92_24 : qx sc D 92 24 ls (vi i :: vr a :: st) u bb σ Q ↔ (q_ty a = 4 ∧ 0 ≤ i ∧ i < q_ln a) ∧ qx sc D 92 25 ls (vr (a + 1 + i.toNat) :: st) u bb σ Q := r_aald (by decide +kernel)
theorem k92_25 : qx sc D 92 25 [l0, l1, vi x, l3, l4, l5] st u bb σ Q ↔ qx sc D 92 26 [l0, l1, vi x, l3, l4, l5] (vi x :: st) u bb σ Q := r_iload_n (k := 2) (by decide +kernel) rfl
theorem k92_26 : qx sc D 92 26 [l0, l1, l2, l3, l4, vi x] st u bb σ Q ↔ qx sc D 92 28 [l0, l1, l2, l3, l4, vi x] (vi x :: st) u bb σ Q := r_iload (k := 5) (by decide +kernel) rfl
theorem k92_28 : qx sc D 92 28 ls (vi x :: vi i :: vr a :: st) u bb σ Q ↔ (q_ty a = 0 ∧ 0 ≤ i ∧ i < q_ln a) ∧ qx sc D 92 29 ls st u bb (q_up σ a i x) Q := r_iast (by decide +kernel)
theorem k92_29 : qx sc D 92 29 ls [] (0, 0) bb σ Q ↔ Q (.inl none) bb σ := r_retV (by decide +kernel)
-- 22: RowProver$Numbering.perform(LRowProver$Code;)V
theorem k22_0 : qx sc D 22 0 [vr a, l1, l2] st u bb σ Q ↔ qx sc D 22 1 [vr a, l1, l2] (vr a :: st) u bb σ Q := r_aload_n (k := 0) (by decide +kernel) rfl
theorem k22_1 : qx sc D 22 1 [l0, vr a, l2] st u bb σ Q ↔ qx sc D 22 2 [l0, vr a, l2] (vr a :: st) u bb σ Q := r_aload_n (k := 1) (by decide +kernel) rfl
theorem k22_2 : qx sc D 22 2 ls (vr b :: vr 39 :: st) u bb σ Q ↔ b < 1000000 ∧ qx sc D 22 5 ls st u bb (q_up σ 39 5 b) Q := r_putM (idx := 31) (c := 7) (k := 5) (by decide +kernel)
theorem k22_5 : qx sc D 22 5 [vr a, l1, l2] st u bb σ Q ↔ qx sc D 22 6 [vr a, l1, l2] (vr a :: st) u bb σ Q := r_aload_n (k := 0) (by decide +kernel) rfl
theorem k22_6 : qx sc D 22 6 ls (vr 39 :: st) u bb σ Q ↔ qx sc D 22 9 ls (vr 9 :: st) u bb σ Q := r_getR (idx := 23) (c := 7) (k := 0) (by decide +kernel)
theorem k22_9 : qx sc D 22 9 ls st u bb σ Q ↔ qx sc D 22 10 ls (vi 0 :: st) u bb σ Q := r_iconst (by decide +kernel)
theorem k22_10 : qx sc D 22 10 ls (vi x :: vr 9 :: st) u bb σ Q ↔ qx sc D 22 13 ls st u bb (q_up σ 9 0 x) Q := r_putI (idx := 35) (c := 13) (k := 0) (by decide +kernel)
theorem k22_13 : qx sc D 22 13 ls st u bb σ Q ↔ qx sc D 22 14 ls (vi 0 :: st) u bb σ Q := r_iconst (by decide +kernel)
theorem k22_14 : qx sc D 22 14 [l0, l1, l2] (vi x :: st) u bb σ Q ↔ qx sc D 22 15 [l0, l1, vi x] st u bb σ Q := r_istore_n (k := 2) (by decide +kernel) (Nat.le_of_ble_eq_true rfl)
theorem k22_15 : qx sc D 22 15 [l0, l1, vi x] st u bb σ Q ↔ qx sc D 22 16 [l0, l1, vi x] (vi x :: st) u bb σ Q := r_iload_n (k := 2) (by decide +kernel) rfl
theorem k22_16 : qx sc D 22 16 ls st u bb σ Q ↔ qx sc D 22 18 ls (vi 8 :: st) u bb σ Q := r_bipush (by decide +kernel)
theorem k22_18 : qx sc D 22 18 ls (vi b' :: vi a' :: st) u bb σ Q ↔ (a' < b' → qx sc D 22 21 ls st u bb σ Q) ∧ (¬ (a' < b') → qx sc D 22 58 ls st u bb σ Q) := r_ic_ge (off := 40) (t := 58) (by decide +kernel)
theorem k22_21 : qx sc D 22 21 [vr a, l1, l2] st u bb σ Q ↔ qx sc D 22 22 [vr a, l1, l2] (vr a :: st) u bb σ Q := r_aload_n (k := 0) (by decide +kernel) rfl
theorem k22_22 : qx sc D 22 22 ls (vr 39 :: st) u bb σ Q ↔ qx sc D 22 25 ls (vr 40 :: st) u bb σ Q := r_getR (idx := 9) (c := 7) (k := 2) (by decide +kernel)
theorem k22_25 : qx sc D 22 25 [l0, l1, vi x] st u bb σ Q ↔ qx sc D 22 26 [l0, l1, vi x] (vi x :: st) u bb σ Q := r_iload_n (k := 2) (by decide +kernel) rfl
theorem k22_26 : qx sc D 22 26 [vr a, l1, l2] st u bb σ Q ↔ qx sc D 22 27 [vr a, l1, l2] (vr a :: st) u bb σ Q := r_aload_n (k := 0) (by decide +kernel) rfl
theorem k22_27 : qx sc D 22 27 ls (vr 39 :: st) u bb σ Q ↔ qx sc D 22 30 ls (vr 9 :: st) u bb σ Q := r_getR (idx := 23) (c := 7) (k := 0) (by decide +kernel)
theorem k22_30 : qx sc D 22 30 [l0, l1, vi x] st u bb σ Q ↔ qx sc D 22 31 [l0, l1, vi x] (vi x :: st) u bb σ Q := r_iload_n (k := 2) (by decide +kernel) rfl
theorem k22_31 : qx sc D 22 31 ls st u bb σ Q ↔ qx sc D 22 32 ls (vi 0 :: st) u bb σ Q := r_iconst (by decide +kernel)
theorem k22_32 : qx sc D 22 32 ls st u bb σ Q ↔ qx sc D 22 33 ls (vi (-1) :: st) u bb σ Q := r_iconst (by decide +kernel)
theorem k22_33 : qx sc (D + 1) 22 33 ls [vi x2, vi x1, vi x0, vr 9, vi x20, vr a21] (0, 0) bb σ Q ↔ qx sc D 88 0 [vr 9, vi x0, vi x1, vi x2, vn] [] (0, 0) bb σ (q_kn sc (D + 1) 22 36 ls [vi x20, vr a21] (0, 0) Q) := r_callv (idx := 41) (n := 3) (m := 5) (by decide +kernel) rfl (Nat.le_of_ble_eq_true rfl) ⟨Nat.le_of_ble_eq_true rfl, Nat.le_of_ble_eq_true rfl, rfl⟩ rfl
theorem k22_36 : qx sc D 22 36 ls (vi x :: vi i :: vr a :: st) u bb σ Q ↔ (q_ty a = 0 ∧ 0 ≤ i ∧ i < q_ln a) ∧ qx sc D 22 37 ls st u bb (q_up σ a i x) Q := r_iast (by decide +kernel)
theorem k22_37 : qx sc D 22 37 [vr a, l1, l2] st u bb σ Q ↔ qx sc D 22 38 [vr a, l1, l2] (vr a :: st) u bb σ Q := r_aload_n (k := 0) (by decide +kernel) rfl
theorem k22_38 : qx sc D 22 38 ls (vr 39 :: st) u bb σ Q ↔ qx sc D 22 41 ls (vr 9 :: st) u bb σ Q := r_getR (idx := 23) (c := 7) (k := 0) (by decide +kernel)
theorem k22_41 : qx sc D 22 41 [vr a, l1, l2] st u bb σ Q ↔ qx sc D 22 42 [vr a, l1, l2] (vr a :: st) u bb σ Q := r_aload_n (k := 0) (by decide +kernel) rfl
theorem k22_42 : qx sc D 22 42 ls (vr 39 :: st) u bb σ Q ↔ qx sc D 22 45 ls (vr 40 :: st) u bb σ Q := r_getR (idx := 9) (c := 7) (k := 2) (by decide +kernel)
theorem k22_45 : qx sc D 22 45 [l0, l1, vi x] st u bb σ Q ↔ qx sc D 22 46 [l0, l1, vi x] (vi x :: st) u bb σ Q := r_iload_n (k := 2) (by decide +kernel) rfl
theorem k22_46 : qx sc D 22 46 ls (vi i :: vr a :: st) u bb σ Q ↔ (q_ty a = 0 ∧ 0 ≤ i ∧ i < q_ln a) ∧ qx sc D 22 47 ls (vi (σ a i) :: st) u bb σ Q := r_iald (by decide +kernel)
theorem k22_47 : qx sc D 22 47 ls st u bb σ Q ↔ qx sc D 22 48 ls (vi 1 :: st) u bb σ Q := r_iconst (by decide +kernel)
theorem k22_48 : qx sc D 22 48 ls st u bb σ Q ↔ qx sc D 22 49 ls (vi 0 :: st) u bb σ Q := r_iconst (by decide +kernel)
theorem k22_49 : qx sc (D + 1) 22 49 ls [vi x2, vi x1, vi x0, vr 9] (0, 0) bb σ Q ↔ qx sc D 91 0 [vr 9, vi x0, vi x1, vi x2] [] (0, 0) bb σ (q_kn sc (D + 1) 22 52 ls [] (0, 0) Q) := r_callv (idx := 45) (n := 3) (m := 4) (by decide +kernel) rfl (Nat.le_of_ble_eq_true rfl) ⟨Nat.le_of_ble_eq_true rfl, Nat.le_of_ble_eq_true rfl, rfl⟩ rfl
theorem k22_52 : qx sc D 22 52 [l0, l1, vi x] st u bb σ Q ↔ q_R (x + 1) ∧ qx sc D 22 55 [l0, l1, vi (x + 1)] st u bb σ Q := r_iinc (k := 2) (n := 1) (by decide +kernel) rfl
theorem k22_55 : qx sc D 22 55 ls st u bb σ Q ↔ qx sc D 22 15 ls st u bb σ Q := r_goto (off := (-40)) (by decide +kernel)
theorem k22_58 : qx sc D 22 58 [vr a, l1, l2] st u bb σ Q ↔ qx sc D 22 59 [vr a, l1, l2] (vr a :: st) u bb σ Q := r_aload_n (k := 0) (by decide +kernel) rfl
theorem k22_59 : qx sc D 22 59 ls st u bb σ Q ↔ qx sc D 22 60 ls (vi 0 :: st) u bb σ Q := r_iconst (by decide +kernel)
theorem k22_60 : qx sc D 22 60 [vr a, l1, l2] st u bb σ Q ↔ qx sc D 22 61 [vr a, l1, l2] (vr a :: st) u bb σ Q := r_aload_n (k := 0) (by decide +kernel) rfl
theorem k22_61 : qx sc D 22 61 ls (vr 39 :: st) u bb σ Q ↔ 0 ≤ σ 39 5 ∧ qx sc D 22 64 ls (vr (σ 39 5).toNat :: st) u bb σ Q := r_getM (idx := 31) (c := 7) (k := 5) (by decide +kernel)
theorem k22_64 (hc : q_C c) : qx sc D 22 64 ls (vr c :: st) u bb σ Q ↔ qx sc D 22 67 ls (vi (σ c 0) :: st) u bb σ Q := r_getIc (idx := 49) (k := 0) (by decide +kernel) hc
theorem k22_67 : qx sc D 22 67 ls st u bb σ Q ↔ qx sc D 22 68 ls (vi 0 :: st) u bb σ Q := r_iconst (by decide +kernel)
theorem k22_68 : qx sc (D + 1) 22 68 ls [vi x2, vi x1, vi x0, vr 39] (0, 0) bb σ Q ↔ qx sc D 28 0 [vr 39, vi x0, vi x1, vi x2, vn] [] (0, 0) bb σ (q_kn sc (D + 1) 22 71 ls [] (0, 0) Q) := r_callv (idx := 54) (n := 3) (m := 5) (by decide +kernel) rfl (Nat.le_of_ble_eq_true rfl) ⟨Nat.le_of_ble_eq_true rfl, Nat.le_of_ble_eq_true rfl, rfl⟩ rfl
theorem k22_71 : qx sc D 22 71 ls [] (0, 0) bb σ Q ↔ Q (.inl none) bb σ := r_retV (by decide +kernel)
-- 23: RowProver$Numbering.lookAtSides(I)V
theorem k23_0 : qx sc D 23 0 [vr a, l1, l2, l3, l4] st u bb σ Q ↔ qx sc D 23 1 [vr a, l1, l2, l3, l4] (vr a :: st) u bb σ Q := r_aload_n (k := 0) (by decide +kernel) rfl
theorem k23_1 : qx sc D 23 1 ls (vr 39 :: st) u bb σ Q ↔ 0 ≤ σ 39 5 ∧ qx sc D 23 4 ls (vr (σ 39 5).toNat :: st) u bb σ Q := r_getM (idx := 31) (c := 7) (k := 5) (by decide +kernel)
theorem k23_4 (hc : q_C c) : qx sc D 23 4 ls (vr c :: st) u bb σ Q ↔ qx sc D 23 7 ls (vr (c + 16) :: st) u bb σ Q := r_getRc (idx := 160) (k := 18) (by decide +kernel) hc
theorem k23_7 : qx sc D 23 7 [l0, l1, l2, l3, l4] (vr a :: st) u bb σ Q ↔ qx sc D 23 8 [l0, l1, vr a, l3, l4] st u bb σ Q := r_astore_n (k := 2) (by decide +kernel) (Nat.le_of_ble_eq_true rfl)
theorem k23_8 : qx sc D 23 8 ls st u bb σ Q ↔ qx sc D 23 9 ls (vi 0 :: st) u bb σ Q := r_iconst (by decide +kernel)
theorem k23_9 : qx sc D 23 9 [l0, l1, l2, l3, l4] (vi x :: st) u bb σ Q ↔ qx sc D 23 10 [l0, l1, l2, vi x, l4] st u bb σ Q := r_istore_n (k := 3) (by decide +kernel) (Nat.le_of_ble_eq_true rfl)
theorem k23_10 : qx sc D 23 10 [l0, l1, l2, vi x, l4] st u bb σ Q ↔ qx sc D 23 11 [l0, l1, l2, vi x, l4] (vi x :: st) u bb σ Q := r_iload_n (k := 3) (by decide +kernel) rfl
theorem k23_11 : qx sc D 23 11 ls st u bb σ Q ↔ qx sc D 23 12 ls (vi 1 :: st) u bb σ Q := r_iconst (by decide +kernel)
theorem k23_12 : qx sc D 23 12 ls (vi b' :: vi a' :: st) u bb σ Q ↔ (b' < a' → qx sc D 23 73 ls st u bb σ Q) ∧ (¬ (b' < a') → qx sc D 23 15 ls st u bb σ Q) := r_ic_gt (off := 61) (t := 73) (by decide +kernel)
theorem k23_15 : qx sc D 23 15 [l0, l1, vr a, l3, l4] st u bb σ Q ↔ qx sc D 23 16 [l0, l1, vr a, l3, l4] (vr a :: st) u bb σ Q := r_aload_n (k := 2) (by decide +kernel) rfl
theorem k23_16 (hc : q_C c) : qx sc D 23 16 ls (vr (c + 16) :: st) u bb σ Q ↔ qx sc D 23 19 ls (vr (c + 18) :: st) u bb σ Q := r_getRt (idx := 164) (k := 1) (j := 2) (by decide +kernel) hc
theorem k23_19 : qx sc D 23 19 [l0, l1, l2, vi x, l4] st u bb σ Q ↔ qx sc D 23 20 [l0, l1, l2, vi x, l4] (vi x :: st) u bb σ Q := r_iload_n (k := 3) (by decide +kernel) rfl
theorem k23_20 : qx sc D 23 20 ls (vi i :: vr a :: st) u bb σ Q ↔ (q_ty a = 4 ∧ 0 ≤ i ∧ i < q_ln a) ∧ qx sc D 23 21 ls (vr (a + 1 + i.toNat) :: st) u bb σ Q := r_aald (by decide +kernel)
theorem k23_21 : qx sc D 23 21 [l0, vi x, l2, l3, l4] st u bb σ Q ↔ qx sc D 23 22 [l0, vi x, l2, l3, l4] (vi x :: st) u bb σ Q := r_iload_n (k := 1) (by decide +kernel) rfl
theorem k23_22 : qx sc D 23 22 ls (vi i :: vr a :: st) u bb σ Q ↔ (q_ty a = 0 ∧ 0 ≤ i ∧ i < q_ln a) ∧ qx sc D 23 23 ls (vi (σ a i) :: st) u bb σ Q := r_iald (by decide +kernel)
theorem k23_23 : qx sc D 23 23 ls st u bb σ Q ↔ qx sc D 23 24 ls (vi 3 :: st) u bb σ Q := r_iconst (by decide +kernel)
theorem k23_24 : qx sc D 23 24 ls (vi b' :: vi a' :: st) u bb σ Q ↔ (a' = b' → qx sc D 23 27 ls st u bb σ Q) ∧ (¬ (a' = b') → qx sc D 23 31 ls st u bb σ Q) := r_ic_ne (off := 7) (t := 31) (by decide +kernel)
theorem k23_27 : qx sc D 23 27 ls st u bb σ Q ↔ qx sc D 23 28 ls (vi 1 :: st) u bb σ Q := r_iconst (by decide +kernel)
theorem k23_28 : qx sc D 23 28 ls st u bb σ Q ↔ qx sc D 23 32 ls st u bb σ Q := r_goto (off := 4) (by decide +kernel)
theorem k23_31 : qx sc D 23 31 ls st u bb σ Q ↔ qx sc D 23 32 ls (vi 0 :: st) u bb σ Q := r_iconst (by decide +kernel)
theorem k23_32 : qx sc D 23 32 [l0, l1, l2, l3, l4] (vi x :: st) u bb σ Q ↔ qx sc D 23 34 [l0, l1, l2, l3, vi x] st u bb σ Q := r_istore (k := 4) (by decide +kernel) (Nat.le_of_ble_eq_true rfl)
theorem k23_34 : qx sc D 23 34 [vr a, l1, l2, l3, l4] st u bb σ Q ↔ qx sc D 23 35 [vr a, l1, l2, l3, l4] (vr a :: st) u bb σ Q := r_aload_n (k := 0) (by decide +kernel) rfl
theorem k23_35 : qx sc D 23 35 ls (vr 39 :: st) u bb σ Q ↔ qx sc D 23 38 ls (vr 27 :: st) u bb σ Q := r_getR (idx := 27) (c := 7) (k := 1) (by decide +kernel)
theorem k23_38 : qx sc D 23 38 ls (vr 27 :: st) u bb σ Q ↔ qx sc D 23 41 ls (vr 36 :: st) u bb σ Q := r_getR (idx := 169) (c := 6) (k := 8) (by decide +kernel)
theorem k23_41 : qx sc D 23 41 [l0, l1, l2, vi x, l4] st u bb σ Q ↔ qx sc D 23 42 [l0, l1, l2, vi x, l4] (vi x :: st) u bb σ Q := r_iload_n (k := 3) (by decide +kernel) rfl
theorem k23_42 : qx sc D 23 42 ls (vi i :: vr a :: st) u bb σ Q ↔ (q_ty a = 4 ∧ 0 ≤ i ∧ i < q_ln a) ∧ qx sc D 23 43 ls (vr (a + 1 + i.toNat) :: st) u bb σ Q := r_aald (by decide +kernel)
theorem k23_43 : qx sc D 23 43 [l0, vi x, l2, l3, l4] st u bb σ Q ↔ qx sc D 23 44 [l0, vi x, l2, l3, l4] (vi x :: st) u bb σ Q := r_iload_n (k := 1) (by decide +kernel) rfl
theorem k23_44 : qx sc D 23 44 [l0, l1, l2, l3, vi x] st u bb σ Q ↔ qx sc D 23 46 [l0, l1, l2, l3, vi x] (vi x :: st) u bb σ Q := r_iload (k := 4) (by decide +kernel) rfl
theorem k23_46 : qx sc D 23 46 ls (vi x :: st) u bb σ Q ↔ (x = 0 → qx sc D 23 65 ls st u bb σ Q) ∧ (¬ (x = 0) → qx sc D 23 49 ls st u bb σ Q) := r_if_eq (off := 19) (t := 65) (by decide +kernel)
theorem k23_49 : qx sc D 23 49 [vr a, l1, l2, l3, l4] st u bb σ Q ↔ qx sc D 23 50 [vr a, l1, l2, l3, l4] (vr a :: st) u bb σ Q := r_aload_n (k := 0) (by decide +kernel) rfl
theorem k23_50 : qx sc D 23 50 ls (vr 39 :: st) u bb σ Q ↔ qx sc D 23 53 ls (vr 40 :: st) u bb σ Q := r_getR (idx := 9) (c := 7) (k := 2) (by decide +kernel)
theorem k23_53 : qx sc D 23 53 [l0, l1, vr a, l3, l4] st u bb σ Q ↔ qx sc D 23 54 [l0, l1, vr a, l3, l4] (vr a :: st) u bb σ Q := r_aload_n (k := 2) (by decide +kernel) rfl
theorem k23_54 (hc : q_C c) : qx sc D 23 54 ls (vr (c + 16) :: st) u bb σ Q ↔ qx sc D 23 57 ls (vr (c + 21) :: st) u bb σ Q := r_getRt (idx := 172) (k := 2) (j := 5) (by decide +kernel) hc
theorem k23_57 : qx sc D 23 57 [l0, l1, l2, vi x, l4] st u bb σ Q ↔ qx sc D 23 58 [l0, l1, l2, vi x, l4] (vi x :: st) u bb σ Q := r_iload_n (k := 3) (by decide +kernel) rfl
theorem k23_58 : qx sc D 23 58 ls (vi i :: vr a :: st) u bb σ Q ↔ (q_ty a = 4 ∧ 0 ≤ i ∧ i < q_ln a) ∧ qx sc D 23 59 ls (vr (a + 1 + i.toNat) :: st) u bb σ Q := r_aald (by decide +kernel)
theorem k23_59 : qx sc D 23 59 [l0, vi x, l2, l3, l4] st u bb σ Q ↔ qx sc D 23 60 [l0, vi x, l2, l3, l4] (vi x :: st) u bb σ Q := r_iload_n (k := 1) (by decide +kernel) rfl
theorem k23_60 : qx sc D 23 60 ls (vi i :: vr a :: st) u bb σ Q ↔ (q_ty a = 0 ∧ 0 ≤ i ∧ i < q_ln a) ∧ qx sc D 23 61 ls (vi (σ a i) :: st) u bb σ Q := r_iald (by decide +kernel)
theorem k23_61 : qx sc D 23 61 ls (vi i :: vr a :: st) u bb σ Q ↔ (q_ty a = 0 ∧ 0 ≤ i ∧ i < q_ln a) ∧ qx sc D 23 62 ls (vi (σ a i) :: st) u bb σ Q := r_iald (by decide +kernel)
theorem k23_62 : qx sc D 23 62 ls st u bb σ Q ↔ qx sc D 23 66 ls st u bb σ Q := r_goto (off := 4) (by decide +kernel)
theorem k23_65 : qx sc D 23 65 ls st u bb σ Q ↔ qx sc D 23 66 ls (vi (-1) :: st) u bb σ Q := r_iconst (by decide +kernel)
theorem k23_66 : qx sc D 23 66 ls (vi x :: vi i :: vr a :: st) u bb σ Q ↔ (q_ty a = 0 ∧ 0 ≤ i ∧ i < q_ln a) ∧ qx sc D 23 67 ls st u bb (q_up σ a i x) Q := r_iast (by decide +kernel)
theorem k23_67 : qx sc D 23 67 [l0, l1, l2, vi x, l4] st u bb σ Q ↔ q_R (x + 1) ∧ qx sc D 23 70 [l0, l1, l2, vi (x + 1), l4] st u bb σ Q := r_iinc (k := 3) (n := 1) (by decide +kernel) rfl
theorem k23_70 : qx sc D 23 70 ls st u bb σ Q ↔ qx sc D 23 10 ls st u bb σ Q := r_goto (off := (-60)) (by decide +kernel)
theorem k23_73 : qx sc D 23 73 ls [] (0, 0) bb σ Q ↔ Q (.inl none) bb σ := r_retV (by decide +kernel)
-- 24: RowProver$Numbering.makeChecked(II)V
theorem k24_0 : qx sc D 24 0 [vr a, l1, l2, l3, l4] st u bb σ Q ↔ qx sc D 24 1 [vr a, l1, l2, l3, l4] (vr a :: st) u bb σ Q := r_aload_n (k := 0) (by decide +kernel) rfl
theorem k24_1 : qx sc D 24 1 ls (vr 39 :: st) u bb σ Q ↔ 0 ≤ σ 39 5 ∧ qx sc D 24 4 ls (vr (σ 39 5).toNat :: st) u bb σ Q := r_getM (idx := 31) (c := 7) (k := 5) (by decide +kernel)
theorem k24_4 (hc : q_C c) : qx sc D 24 4 ls (vr c :: st) u bb σ Q ↔ qx sc D 24 7 ls (vr (c + 14) :: st) u bb σ Q := r_getRc (idx := 86) (k := 16) (by decide +kernel) hc
theorem k24_7 : qx sc D 24 7 [l0, l1, vi x, l3, l4] st u bb σ Q ↔ qx sc D 24 8 [l0, l1, vi x, l3, l4] (vi x :: st) u bb σ Q := r_iload_n (k := 2) (by decide +kernel) rfl
theorem k24_8 : qx sc D 24 8 ls (vi i :: vr a :: st) u bb σ Q ↔ (q_ty a = 0 ∧ 0 ≤ i ∧ i < q_ln a) ∧ qx sc D 24 9 ls (vi (σ a i) :: st) u bb σ Q := r_iald (by decide +kernel)
theorem k24_9 : qx sc D 24 9 [l0, l1, l2, l3, l4] (vi x :: st) u bb σ Q ↔ qx sc D 24 10 [l0, l1, l2, vi x, l4] st u bb σ Q := r_istore_n (k := 3) (by decide +kernel) (Nat.le_of_ble_eq_true rfl)
theorem k24_10 : qx sc D 24 10 [vr a, l1, l2, l3, l4] st u bb σ Q ↔ qx sc D 24 11 [vr a, l1, l2, l3, l4] (vr a :: st) u bb σ Q := r_aload_n (k := 0) (by decide +kernel) rfl
theorem k24_11 : qx sc D 24 11 ls (vr 39 :: st) u bb σ Q ↔ qx sc D 24 14 ls (vr 27 :: st) u bb σ Q := r_getR (idx := 27) (c := 7) (k := 1) (by decide +kernel)
theorem k24_14 : qx sc D 24 14 ls (vr 27 :: st) u bb σ Q ↔ qx sc D 24 17 ls (vr 28 :: st) u bb σ Q := r_getR (idx := 89) (c := 6) (k := 0) (by decide +kernel)
theorem k24_17 : qx sc D 24 17 [l0, l1, vi x, l3, l4] st u bb σ Q ↔ qx sc D 24 18 [l0, l1, vi x, l3, l4] (vi x :: st) u bb σ Q := r_iload_n (k := 2) (by decide +kernel) rfl
theorem k24_18 : qx sc D 24 18 [vr a, l1, l2, l3, l4] st u bb σ Q ↔ qx sc D 24 19 [vr a, l1, l2, l3, l4] (vr a :: st) u bb σ Q := r_aload_n (k := 0) (by decide +kernel) rfl
theorem k24_19 : qx sc D 24 19 ls (vr 39 :: st) u bb σ Q ↔ qx sc D 24 22 ls (vr 40 :: st) u bb σ Q := r_getR (idx := 9) (c := 7) (k := 2) (by decide +kernel)
theorem k24_22 : qx sc D 24 22 [l0, l1, l2, vi x, l4] st u bb σ Q ↔ qx sc D 24 23 [l0, l1, l2, vi x, l4] (vi x :: st) u bb σ Q := r_iload_n (k := 3) (by decide +kernel) rfl
theorem k24_23 : qx sc D 24 23 ls (vi i :: vr a :: st) u bb σ Q ↔ (q_ty a = 0 ∧ 0 ≤ i ∧ i < q_ln a) ∧ qx sc D 24 24 ls (vi (σ a i) :: st) u bb σ Q := r_iald (by decide +kernel)
theorem k24_24 : qx sc D 24 24 ls (vi x :: vi i :: vr a :: st) u bb σ Q ↔ (q_ty a = 0 ∧ 0 ≤ i ∧ i < q_ln a) ∧ qx sc D 24 25 ls st u bb (q_up σ a i x) Q := r_iast (by decide +kernel)
theorem k24_25 : qx sc D 24 25 [vr a, l1, l2, l3, l4] st u bb σ Q ↔ qx sc D 24 26 [vr a, l1, l2, l3, l4] (vr a :: st) u bb σ Q := r_aload_n (k := 0) (by decide +kernel) rfl
theorem k24_26 : qx sc D 24 26 ls (vr 39 :: st) u bb σ Q ↔ qx sc D 24 29 ls (vr 9 :: st) u bb σ Q := r_getR (idx := 23) (c := 7) (k := 0) (by decide +kernel)
theorem k24_29 : qx sc D 24 29 [l0, l1, l2, vi x, l4] st u bb σ Q ↔ qx sc D 24 30 [l0, l1, l2, vi x, l4] (vi x :: st) u bb σ Q := r_iload_n (k := 3) (by decide +kernel) rfl
theorem k24_30 : qx sc D 24 30 ls st u bb σ Q ↔ qx sc D 24 31 ls (vi 2 :: st) u bb σ Q := r_iconst (by decide +kernel)
theorem k24_31 : qx sc D 24 31 [l0, vi x, l2, l3, l4] st u bb σ Q ↔ qx sc D 24 32 [l0, vi x, l2, l3, l4] (vi x :: st) u bb σ Q := r_iload_n (k := 1) (by decide +kernel) rfl
theorem k24_32 : qx sc (D + 1) 24 32 ls [vi x2, vi x1, vi x0, vr 9] (0, 0) bb σ Q ↔ qx sc D 88 0 [vr 9, vi x0, vi x1, vi x2, vn] [] (0, 0) bb σ (q_kn sc (D + 1) 24 35 ls [] (0, 0) Q) := r_callv (idx := 41) (n := 3) (m := 5) (by decide +kernel) rfl (Nat.le_of_ble_eq_true rfl) ⟨Nat.le_of_ble_eq_true rfl, Nat.le_of_ble_eq_true rfl, rfl⟩ rfl
theorem k24_35 : qx sc D 24 35 [l0, l1, l2, l3, l4] (vi x :: st) u bb σ Q ↔ qx sc D 24 37 [l0, l1, l2, l3, vi x] st u bb σ Q := r_istore (k := 4) (by decide +kernel) (Nat.le_of_ble_eq_true rfl)
theorem k24_37 : qx sc D 24 37 [vr a, l1, l2, l3, l4] st u bb σ Q ↔ qx sc D 24 38 [vr a, l1, l2, l3, l4] (vr a :: st) u bb σ Q := r_aload_n (k := 0) (by decide +kernel) rfl
theorem k24_38 : qx sc D 24 38 ls (vr 39 :: st) u bb σ Q ↔ qx sc D 24 41 ls (vr 9 :: st) u bb σ Q := r_getR (idx := 23) (c := 7) (k := 0) (by decide +kernel)
theorem k24_41 : qx sc D 24 41 [l0, l1, l2, l3, vi x] st u bb σ Q ↔ qx sc D 24 43 [l0, l1, l2, l3, vi x] (vi x :: st) u bb σ Q := r_iload (k := 4) (by decide +kernel) rfl
theorem k24_43 : qx sc D 24 43 [vr a, l1, l2, l3, l4] st u bb σ Q ↔ qx sc D 24 44 [vr a, l1, l2, l3, l4] (vr a :: st) u bb σ Q := r_aload_n (k := 0) (by decide +kernel) rfl
theorem k24_44 : qx sc D 24 44 ls (vr 39 :: st) u bb σ Q ↔ qx sc D 24 47 ls (vr 40 :: st) u bb σ Q := r_getR (idx := 9) (c := 7) (k := 2) (by decide +kernel)
theorem k24_47 : qx sc D 24 47 [l0, l1, l2, vi x, l4] st u bb σ Q ↔ qx sc D 24 48 [l0, l1, l2, vi x, l4] (vi x :: st) u bb σ Q := r_iload_n (k := 3) (by decide +kernel) rfl
theorem k24_48 : qx sc D 24 48 ls (vi i :: vr a :: st) u bb σ Q ↔ (q_ty a = 0 ∧ 0 ≤ i ∧ i < q_ln a) ∧ qx sc D 24 49 ls (vi (σ a i) :: st) u bb σ Q := r_iald (by decide +kernel)
theorem k24_49 : qx sc D 24 49 ls st u bb σ Q ↔ qx sc D 24 50 ls (vi 0 :: st) u bb σ Q := r_iconst (by decide +kernel)
theorem k24_50 : qx sc (D + 1) 24 50 ls [vi x2, vi x1, vi x0, vr 9] (0, 0) bb σ Q ↔ qx sc D 89 0 [vr 9, vi x0, vi x1, vi x2] [] (0, 0) bb σ (q_kn sc (D + 1) 24 53 ls [] (0, 0) Q) := r_callv (idx := 94) (n := 3) (m := 4) (by decide +kernel) rfl (Nat.le_of_ble_eq_true rfl) ⟨Nat.le_of_ble_eq_true rfl, Nat.le_of_ble_eq_true rfl, rfl⟩ rfl
theorem k24_53 : qx sc D 24 53 [vr a, l1, l2, l3, l4] st u bb σ Q ↔ qx sc D 24 54 [vr a, l1, l2, l3, l4] (vr a :: st) u bb σ Q := r_aload_n (k := 0) (by decide +kernel) rfl
theorem k24_54 : qx sc D 24 54 ls (vr 39 :: st) u bb σ Q ↔ qx sc D 24 57 ls (vr 9 :: st) u bb σ Q := r_getR (idx := 23) (c := 7) (k := 0) (by decide +kernel)
theorem k24_57 : qx sc D 24 57 ls st u bb σ Q ↔ qx sc D 24 58 ls (vi 0 :: st) u bb σ Q := r_iconst (by decide +kernel)
theorem k24_58 : qx sc D 24 58 [l0, l1, l2, l3, vi x] st u bb σ Q ↔ qx sc D 24 60 [l0, l1, l2, l3, vi x] (vi x :: st) u bb σ Q := r_iload (k := 4) (by decide +kernel) rfl
theorem k24_60 : qx sc D 24 60 ls st u bb σ Q ↔ qx sc D 24 61 ls (vi 2 :: st) u bb σ Q := r_iconst (by decide +kernel)
theorem k24_61 : qx sc D 24 61 [vr a, l1, l2, l3, l4] st u bb σ Q ↔ qx sc D 24 62 [vr a, l1, l2, l3, l4] (vr a :: st) u bb σ Q := r_aload_n (k := 0) (by decide +kernel) rfl
theorem k24_62 : qx sc D 24 62 ls (vr 39 :: st) u bb σ Q ↔ 0 ≤ σ 39 5 ∧ qx sc D 24 65 ls (vr (σ 39 5).toNat :: st) u bb σ Q := r_getM (idx := 31) (c := 7) (k := 5) (by decide +kernel)
theorem k24_65 (hc : q_C c) : qx sc D 24 65 ls (vr c :: st) u bb σ Q ↔ qx sc D 24 68 ls (vr (c + 13) :: st) u bb σ Q := r_getRc (idx := 97) (k := 15) (by decide +kernel) hc
theorem k24_68 : qx sc D 24 68 [l0, l1, vi x, l3, l4] st u bb σ Q ↔ qx sc D 24 69 [l0, l1, vi x, l3, l4] (vi x :: st) u bb σ Q := r_iload_n (k := 2) (by decide +kernel) rfl
theorem k24_69 : qx sc D 24 69 ls (vi i :: vr a :: st) u bb σ Q ↔ (q_ty a = 0 ∧ 0 ≤ i ∧ i < q_ln a) ∧ qx sc D 24 70 ls (vi (σ a i) :: st) u bb σ Q := r_iald (by decide +kernel)
theorem k24_70 : qx sc D 24 70 ls st u bb σ Q ↔ qx sc D 24 71 ls (vi (-1) :: st) u bb σ Q := r_iconst (by decide +kernel)
theorem k24_71 : qx sc (D + 1) 24 71 ls [vi x4, vi x3, vi x2, vi x1, vi x0, vr 9] (0, 0) bb σ Q ↔ qx sc D 92 0 [vr 9, vi x0, vi x1, vi x2, vi x3, vi x4] [] (0, 0) bb σ (q_kn sc (D + 1) 24 74 ls [] (0, 0) Q) := r_callv (idx := 100) (n := 5) (m := 6) (by decide +kernel) rfl (Nat.le_of_ble_eq_true rfl) ⟨Nat.le_of_ble_eq_true rfl, Nat.le_of_ble_eq_true rfl, rfl⟩ rfl
theorem k24_74 : qx sc D 24 74 [vr a, l1, l2, l3, l4] st u bb σ Q ↔ qx sc D 24 75 [vr a, l1, l2, l3, l4] (vr a :: st) u bb σ Q := r_aload_n (k := 0) (by decide +kernel) rfl
theorem k24_75 : qx sc D 24 75 ls (vr 39 :: st) u bb σ Q ↔ qx sc D 24 78 ls (vr 9 :: st) u bb σ Q := r_getR (idx := 23) (c := 7) (k := 0) (by decide +kernel)
theorem k24_78 : qx sc D 24 78 ls st u bb σ Q ↔ qx sc D 24 79 ls (vi 1 :: st) u bb σ Q := r_iconst (by decide +kernel)
theorem k24_79 : qx sc D 24 79 [l0, l1, l2, l3, vi x] st u bb σ Q ↔ qx sc D 24 81 [l0, l1, l2, l3, vi x] (vi x :: st) u bb σ Q := r_iload (k := 4) (by decide +kernel) rfl
theorem k24_81 : qx sc D 24 81 ls st u bb σ Q ↔ qx sc D 24 82 ls (vi 1 :: st) u bb σ Q := r_iconst (by decide +kernel)
theorem k24_82 : qx sc D 24 82 ls st u bb σ Q ↔ qx sc D 24 83 ls (vi 0 :: st) u bb σ Q := r_iconst (by decide +kernel)
theorem k24_83 : qx sc D 24 83 ls st u bb σ Q ↔ qx sc D 24 84 ls (vi 0 :: st) u bb σ Q := r_iconst (by decide +kernel)
theorem k24_84 : qx sc (D + 1) 24 84 ls [vi x4, vi x3, vi x2, vi x1, vi x0, vr 9] (0, 0) bb σ Q ↔ qx sc D 92 0 [vr 9, vi x0, vi x1, vi x2, vi x3, vi x4] [] (0, 0) bb σ (q_kn sc (D + 1) 24 87 ls [] (0, 0) Q) := r_callv (idx := 100) (n := 5) (m := 6) (by decide +kernel) rfl (Nat.le_of_ble_eq_true rfl) ⟨Nat.le_of_ble_eq_true rfl, Nat.le_of_ble_eq_true rfl, rfl⟩ rfl
theorem k24_87 : qx sc D 24 87 [vr a, l1, l2, l3, l4] st u bb σ Q ↔ qx sc D 24 88 [vr a, l1, l2, l3, l4] (vr a :: st) u bb σ Q := r_aload_n (k := 0) (by decide +kernel) rfl
theorem k24_88 : qx sc D 24 88 ls (vr 39 :: st) u bb σ Q ↔ qx sc D 24 91 ls (vr 27 :: st) u bb σ Q := r_getR (idx := 27) (c := 7) (k := 1) (by decide +kernel)
theorem k24_91 : qx sc D 24 91 ls (vr 27 :: st) u bb σ Q ↔ qx sc D 24 94 ls (vr 29 :: st) u bb σ Q := r_getR (idx := 104) (c := 6) (k := 1) (by decide +kernel)
theorem k24_94 : qx sc D 24 94 [l0, l1, vi x, l3, l4] st u bb σ Q ↔ qx sc D 24 95 [l0, l1, vi x, l3, l4] (vi x :: st) u bb σ Q := r_iload_n (k := 2) (by decide +kernel) rfl
theorem k24_95 : qx sc D 24 95 [l0, l1, l2, l3, vi x] st u bb σ Q ↔ qx sc D 24 97 [l0, l1, l2, l3, vi x] (vi x :: st) u bb σ Q := r_iload (k := 4) (by decide +kernel) rfl
theorem k24_97 : qx sc D 24 97 ls (vi x :: vi i :: vr a :: st) u bb σ Q ↔ (q_ty a = 0 ∧ 0 ≤ i ∧ i < q_ln a) ∧ qx sc D 24 98 ls st u bb (q_up σ a i x) Q := r_iast (by decide +kernel)
theorem k24_98 : qx sc D 24 98 [vr a, l1, l2, l3, l4] st u bb σ Q ↔ qx sc D 24 99 [vr a, l1, l2, l3, l4] (vr a :: st) u bb σ Q := r_aload_n (k := 0) (by decide +kernel) rfl
theorem k24_99 : qx sc D 24 99 ls (vr 39 :: st) u bb σ Q ↔ qx sc D 24 102 ls (vr 40 :: st) u bb σ Q := r_getR (idx := 9) (c := 7) (k := 2) (by decide +kernel)
theorem k24_102 : qx sc D 24 102 [l0, l1, l2, vi x, l4] st u bb σ Q ↔ qx sc D 24 103 [l0, l1, l2, vi x, l4] (vi x :: st) u bb σ Q := r_iload_n (k := 3) (by decide +kernel) rfl
theorem k24_103 : qx sc D 24 103 [l0, l1, l2, l3, vi x] st u bb σ Q ↔ qx sc D 24 105 [l0, l1, l2, l3, vi x] (vi x :: st) u bb σ Q := r_iload (k := 4) (by decide +kernel) rfl
theorem k24_105 : qx sc D 24 105 ls (vi x :: vi i :: vr a :: st) u bb σ Q ↔ (q_ty a = 0 ∧ 0 ≤ i ∧ i < q_ln a) ∧ qx sc D 24 106 ls st u bb (q_up σ a i x) Q := r_iast (by decide +kernel)
theorem k24_106 : qx sc D 24 106 ls [] (0, 0) bb σ Q ↔ Q (.inl none) bb σ := r_retV (by decide +kernel)
-- 25: RowProver$Numbering.makeSides(II)I
theorem k25_0 : qx sc D 25 0 [vr a, l1, l2, l3, l4, l5, l6] st u bb σ Q ↔ qx sc D 25 1 [vr a, l1, l2, l3, l4, l5, l6] (vr a :: st) u bb σ Q := r_aload_n (k := 0) (by decide +kernel) rfl
theorem k25_1 : qx sc D 25 1 ls (vr 39 :: st) u bb σ Q ↔ 0 ≤ σ 39 5 ∧ qx sc D 25 4 ls (vr (σ 39 5).toNat :: st) u bb σ Q := r_getM (idx := 31) (c := 7) (k := 5) (by decide +kernel)
theorem k25_4 (hc : q_C c) : qx sc D 25 4 ls (vr c :: st) u bb σ Q ↔ qx sc D 25 7 ls (vr (c + 16) :: st) u bb σ Q := r_getRc (idx := 160) (k := 18) (by decide +kernel) hc
theorem k25_7 : qx sc D 25 7 [l0, l1, l2, l3, l4, l5, l6] (vr a :: st) u bb σ Q ↔ qx sc D 25 8 [l0, l1, l2, vr a, l4, l5, l6] st u bb σ Q := r_astore_n (k := 3) (by decide +kernel) (Nat.le_of_ble_eq_true rfl)
theorem k25_8 : qx sc D 25 8 [vr a, l1, l2, l3, l4, l5, l6] st u bb σ Q ↔ qx sc D 25 9 [vr a, l1, l2, l3, l4, l5, l6] (vr a :: st) u bb σ Q := r_aload_n (k := 0) (by decide +kernel) rfl
theorem k25_9 : qx sc D 25 9 ls (vr 39 :: st) u bb σ Q ↔ qx sc D 25 12 ls (vr 9 :: st) u bb σ Q := r_getR (idx := 23) (c := 7) (k := 0) (by decide +kernel)
theorem k25_12 : qx sc D 25 12 ls (vr 9 :: st) u bb σ Q ↔ qx sc D 25 15 ls (vi (σ 9 0) :: st) u bb σ Q := r_getI (idx := 35) (c := 13) (k := 0) (by decide +kernel)
theorem k25_15 : qx sc D 25 15 [l0, l1, l2, l3, l4, l5, l6] (vi x :: st) u bb σ Q ↔ qx sc D 25 17 [l0, l1, l2, l3, vi x, l5, l6] st u bb σ Q := r_istore (k := 4) (by decide +kernel) (Nat.le_of_ble_eq_true rfl)
theorem k25_17 : qx sc D 25 17 [l0, l1, l2, vr a, l4, l5, l6] st u bb σ Q ↔ qx sc D 25 18 [l0, l1, l2, vr a, l4, l5, l6] (vr a :: st) u bb σ Q := r_aload_n (k := 3) (by decide +kernel) rfl
theorem k25_18 : qx sc D 25 18 [l0, vi x, l2, l3, l4, l5, l6] st u bb σ Q ↔ qx sc D 25 19 [l0, vi x, l2, l3, l4, l5, l6] (vi x :: st) u bb σ Q := r_iload_n (k := 1) (by decide +kernel) rfl
theorem k25_19 (hc : q_C c) : qx sc (D + 1) 25 19 ls [vi x0, vr (c + 16)] (0, 0) bb σ Q ↔ qx sc D 77 0 [vr (c + 16), vi x0] [] (0, 0) bb σ (q_kn sc (D + 1) 25 22 ls [] (0, 0) Q) := r_callt (idx := 175) (n := 1) (m := 2) (by decide +kernel) hc rfl (Nat.le_of_ble_eq_true rfl) ⟨Nat.le_of_ble_eq_true rfl, Nat.le_of_ble_eq_true rfl, rfl⟩ rfl
theorem k25_22 : qx sc D 25 22 ls (vi x :: st) u bb σ Q ↔ (x = 0 → qx sc D 25 25 ls st u bb σ Q) ∧ (¬ (x = 0) → qx sc D 25 120 ls st u bb σ Q) := r_if_ne (off := 98) (t := 120) (by decide +kernel)
theorem k25_25 : qx sc D 25 25 ls st u bb σ Q ↔ qx sc D 25 26 ls (vi 0 :: st) u bb σ Q := r_iconst (by decide +kernel)
theorem k25_26 : qx sc D 25 26 [l0, l1, l2, l3, l4, l5, l6] (vi x :: st) u bb σ Q ↔ qx sc D 25 28 [l0, l1, l2, l3, l4, vi x, l6] st u bb σ Q := r_istore (k := 5) (by decide +kernel) (Nat.le_of_ble_eq_true rfl)
theorem k25_28 : qx sc D 25 28 [l0, l1, l2, l3, l4, vi x, l6] st u bb σ Q ↔ qx sc D 25 30 [l0, l1, l2, l3, l4, vi x, l6] (vi x :: st) u bb σ Q := r_iload (k := 5) (by decide +kernel) rfl
theorem k25_30 : qx sc D 25 30 ls st u bb σ Q ↔ qx sc D 25 31 ls (vi 1 :: st) u bb σ Q := r_iconst (by decide +kernel)
theorem k25_31 : qx sc D 25 31 ls (vi b' :: vi a' :: st) u bb σ Q ↔ (b' < a' → qx sc D 25 120 ls st u bb σ Q) ∧ (¬ (b' < a') → qx sc D 25 34 ls st u bb σ Q) := r_ic_gt (off := 89) (t := 120) (by decide +kernel)
theorem k25_34 : qx sc D 25 34 [l0, l1, l2, vr a, l4, l5, l6] st u bb σ Q ↔ qx sc D 25 35 [l0, l1, l2, vr a, l4, l5, l6] (vr a :: st) u bb σ Q := r_aload_n (k := 3) (by decide +kernel) rfl
theorem k25_35 (hc : q_C c) : qx sc D 25 35 ls (vr (c + 16) :: st) u bb σ Q ↔ qx sc D 25 38 ls (vr (c + 18) :: st) u bb σ Q := r_getRt (idx := 164) (k := 1) (j := 2) (by decide +kernel) hc
theorem k25_38 : qx sc D 25 38 [l0, l1, l2, l3, l4, vi x, l6] st u bb σ Q ↔ qx sc D 25 40 [l0, l1, l2, l3, l4, vi x, l6] (vi x :: st) u bb σ Q := r_iload (k := 5) (by decide +kernel) rfl
theorem k25_40 : qx sc D 25 40 ls (vi i :: vr a :: st) u bb σ Q ↔ (q_ty a = 4 ∧ 0 ≤ i ∧ i < q_ln a) ∧ qx sc D 25 41 ls (vr (a + 1 + i.toNat) :: st) u bb σ Q := r_aald (by decide +kernel)
theorem k25_41 : qx sc D 25 41 [l0, vi x, l2, l3, l4, l5, l6] st u bb σ Q ↔ qx sc D 25 42 [l0, vi x, l2, l3, l4, l5, l6] (vi x :: st) u bb σ Q := r_iload_n (k := 1) (by decide +kernel) rfl
theorem k25_42 : qx sc D 25 42 ls (vi i :: vr a :: st) u bb σ Q ↔ (q_ty a = 0 ∧ 0 ≤ i ∧ i < q_ln a) ∧ qx sc D 25 43 ls (vi (σ a i) :: st) u bb σ Q := r_iald (by decide +kernel)
theorem k25_43 : qx sc D 25 43 ls st u bb σ Q ↔ qx sc D 25 44 ls (vi 3 :: st) u bb σ Q := r_iconst (by decide +kernel)
theorem k25_44 : qx sc D 25 44 ls (vi b' :: vi a' :: st) u bb σ Q ↔ (a' = b' → qx sc D 25 47 ls st u bb σ Q) ∧ (¬ (a' = b') → qx sc D 25 114 ls st u bb σ Q) := r_ic_ne (off := 70) (t := 114) (by decide +kernel)
theorem k25_47 : qx sc D 25 47 [vr a, l1, l2, l3, l4, l5, l6] st u bb σ Q ↔ qx sc D 25 48 [vr a, l1, l2, l3, l4, l5, l6] (vr a :: st) u bb σ Q := r_aload_n (k := 0) (by decide +kernel) rfl
theorem k25_48 : qx sc D 25 48 ls (vr 39 :: st) u bb σ Q ↔ qx sc D 25 51 ls (vr 9 :: st) u bb σ Q := r_getR (idx := 23) (c := 7) (k := 0) (by decide +kernel)
theorem k25_51 : qx sc D 25 51 [l0, l1, l2, vr a, l4, l5, l6] st u bb σ Q ↔ qx sc D 25 52 [l0, l1, l2, vr a, l4, l5, l6] (vr a :: st) u bb σ Q := r_aload_n (k := 3) (by decide +kernel) rfl
theorem k25_52 (hc : q_C c) : qx sc D 25 52 ls (vr (c + 16) :: st) u bb σ Q ↔ qx sc D 25 55 ls (vr (c + 21) :: st) u bb σ Q := r_getRt (idx := 172) (k := 2) (j := 5) (by decide +kernel) hc
theorem k25_55 : qx sc D 25 55 [l0, l1, l2, l3, l4, vi x, l6] st u bb σ Q ↔ qx sc D 25 57 [l0, l1, l2, l3, l4, vi x, l6] (vi x :: st) u bb σ Q := r_iload (k := 5) (by decide +kernel) rfl
theorem k25_57 : qx sc D 25 57 ls (vi i :: vr a :: st) u bb σ Q ↔ (q_ty a = 4 ∧ 0 ≤ i ∧ i < q_ln a) ∧ qx sc D 25 58 ls (vr (a + 1 + i.toNat) :: st) u bb σ Q := r_aald (by decide +kernel)
theorem k25_58 : qx sc D 25 58 [l0, vi x, l2, l3, l4, l5, l6] st u bb σ Q ↔ qx sc D 25 59 [l0, vi x, l2, l3, l4, l5, l6] (vi x :: st) u bb σ Q := r_iload_n (k := 1) (by decide +kernel) rfl
theorem k25_59 : qx sc D 25 59 ls (vi i :: vr a :: st) u bb σ Q ↔ (q_ty a = 0 ∧ 0 ≤ i ∧ i < q_ln a) ∧ qx sc D 25 60 ls (vi (σ a i) :: st) u bb σ Q := r_iald (by decide +kernel)
theorem k25_60 : qx sc D 25 60 [l0, l1, vi x, l3, l4, l5, l6] st u bb σ Q ↔ qx sc D 25 61 [l0, l1, vi x, l3, l4, l5, l6] (vi x :: st) u bb σ Q := r_iload_n (k := 2) (by decide +kernel) rfl
theorem k25_61 : qx sc D 25 61 [l0, vi x, l2, l3, l4, l5, l6] st u bb σ Q ↔ qx sc D 25 62 [l0, vi x, l2, l3, l4, l5, l6] (vi x :: st) u bb σ Q := r_iload_n (k := 1) (by decide +kernel) rfl
theorem k25_62 : qx sc (D + 1) 25 62 ls [vi x2, vi x1, vi x0, vr 9] (0, 0) bb σ Q ↔ qx sc D 88 0 [vr 9, vi x0, vi x1, vi x2, vn] [] (0, 0) bb σ (q_kn sc (D + 1) 25 65 ls [] (0, 0) Q) := r_callv (idx := 41) (n := 3) (m := 5) (by decide +kernel) rfl (Nat.le_of_ble_eq_true rfl) ⟨Nat.le_of_ble_eq_true rfl, Nat.le_of_ble_eq_true rfl, rfl⟩ rfl
theorem k25_65 : qx sc D 25 65 [l0, l1, l2, l3, l4, l5, l6] (vi x :: st) u bb σ Q ↔ qx sc D 25 67 [l0, l1, l2, l3, l4, l5, vi x] st u bb σ Q := r_istore (k := 6) (by decide +kernel) (Nat.le_of_ble_eq_true rfl)
theorem k25_67 : qx sc D 25 67 [vr a, l1, l2, l3, l4, l5, l6] st u bb σ Q ↔ qx sc D 25 68 [vr a, l1, l2, l3, l4, l5, l6] (vr a :: st) u bb σ Q := r_aload_n (k := 0) (by decide +kernel) rfl
theorem k25_68 : qx sc D 25 68 ls (vr 39 :: st) u bb σ Q ↔ qx sc D 25 71 ls (vr 9 :: st) u bb σ Q := r_getR (idx := 23) (c := 7) (k := 0) (by decide +kernel)
theorem k25_71 : qx sc D 25 71 [l0, l1, l2, l3, l4, l5, vi x] st u bb σ Q ↔ qx sc D 25 73 [l0, l1, l2, l3, l4, l5, vi x] (vi x :: st) u bb σ Q := r_iload (k := 6) (by decide +kernel) rfl
theorem k25_73 : qx sc D 25 73 [vr a, l1, l2, l3, l4, l5, l6] st u bb σ Q ↔ qx sc D 25 74 [vr a, l1, l2, l3, l4, l5, l6] (vr a :: st) u bb σ Q := r_aload_n (k := 0) (by decide +kernel) rfl
theorem k25_74 : qx sc D 25 74 ls (vr 39 :: st) u bb σ Q ↔ qx sc D 25 77 ls (vr 27 :: st) u bb σ Q := r_getR (idx := 27) (c := 7) (k := 1) (by decide +kernel)
theorem k25_77 : qx sc D 25 77 ls (vr 27 :: st) u bb σ Q ↔ qx sc D 25 80 ls (vr 36 :: st) u bb σ Q := r_getR (idx := 169) (c := 6) (k := 8) (by decide +kernel)
theorem k25_80 : qx sc D 25 80 [l0, l1, l2, l3, l4, vi x, l6] st u bb σ Q ↔ qx sc D 25 82 [l0, l1, l2, l3, l4, vi x, l6] (vi x :: st) u bb σ Q := r_iload (k := 5) (by decide +kernel) rfl
theorem k25_82 : qx sc D 25 82 ls (vi i :: vr a :: st) u bb σ Q ↔ (q_ty a = 4 ∧ 0 ≤ i ∧ i < q_ln a) ∧ qx sc D 25 83 ls (vr (a + 1 + i.toNat) :: st) u bb σ Q := r_aald (by decide +kernel)
theorem k25_83 : qx sc D 25 83 [l0, vi x, l2, l3, l4, l5, l6] st u bb σ Q ↔ qx sc D 25 84 [l0, vi x, l2, l3, l4, l5, l6] (vi x :: st) u bb σ Q := r_iload_n (k := 1) (by decide +kernel) rfl
theorem k25_84 : qx sc D 25 84 ls (vi i :: vr a :: st) u bb σ Q ↔ (q_ty a = 0 ∧ 0 ≤ i ∧ i < q_ln a) ∧ qx sc D 25 85 ls (vi (σ a i) :: st) u bb σ Q := r_iald (by decide +kernel)
theorem k25_85 : qx sc D 25 85 ls st u bb σ Q ↔ qx sc D 25 86 ls (vi 0 :: st) u bb σ Q := r_iconst (by decide +kernel)
theorem k25_86 : qx sc (D + 1) 25 86 ls [vi x2, vi x1, vi x0, vr 9] (0, 0) bb σ Q ↔ qx sc D 89 0 [vr 9, vi x0, vi x1, vi x2] [] (0, 0) bb σ (q_kn sc (D + 1) 25 89 ls [] (0, 0) Q) := r_callv (idx := 94) (n := 3) (m := 4) (by decide +kernel) rfl (Nat.le_of_ble_eq_true rfl) ⟨Nat.le_of_ble_eq_true rfl, Nat.le_of_ble_eq_true rfl, rfl⟩ rfl
theorem k25_89 : qx sc D 25 89 [vr a, l1, l2, l3, l4, l5, l6] st u bb σ Q ↔ qx sc D 25 90 [vr a, l1, l2, l3, l4, l5, l6] (vr a :: st) u bb σ Q := r_aload_n (k := 0) (by decide +kernel) rfl
theorem k25_90 : qx sc D 25 90 [l0, vi x, l2, l3, l4, l5, l6] st u bb σ Q ↔ qx sc D 25 91 [l0, vi x, l2, l3, l4, l5, l6] (vi x :: st) u bb σ Q := r_iload_n (k := 1) (by decide +kernel) rfl
theorem k25_91 : qx sc D 25 91 [l0, l1, l2, l3, l4, l5, vi x] st u bb σ Q ↔ qx sc D 25 93 [l0, l1, l2, l3, l4, l5, vi x] (vi x :: st) u bb σ Q := r_iload (k := 6) (by decide +kernel) rfl
theorem k25_93 : qx sc D 25 93 [l0, l1, l2, l3, l4, vi x, l6] st u bb σ Q ↔ qx sc D 25 95 [l0, l1, l2, l3, l4, vi x, l6] (vi x :: st) u bb σ Q := r_iload (k := 5) (by decide +kernel) rfl
theorem k25_95 : qx sc (D + 1) 25 95 ls [vi x2, vi x1, vi x0, vr 39] (0, 0) bb σ Q ↔ qx sc D 27 0 [vr 39, vi x0, vi x1, vi x2, vn, vn, vn, vn, vn, vn, vn] [] (0, 0) bb σ (q_kn sc (D + 1) 25 98 ls [] (0, 0) Q) := r_callv (idx := 179) (n := 3) (m := 11) (by decide +kernel) rfl (Nat.le_of_ble_eq_true rfl) ⟨Nat.le_of_ble_eq_true rfl, Nat.le_of_ble_eq_true rfl, rfl⟩ rfl
theorem k25_98 : qx sc D 25 98 [vr a, l1, l2, l3, l4, l5, l6] st u bb σ Q ↔ qx sc D 25 99 [vr a, l1, l2, l3, l4, l5, l6] (vr a :: st) u bb σ Q := r_aload_n (k := 0) (by decide +kernel) rfl
theorem k25_99 : qx sc D 25 99 ls (vr 39 :: st) u bb σ Q ↔ qx sc D 25 102 ls (vr 40 :: st) u bb σ Q := r_getR (idx := 9) (c := 7) (k := 2) (by decide +kernel)
theorem k25_102 : qx sc D 25 102 [l0, l1, l2, vr a, l4, l5, l6] st u bb σ Q ↔ qx sc D 25 103 [l0, l1, l2, vr a, l4, l5, l6] (vr a :: st) u bb σ Q := r_aload_n (k := 3) (by decide +kernel) rfl
theorem k25_103 (hc : q_C c) : qx sc D 25 103 ls (vr (c + 16) :: st) u bb σ Q ↔ qx sc D 25 106 ls (vr (c + 21) :: st) u bb σ Q := r_getRt (idx := 172) (k := 2) (j := 5) (by decide +kernel) hc
theorem k25_106 : qx sc D 25 106 [l0, l1, l2, l3, l4, vi x, l6] st u bb σ Q ↔ qx sc D 25 108 [l0, l1, l2, l3, l4, vi x, l6] (vi x :: st) u bb σ Q := r_iload (k := 5) (by decide +kernel) rfl
theorem k25_108 : qx sc D 25 108 ls (vi i :: vr a :: st) u bb σ Q ↔ (q_ty a = 4 ∧ 0 ≤ i ∧ i < q_ln a) ∧ qx sc D 25 109 ls (vr (a + 1 + i.toNat) :: st) u bb σ Q := r_aald (by decide +kernel)
theorem k25_109 : qx sc D 25 109 [l0, vi x, l2, l3, l4, l5, l6] st u bb σ Q ↔ qx sc D 25 110 [l0, vi x, l2, l3, l4, l5, l6] (vi x :: st) u bb σ Q := r_iload_n (k := 1) (by decide +kernel) rfl
theorem k25_110 : qx sc D 25 110 ls (vi i :: vr a :: st) u bb σ Q ↔ (q_ty a = 0 ∧ 0 ≤ i ∧ i < q_ln a) ∧ qx sc D 25 111 ls (vi (σ a i) :: st) u bb σ Q := r_iald (by decide +kernel)
theorem k25_111 : qx sc D 25 111 [l0, l1, l2, l3, l4, l5, vi x] st u bb σ Q ↔ qx sc D 25 113 [l0, l1, l2, l3, l4, l5, vi x] (vi x :: st) u bb σ Q := r_iload (k := 6) (by decide +kernel) rfl
theorem k25_113 : qx sc D 25 113 ls (vi x :: vi i :: vr a :: st) u bb σ Q ↔ (q_ty a = 0 ∧ 0 ≤ i ∧ i < q_ln a) ∧ qx sc D 25 114 ls st u bb (q_up σ a i x) Q := r_iast (by decide +kernel)
theorem k25_114 : qx sc D 25 114 [l0, l1, l2, l3, l4, vi x, l6] st u bb σ Q ↔ q_R (x + 1) ∧ qx sc D 25 117 [l0, l1, l2, l3, l4, vi (x + 1), l6] st u bb σ Q := r_iinc (k := 5) (n := 1) (by decide +kernel) rfl
theorem k25_117 : qx sc D 25 117 ls st u bb σ Q ↔ qx sc D 25 28 ls st u bb σ Q := r_goto (off := (-89)) (by decide +kernel)
theorem k25_120 : qx sc D 25 120 [vr a, l1, l2, l3, l4, l5, l6] st u bb σ Q ↔ qx sc D 25 121 [vr a, l1, l2, l3, l4, l5, l6] (vr a :: st) u bb σ Q := r_aload_n (k := 0) (by decide +kernel) rfl
theorem k25_121 : qx sc D 25 121 ls (vr 39 :: st) u bb σ Q ↔ qx sc D 25 124 ls (vr 27 :: st) u bb σ Q := r_getR (idx := 27) (c := 7) (k := 1) (by decide +kernel)
theorem k25_124 : qx sc D 25 124 ls (vr 27 :: st) u bb σ Q ↔ qx sc D 25 127 ls (vr 35 :: st) u bb σ Q := r_getR (idx := 182) (c := 6) (k := 7) (by decide +kernel)
theorem k25_127 : qx sc D 25 127 [l0, vi x, l2, l3, l4, l5, l6] st u bb σ Q ↔ qx sc D 25 128 [l0, vi x, l2, l3, l4, l5, l6] (vi x :: st) u bb σ Q := r_iload_n (k := 1) (by decide +kernel) rfl
theorem k25_128 : qx sc D 25 128 [vr a, l1, l2, l3, l4, l5, l6] st u bb σ Q ↔ qx sc D 25 129 [vr a, l1, l2, l3, l4, l5, l6] (vr a :: st) u bb σ Q := r_aload_n (k := 0) (by decide +kernel) rfl
theorem k25_129 : qx sc D 25 129 ls (vr 39 :: st) u bb σ Q ↔ qx sc D 25 132 ls (vr 9 :: st) u bb σ Q := r_getR (idx := 23) (c := 7) (k := 0) (by decide +kernel)
theorem k25_132 : qx sc D 25 132 ls (vr 9 :: st) u bb σ Q ↔ qx sc D 25 135 ls (vi (σ 9 0) :: st) u bb σ Q := r_getI (idx := 35) (c := 13) (k := 0) (by decide +kernel)
theorem k25_135 : qx sc D 25 135 [l0, l1, l2, l3, vi x, l5, l6] st u bb σ Q ↔ qx sc D 25 137 [l0, l1, l2, l3, vi x, l5, l6] (vi x :: st) u bb σ Q := r_iload (k := 4) (by decide +kernel) rfl
theorem k25_137 : qx sc D 25 137 ls (vi b' :: vi a' :: st) u bb σ Q ↔ q_R (a' - b') ∧ qx sc D 25 138 ls (vi (a' - b') :: st) u bb σ Q := r_isub (by decide +kernel)
theorem k25_138 : qx sc D 25 138 ls (vi x :: vi i :: vr a :: st) u bb σ Q ↔ (q_ty a = 0 ∧ 0 ≤ i ∧ i < q_ln a) ∧ qx sc D 25 139 ls st u bb (q_up σ a i x) Q := r_iast (by decide +kernel)
theorem k25_139 : qx sc D 25 139 [l0, l1, l2, l3, vi x, l5, l6] st u bb σ Q ↔ qx sc D 25 141 [l0, l1, l2, l3, vi x, l5, l6] (vi x :: st) u bb σ Q := r_iload (k := 4) (by decide +kernel) rfl
theorem k25_141 : qx sc D 25 141 ls [vi x] (0, 0) bb σ Q ↔ Q (.inl (some (vi x))) bb σ := r_ret (by decide +kernel)
-- 26: RowProver$Numbering.makeValue(I)V
theorem k26_0 : qx sc D 26 0 [vr a, l1, l2, l3] st u bb σ Q ↔ qx sc D 26 1 [vr a, l1, l2, l3] (vr a :: st) u bb σ Q := r_aload_n (k := 0) (by decide +kernel) rfl
theorem k26_1 : qx sc D 26 1 ls (vr 39 :: st) u bb σ Q ↔ 0 ≤ σ 39 5 ∧ qx sc D 26 4 ls (vr (σ 39 5).toNat :: st) u bb σ Q := r_getM (idx := 31) (c := 7) (k := 5) (by decide +kernel)
theorem k26_4 (hc : q_C c) : qx sc D 26 4 ls (vr c :: st) u bb σ Q ↔ qx sc D 26 7 ls (vr (c + 3) :: st) u bb σ Q := r_getRc (idx := 107) (k := 5) (by decide +kernel) hc
theorem k26_7 : qx sc D 26 7 [l0, vi x, l2, l3] st u bb σ Q ↔ qx sc D 26 8 [l0, vi x, l2, l3] (vi x :: st) u bb σ Q := r_iload_n (k := 1) (by decide +kernel) rfl
theorem k26_8 : qx sc D 26 8 ls (vi i :: vr a :: st) u bb σ Q ↔ (q_ty a = 0 ∧ 0 ≤ i ∧ i < q_ln a) ∧ qx sc D 26 9 ls (vi (σ a i) :: st) u bb σ Q := r_iald (by decide +kernel)
theorem k26_9 : qx sc D 26 9 [l0, l1, l2, l3] (vi x :: st) u bb σ Q ↔ qx sc D 26 10 [l0, l1, vi x, l3] st u bb σ Q := r_istore_n (k := 2) (by decide +kernel) (Nat.le_of_ble_eq_true rfl)
theorem k26_10 : qx sc D 26 10 [vr a, l1, l2, l3] st u bb σ Q ↔ qx sc D 26 11 [vr a, l1, l2, l3] (vr a :: st) u bb σ Q := r_aload_n (k := 0) (by decide +kernel) rfl
theorem k26_11 : qx sc D 26 11 ls (vr 39 :: st) u bb σ Q ↔ qx sc D 26 14 ls (vr 9 :: st) u bb σ Q := r_getR (idx := 23) (c := 7) (k := 0) (by decide +kernel)
theorem k26_14 : qx sc D 26 14 [l0, l1, vi x, l3] st u bb σ Q ↔ qx sc D 26 15 [l0, l1, vi x, l3] (vi x :: st) u bb σ Q := r_iload_n (k := 2) (by decide +kernel) rfl
theorem k26_15 : qx sc D 26 15 ls st u bb σ Q ↔ qx sc D 26 16 ls (vi 1 :: st) u bb σ Q := r_iconst (by decide +kernel)
theorem k26_16 : qx sc D 26 16 [l0, vi x, l2, l3] st u bb σ Q ↔ qx sc D 26 17 [l0, vi x, l2, l3] (vi x :: st) u bb σ Q := r_iload_n (k := 1) (by decide +kernel) rfl
theorem k26_17 : qx sc (D + 1) 26 17 ls [vi x2, vi x1, vi x0, vr 9] (0, 0) bb σ Q ↔ qx sc D 88 0 [vr 9, vi x0, vi x1, vi x2, vn] [] (0, 0) bb σ (q_kn sc (D + 1) 26 20 ls [] (0, 0) Q) := r_callv (idx := 41) (n := 3) (m := 5) (by decide +kernel) rfl (Nat.le_of_ble_eq_true rfl) ⟨Nat.le_of_ble_eq_true rfl, Nat.le_of_ble_eq_true rfl, rfl⟩ rfl
theorem k26_20 : qx sc D 26 20 [l0, l1, l2, l3] (vi x :: st) u bb σ Q ↔ qx sc D 26 21 [l0, l1, l2, vi x] st u bb σ Q := r_istore_n (k := 3) (by decide +kernel) (Nat.le_of_ble_eq_true rfl)
theorem k26_21 : qx sc D 26 21 [vr a, l1, l2, l3] st u bb σ Q ↔ qx sc D 26 22 [vr a, l1, l2, l3] (vr a :: st) u bb σ Q := r_aload_n (k := 0) (by decide +kernel) rfl
theorem k26_22 : qx sc D 26 22 ls (vr 39 :: st) u bb σ Q ↔ 0 ≤ σ 39 5 ∧ qx sc D 26 25 ls (vr (σ 39 5).toNat :: st) u bb σ Q := r_getM (idx := 31) (c := 7) (k := 5) (by decide +kernel)
theorem k26_25 (hc : q_C c) : qx sc D 26 25 ls (vr c :: st) u bb σ Q ↔ qx sc D 26 28 ls (vr (c + 4) :: st) u bb σ Q := r_getRc (idx := 110) (k := 6) (by decide +kernel) hc
theorem k26_28 : qx sc D 26 28 [l0, vi x, l2, l3] st u bb σ Q ↔ qx sc D 26 29 [l0, vi x, l2, l3] (vi x :: st) u bb σ Q := r_iload_n (k := 1) (by decide +kernel) rfl
theorem k26_29 : qx sc D 26 29 ls (vi i :: vr a :: st) u bb σ Q ↔ (q_ty a = 0 ∧ 0 ≤ i ∧ i < q_ln a) ∧ qx sc D 26 30 ls (vi (σ a i) :: st) u bb σ Q := r_iald (by decide +kernel)
theorem k26_30 : qx sc D 26 30 ls st u bb σ Q ↔ qx sc D 26 31 ls (vi 1 :: st) u bb σ Q := r_iconst (by decide +kernel)
theorem k26_31 : qx sc D 26 31 ls (vi b' :: vi a' :: st) u bb σ Q ↔ (a' = b' → qx sc D 26 34 ls st u bb σ Q) ∧ (¬ (a' = b') → qx sc D 26 55 ls st u bb σ Q) := r_ic_ne (off := 24) (t := 55) (by decide +kernel)
theorem k26_34 : qx sc D 26 34 [vr a, l1, l2, l3] st u bb σ Q ↔ qx sc D 26 35 [vr a, l1, l2, l3] (vr a :: st) u bb σ Q := r_aload_n (k := 0) (by decide +kernel) rfl
theorem k26_35 : qx sc D 26 35 ls (vr 39 :: st) u bb σ Q ↔ qx sc D 26 38 ls (vr 9 :: st) u bb σ Q := r_getR (idx := 23) (c := 7) (k := 0) (by decide +kernel)
theorem k26_38 : qx sc D 26 38 [l0, l1, l2, vi x] st u bb σ Q ↔ qx sc D 26 39 [l0, l1, l2, vi x] (vi x :: st) u bb σ Q := r_iload_n (k := 3) (by decide +kernel) rfl
theorem k26_39 : qx sc D 26 39 ls st u bb σ Q ↔ qx sc D 26 40 ls (vi 1 :: st) u bb σ Q := r_iconst (by decide +kernel)
theorem k26_40 : qx sc D 26 40 [vr a, l1, l2, l3] st u bb σ Q ↔ qx sc D 26 41 [vr a, l1, l2, l3] (vr a :: st) u bb σ Q := r_aload_n (k := 0) (by decide +kernel) rfl
theorem k26_41 : qx sc D 26 41 ls (vr 39 :: st) u bb σ Q ↔ 0 ≤ σ 39 5 ∧ qx sc D 26 44 ls (vr (σ 39 5).toNat :: st) u bb σ Q := r_getM (idx := 31) (c := 7) (k := 5) (by decide +kernel)
theorem k26_44 (hc : q_C c) : qx sc D 26 44 ls (vr c :: st) u bb σ Q ↔ qx sc D 26 47 ls (vr (c + 6) :: st) u bb σ Q := r_getRc (idx := 113) (k := 8) (by decide +kernel) hc
theorem k26_47 : qx sc D 26 47 [l0, vi x, l2, l3] st u bb σ Q ↔ qx sc D 26 48 [l0, vi x, l2, l3] (vi x :: st) u bb σ Q := r_iload_n (k := 1) (by decide +kernel) rfl
theorem k26_48 : qx sc D 26 48 ls (vi i :: vr a :: st) u bb σ Q ↔ (q_ty a = 0 ∧ 0 ≤ i ∧ i < q_ln a) ∧ qx sc D 26 49 ls (vi (σ a i) :: st) u bb σ Q := r_iald (by decide +kernel)
theorem k26_49 : qx sc (D + 1) 26 49 ls [vi x2, vi x1, vi x0, vr 9] (0, 0) bb σ Q ↔ qx sc D 91 0 [vr 9, vi x0, vi x1, vi x2] [] (0, 0) bb σ (q_kn sc (D + 1) 26 52 ls [] (0, 0) Q) := r_callv (idx := 45) (n := 3) (m := 4) (by decide +kernel) rfl (Nat.le_of_ble_eq_true rfl) ⟨Nat.le_of_ble_eq_true rfl, Nat.le_of_ble_eq_true rfl, rfl⟩ rfl
theorem k26_52 : qx sc D 26 52 ls st u bb σ Q ↔ qx sc D 26 133 ls st u bb σ Q := r_goto (off := 81) (by decide +kernel)
theorem k26_55 : qx sc D 26 55 [vr a, l1, l2, l3] st u bb σ Q ↔ qx sc D 26 56 [vr a, l1, l2, l3] (vr a :: st) u bb σ Q := r_aload_n (k := 0) (by decide +kernel) rfl
theorem k26_56 : qx sc D 26 56 ls (vr 39 :: st) u bb σ Q ↔ 0 ≤ σ 39 5 ∧ qx sc D 26 59 ls (vr (σ 39 5).toNat :: st) u bb σ Q := r_getM (idx := 31) (c := 7) (k := 5) (by decide +kernel)
theorem k26_59 (hc : q_C c) : qx sc D 26 59 ls (vr c :: st) u bb σ Q ↔ qx sc D 26 62 ls (vr (c + 4) :: st) u bb σ Q := r_getRc (idx := 110) (k := 6) (by decide +kernel) hc
theorem k26_62 : qx sc D 26 62 [l0, vi x, l2, l3] st u bb σ Q ↔ qx sc D 26 63 [l0, vi x, l2, l3] (vi x :: st) u bb σ Q := r_iload_n (k := 1) (by decide +kernel) rfl
theorem k26_63 : qx sc D 26 63 ls (vi i :: vr a :: st) u bb σ Q ↔ (q_ty a = 0 ∧ 0 ≤ i ∧ i < q_ln a) ∧ qx sc D 26 64 ls (vi (σ a i) :: st) u bb σ Q := r_iald (by decide +kernel)
theorem k26_64 : qx sc D 26 64 ls st u bb σ Q ↔ qx sc D 26 65 ls (vi 2 :: st) u bb σ Q := r_iconst (by decide +kernel)
theorem k26_65 : qx sc D 26 65 ls (vi b' :: vi a' :: st) u bb σ Q ↔ (a' = b' → qx sc D 26 68 ls st u bb σ Q) ∧ (¬ (a' = b') → qx sc D 26 89 ls st u bb σ Q) := r_ic_ne (off := 24) (t := 89) (by decide +kernel)
theorem k26_68 : qx sc D 26 68 [vr a, l1, l2, l3] st u bb σ Q ↔ qx sc D 26 69 [vr a, l1, l2, l3] (vr a :: st) u bb σ Q := r_aload_n (k := 0) (by decide +kernel) rfl
theorem k26_69 : qx sc D 26 69 ls (vr 39 :: st) u bb σ Q ↔ qx sc D 26 72 ls (vr 9 :: st) u bb σ Q := r_getR (idx := 23) (c := 7) (k := 0) (by decide +kernel)
theorem k26_72 : qx sc D 26 72 [l0, l1, l2, vi x] st u bb σ Q ↔ qx sc D 26 73 [l0, l1, l2, vi x] (vi x :: st) u bb σ Q := r_iload_n (k := 3) (by decide +kernel) rfl
theorem k26_73 : qx sc D 26 73 ls st u bb σ Q ↔ qx sc D 26 74 ls (vi 2 :: st) u bb σ Q := r_iconst (by decide +kernel)
theorem k26_74 : qx sc D 26 74 [vr a, l1, l2, l3] st u bb σ Q ↔ qx sc D 26 75 [vr a, l1, l2, l3] (vr a :: st) u bb σ Q := r_aload_n (k := 0) (by decide +kernel) rfl
theorem k26_75 : qx sc D 26 75 ls (vr 39 :: st) u bb σ Q ↔ 0 ≤ σ 39 5 ∧ qx sc D 26 78 ls (vr (σ 39 5).toNat :: st) u bb σ Q := r_getM (idx := 31) (c := 7) (k := 5) (by decide +kernel)
theorem k26_78 (hc : q_C c) : qx sc D 26 78 ls (vr c :: st) u bb σ Q ↔ qx sc D 26 81 ls (vr (c + 5) :: st) u bb σ Q := r_getRc (idx := 116) (k := 7) (by decide +kernel) hc
theorem k26_81 : qx sc D 26 81 [l0, vi x, l2, l3] st u bb σ Q ↔ qx sc D 26 82 [l0, vi x, l2, l3] (vi x :: st) u bb σ Q := r_iload_n (k := 1) (by decide +kernel) rfl
theorem k26_82 : qx sc D 26 82 ls (vi i :: vr a :: st) u bb σ Q ↔ (q_ty a = 0 ∧ 0 ≤ i ∧ i < q_ln a) ∧ qx sc D 26 83 ls (vi (σ a i) :: st) u bb σ Q := r_iald (by decide +kernel)
theorem k26_83 : qx sc (D + 1) 26 83 ls [vi x2, vi x1, vi x0, vr 9] (0, 0) bb σ Q ↔ qx sc D 91 0 [vr 9, vi x0, vi x1, vi x2] [] (0, 0) bb σ (q_kn sc (D + 1) 26 86 ls [] (0, 0) Q) := r_callv (idx := 45) (n := 3) (m := 4) (by decide +kernel) rfl (Nat.le_of_ble_eq_true rfl) ⟨Nat.le_of_ble_eq_true rfl, Nat.le_of_ble_eq_true rfl, rfl⟩ rfl
theorem k26_86 : qx sc D 26 86 ls st u bb σ Q ↔ qx sc D 26 133 ls st u bb σ Q := r_goto (off := 47) (by decide +kernel)
theorem k26_89 : qx sc D 26 89 [vr a, l1, l2, l3] st u bb σ Q ↔ qx sc D 26 90 [vr a, l1, l2, l3] (vr a :: st) u bb σ Q := r_aload_n (k := 0) (by decide +kernel) rfl
theorem k26_90 : qx sc D 26 90 ls (vr 39 :: st) u bb σ Q ↔ 0 ≤ σ 39 5 ∧ qx sc D 26 93 ls (vr (σ 39 5).toNat :: st) u bb σ Q := r_getM (idx := 31) (c := 7) (k := 5) (by decide +kernel)
theorem k26_93 (hc : q_C c) : qx sc D 26 93 ls (vr c :: st) u bb σ Q ↔ qx sc D 26 96 ls (vr (c + 4) :: st) u bb σ Q := r_getRc (idx := 110) (k := 6) (by decide +kernel) hc
theorem k26_96 : qx sc D 26 96 [l0, vi x, l2, l3] st u bb σ Q ↔ qx sc D 26 97 [l0, vi x, l2, l3] (vi x :: st) u bb σ Q := r_iload_n (k := 1) (by decide +kernel) rfl
theorem k26_97 : qx sc D 26 97 ls (vi i :: vr a :: st) u bb σ Q ↔ (q_ty a = 0 ∧ 0 ≤ i ∧ i < q_ln a) ∧ qx sc D 26 98 ls (vi (σ a i) :: st) u bb σ Q := r_iald (by decide +kernel)
theorem k26_98 : qx sc D 26 98 ls st u bb σ Q ↔ qx sc D 26 99 ls (vi 3 :: st) u bb σ Q := r_iconst (by decide +kernel)
theorem k26_99 : qx sc D 26 99 ls (vi b' :: vi a' :: st) u bb σ Q ↔ (a' = b' → qx sc D 26 102 ls st u bb σ Q) ∧ (¬ (a' = b') → qx sc D 26 133 ls st u bb σ Q) := r_ic_ne (off := 34) (t := 133) (by decide +kernel)
theorem k26_102 : qx sc D 26 102 [vr a, l1, l2, l3] st u bb σ Q ↔ qx sc D 26 103 [vr a, l1, l2, l3] (vr a :: st) u bb σ Q := r_aload_n (k := 0) (by decide +kernel) rfl
theorem k26_103 : qx sc D 26 103 ls (vr 39 :: st) u bb σ Q ↔ qx sc D 26 106 ls (vr 9 :: st) u bb σ Q := r_getR (idx := 23) (c := 7) (k := 0) (by decide +kernel)
theorem k26_106 : qx sc D 26 106 [l0, l1, l2, vi x] st u bb σ Q ↔ qx sc D 26 107 [l0, l1, l2, vi x] (vi x :: st) u bb σ Q := r_iload_n (k := 3) (by decide +kernel) rfl
theorem k26_107 : qx sc D 26 107 [vr a, l1, l2, l3] st u bb σ Q ↔ qx sc D 26 108 [vr a, l1, l2, l3] (vr a :: st) u bb σ Q := r_aload_n (k := 0) (by decide +kernel) rfl
theorem k26_108 : qx sc D 26 108 ls (vr 39 :: st) u bb σ Q ↔ qx sc D 26 111 ls (vr 40 :: st) u bb σ Q := r_getR (idx := 9) (c := 7) (k := 2) (by decide +kernel)
theorem k26_111 : qx sc D 26 111 [vr a, l1, l2, l3] st u bb σ Q ↔ qx sc D 26 112 [vr a, l1, l2, l3] (vr a :: st) u bb σ Q := r_aload_n (k := 0) (by decide +kernel) rfl
theorem k26_112 : qx sc D 26 112 ls (vr 39 :: st) u bb σ Q ↔ 0 ≤ σ 39 5 ∧ qx sc D 26 115 ls (vr (σ 39 5).toNat :: st) u bb σ Q := r_getM (idx := 31) (c := 7) (k := 5) (by decide +kernel)
theorem k26_115 (hc : q_C c) : qx sc D 26 115 ls (vr c :: st) u bb σ Q ↔ qx sc D 26 118 ls (vr (c + 5) :: st) u bb σ Q := r_getRc (idx := 116) (k := 7) (by decide +kernel) hc
theorem k26_118 : qx sc D 26 118 [l0, vi x, l2, l3] st u bb σ Q ↔ qx sc D 26 119 [l0, vi x, l2, l3] (vi x :: st) u bb σ Q := r_iload_n (k := 1) (by decide +kernel) rfl
theorem k26_119 : qx sc D 26 119 ls (vi i :: vr a :: st) u bb σ Q ↔ (q_ty a = 0 ∧ 0 ≤ i ∧ i < q_ln a) ∧ qx sc D 26 120 ls (vi (σ a i) :: st) u bb σ Q := r_iald (by decide +kernel)
theorem k26_120 : qx sc D 26 120 ls (vi i :: vr a :: st) u bb σ Q ↔ (q_ty a = 0 ∧ 0 ≤ i ∧ i < q_ln a) ∧ qx sc D 26 121 ls (vi (σ a i) :: st) u bb σ Q := r_iald (by decide +kernel)
theorem k26_121 : qx sc D 26 121 [vr a, l1, l2, l3] st u bb σ Q ↔ qx sc D 26 122 [vr a, l1, l2, l3] (vr a :: st) u bb σ Q := r_aload_n (k := 0) (by decide +kernel) rfl
theorem k26_122 : qx sc D 26 122 ls (vr 39 :: st) u bb σ Q ↔ 0 ≤ σ 39 5 ∧ qx sc D 26 125 ls (vr (σ 39 5).toNat :: st) u bb σ Q := r_getM (idx := 31) (c := 7) (k := 5) (by decide +kernel)
theorem k26_125 (hc : q_C c) : qx sc D 26 125 ls (vr c :: st) u bb σ Q ↔ qx sc D 26 128 ls (vr (c + 6) :: st) u bb σ Q := r_getRc (idx := 113) (k := 8) (by decide +kernel) hc
theorem k26_128 : qx sc D 26 128 [l0, vi x, l2, l3] st u bb σ Q ↔ qx sc D 26 129 [l0, vi x, l2, l3] (vi x :: st) u bb σ Q := r_iload_n (k := 1) (by decide +kernel) rfl
theorem k26_129 : qx sc D 26 129 ls (vi i :: vr a :: st) u bb σ Q ↔ (q_ty a = 0 ∧ 0 ≤ i ∧ i < q_ln a) ∧ qx sc D 26 130 ls (vi (σ a i) :: st) u bb σ Q := r_iald (by decide +kernel)
theorem k26_130 : qx sc (D + 1) 26 130 ls [vi x2, vi x1, vi x0, vr 9] (0, 0) bb σ Q ↔ qx sc D 89 0 [vr 9, vi x0, vi x1, vi x2] [] (0, 0) bb σ (q_kn sc (D + 1) 26 133 ls [] (0, 0) Q) := r_callv (idx := 94) (n := 3) (m := 4) (by decide +kernel) rfl (Nat.le_of_ble_eq_true rfl) ⟨Nat.le_of_ble_eq_true rfl, Nat.le_of_ble_eq_true rfl, rfl⟩ rfl
theorem k26_133 : qx sc D 26 133 [vr a, l1, l2, l3] st u bb σ Q ↔ qx sc D 26 134 [vr a, l1, l2, l3] (vr a :: st) u bb σ Q := r_aload_n (k := 0) (by decide +kernel) rfl
theorem k26_134 : qx sc D 26 134 ls (vr 39 :: st) u bb σ Q ↔ qx sc D 26 137 ls (vr 27 :: st) u bb σ Q := r_getR (idx := 27) (c := 7) (k := 1) (by decide +kernel)
theorem k26_137 : qx sc D 26 137 ls (vr 27 :: st) u bb σ Q ↔ qx sc D 26 140 ls (vr 30 :: st) u bb σ Q := r_getR (idx := 119) (c := 6) (k := 2) (by decide +kernel)
theorem k26_140 : qx sc D 26 140 [l0, vi x, l2, l3] st u bb σ Q ↔ qx sc D 26 141 [l0, vi x, l2, l3] (vi x :: st) u bb σ Q := r_iload_n (k := 1) (by decide +kernel) rfl
theorem k26_141 : qx sc D 26 141 [l0, l1, l2, vi x] st u bb σ Q ↔ qx sc D 26 142 [l0, l1, l2, vi x] (vi x :: st) u bb σ Q := r_iload_n (k := 3) (by decide +kernel) rfl
theorem k26_142 : qx sc D 26 142 ls (vi x :: vi i :: vr a :: st) u bb σ Q ↔ (q_ty a = 0 ∧ 0 ≤ i ∧ i < q_ln a) ∧ qx sc D 26 143 ls st u bb (q_up σ a i x) Q := r_iast (by decide +kernel)
theorem k26_143 : qx sc D 26 143 [vr a, l1, l2, l3] st u bb σ Q ↔ qx sc D 26 144 [vr a, l1, l2, l3] (vr a :: st) u bb σ Q := r_aload_n (k := 0) (by decide +kernel) rfl
theorem k26_144 : qx sc D 26 144 ls (vr 39 :: st) u bb σ Q ↔ qx sc D 26 147 ls (vr 40 :: st) u bb σ Q := r_getR (idx := 9) (c := 7) (k := 2) (by decide +kernel)
theorem k26_147 : qx sc D 26 147 [l0, l1, vi x, l3] st u bb σ Q ↔ qx sc D 26 148 [l0, l1, vi x, l3] (vi x :: st) u bb σ Q := r_iload_n (k := 2) (by decide +kernel) rfl
theorem k26_148 : qx sc D 26 148 [l0, l1, l2, vi x] st u bb σ Q ↔ qx sc D 26 149 [l0, l1, l2, vi x] (vi x :: st) u bb σ Q := r_iload_n (k := 3) (by decide +kernel) rfl
theorem k26_149 : qx sc D 26 149 ls (vi x :: vi i :: vr a :: st) u bb σ Q ↔ (q_ty a = 0 ∧ 0 ≤ i ∧ i < q_ln a) ∧ qx sc D 26 150 ls st u bb (q_up σ a i x) Q := r_iast (by decide +kernel)
theorem k26_150 : qx sc D 26 150 ls [] (0, 0) bb σ Q ↔ Q (.inl none) bb σ := r_retV (by decide +kernel)
-- 27: RowProver$Numbering.tellSide(III)V
theorem k27_0 : qx sc D 27 0 [vr a, l1, l2, l3, l4, l5, l6, l7, l8, l9, l10] st u bb σ Q ↔ qx sc D 27 1 [vr a, l1, l2, l3, l4, l5, l6, l7, l8, l9, l10] (vr a :: st) u bb σ Q := r_aload_n (k := 0) (by decide +kernel) rfl
theorem k27_1 : qx sc D 27 1 ls (vr 39 :: st) u bb σ Q ↔ qx sc D 27 4 ls (vr 9 :: st) u bb σ Q := r_getR (idx := 23) (c := 7) (k := 0) (by decide +kernel)
theorem k27_4 : qx sc D 27 4 ls (vr 9 :: st) u bb σ Q ↔ qx sc D 27 7 ls (vr 11 :: st) u bb σ Q := r_getR (idx := 185) (c := 13) (k := 2) (by decide +kernel)
theorem k27_7 : qx sc D 27 7 [l0, l1, vi x, l3, l4, l5, l6, l7, l8, l9, l10] st u bb σ Q ↔ qx sc D 27 8 [l0, l1, vi x, l3, l4, l5, l6, l7, l8, l9, l10] (vi x :: st) u bb σ Q := r_iload_n (k := 2) (by decide +kernel) rfl
theorem k27_8 : qx sc D 27 8 ls (vi i :: vr a :: st) u bb σ Q ↔ (q_ty a = 0 ∧ 0 ≤ i ∧ i < q_ln a) ∧ qx sc D 27 9 ls (vi (σ a i) :: st) u bb σ Q := r_iald (by decide +kernel)
theorem k27_9 : qx sc D 27 9 ls st u bb σ Q ↔ qx sc D 27 10 ls (vi 3 :: st) u bb σ Q := r_iconst (by decide +kernel)
theorem k27_10 : qx sc D 27 10 ls (vi b' :: vi a' :: st) u bb σ Q ↔ (a' = b' → qx sc D 27 13 ls st u bb σ Q) ∧ (¬ (a' = b') → qx sc D 27 17 ls st u bb σ Q) := r_ic_ne (off := 7) (t := 17) (by decide +kernel)
theorem k27_13 : qx sc D 27 13 ls st u bb σ Q ↔ qx sc D 27 14 ls (vi 1 :: st) u bb σ Q := r_iconst (by decide +kernel)
theorem k27_14 : qx sc D 27 14 ls st u bb σ Q ↔ qx sc D 27 18 ls st u bb σ Q := r_goto (off := 4) (by decide +kernel)
theorem k27_17 : qx sc D 27 17 ls st u bb σ Q ↔ qx sc D 27 18 ls (vi 0 :: st) u bb σ Q := r_iconst (by decide +kernel)
theorem k27_18 : qx sc D 27 18 [l0, l1, l2, l3, l4, l5, l6, l7, l8, l9, l10] (vi x :: st) u bb σ Q ↔ qx sc D 27 20 [l0, l1, l2, l3, vi x, l5, l6, l7, l8, l9, l10] st u bb σ Q := r_istore (k := 4) (by decide +kernel) (Nat.le_of_ble_eq_true rfl)
theorem k27_20 : qx sc D 27 20 [vr a, l1, l2, l3, l4, l5, l6, l7, l8, l9, l10] st u bb σ Q ↔ qx sc D 27 21 [vr a, l1, l2, l3, l4, l5, l6, l7, l8, l9, l10] (vr a :: st) u bb σ Q := r_aload_n (k := 0) (by decide +kernel) rfl
theorem k27_21 : qx sc D 27 21 ls (vr 39 :: st) u bb σ Q ↔ 0 ≤ σ 39 5 ∧ qx sc D 27 24 ls (vr (σ 39 5).toNat :: st) u bb σ Q := r_getM (idx := 31) (c := 7) (k := 5) (by decide +kernel)
theorem k27_24 (hc : q_C c) : qx sc D 27 24 ls (vr c :: st) u bb σ Q ↔ qx sc D 27 27 ls (vr (c + 16) :: st) u bb σ Q := r_getRc (idx := 160) (k := 18) (by decide +kernel) hc
theorem k27_27 (hc : q_C c) : qx sc D 27 27 ls (vr (c + 16) :: st) u bb σ Q ↔ qx sc D 27 30 ls (vr (c + 17) :: st) u bb σ Q := r_getRt (idx := 188) (k := 0) (j := 1) (by decide +kernel) hc
theorem k27_30 : qx sc D 27 30 [l0, vi x, l2, l3, l4, l5, l6, l7, l8, l9, l10] st u bb σ Q ↔ qx sc D 27 31 [l0, vi x, l2, l3, l4, l5, l6, l7, l8, l9, l10] (vi x :: st) u bb σ Q := r_iload_n (k := 1) (by decide +kernel) rfl
theorem k27_31 : qx sc D 27 31 ls (vi i :: vr a :: st) u bb σ Q ↔ (q_ty a = 0 ∧ 0 ≤ i ∧ i < q_ln a) ∧ qx sc D 27 32 ls (vi (σ a i) :: st) u bb σ Q := r_iald (by decide +kernel)
theorem k27_32 : qx sc D 27 32 [l0, l1, l2, l3, l4, l5, l6, l7, l8, l9, l10] (vi x :: st) u bb σ Q ↔ qx sc D 27 34 [l0, l1, l2, l3, l4, vi x, l6, l7, l8, l9, l10] st u bb σ Q := r_istore (k := 5) (by decide +kernel) (Nat.le_of_ble_eq_true rfl)
theorem k27_34 : qx sc D 27 34 [l0, l1, l2, vi x, l4, l5, l6, l7, l8, l9, l10] st u bb σ Q ↔ qx sc D 27 35 [l0, l1, l2, vi x, l4, l5, l6, l7, l8, l9, l10] (vi x :: st) u bb σ Q := r_iload_n (k := 3) (by decide +kernel) rfl
theorem k27_35 : qx sc D 27 35 ls (vi x :: st) u bb σ Q ↔ (x = 0 → qx sc D 27 38 ls st u bb σ Q) ∧ (¬ (x = 0) → qx sc D 27 42 ls st u bb σ Q) := r_if_ne (off := 7) (t := 42) (by decide +kernel)
theorem k27_38 : qx sc D 27 38 ls st u bb σ Q ↔ qx sc D 27 39 ls (vi 1 :: st) u bb σ Q := r_iconst (by decide +kernel)
theorem k27_39 : qx sc D 27 39 ls st u bb σ Q ↔ qx sc D 27 43 ls st u bb σ Q := r_goto (off := 4) (by decide +kernel)
theorem k27_42 : qx sc D 27 42 ls st u bb σ Q ↔ qx sc D 27 43 ls (vi 0 :: st) u bb σ Q := r_iconst (by decide +kernel)
theorem k27_43 : qx sc D 27 43 [l0, l1, l2, l3, l4, l5, l6, l7, l8, l9, l10] (vi x :: st) u bb σ Q ↔ qx sc D 27 45 [l0, l1, l2, l3, l4, l5, vi x, l7, l8, l9, l10] st u bb σ Q := r_istore (k := 6) (by decide +kernel) (Nat.le_of_ble_eq_true rfl)
theorem k27_45 : qx sc D 27 45 [vr a, l1, l2, l3, l4, l5, l6, l7, l8, l9, l10] st u bb σ Q ↔ qx sc D 27 46 [vr a, l1, l2, l3, l4, l5, l6, l7, l8, l9, l10] (vr a :: st) u bb σ Q := r_aload_n (k := 0) (by decide +kernel) rfl
theorem k27_46 : qx sc D 27 46 ls (vr 39 :: st) u bb σ Q ↔ 0 ≤ σ 39 5 ∧ qx sc D 27 49 ls (vr (σ 39 5).toNat :: st) u bb σ Q := r_getM (idx := 31) (c := 7) (k := 5) (by decide +kernel)
theorem k27_49 (hc : q_C c) : qx sc D 27 49 ls (vr c :: st) u bb σ Q ↔ qx sc D 27 52 ls (vr (c + 16) :: st) u bb σ Q := r_getRc (idx := 160) (k := 18) (by decide +kernel) hc
theorem k27_52 (hc : q_C c) : qx sc D 27 52 ls (vr (c + 16) :: st) u bb σ Q ↔ qx sc D 27 55 ls (vr (c + 18) :: st) u bb σ Q := r_getRt (idx := 164) (k := 1) (j := 2) (by decide +kernel) hc
theorem k27_55 : qx sc D 27 55 [l0, l1, l2, l3, l4, l5, vi x, l7, l8, l9, l10] st u bb σ Q ↔ qx sc D 27 57 [l0, l1, l2, l3, l4, l5, vi x, l7, l8, l9, l10] (vi x :: st) u bb σ Q := r_iload (k := 6) (by decide +kernel) rfl
theorem k27_57 : qx sc D 27 57 ls (vi i :: vr a :: st) u bb σ Q ↔ (q_ty a = 4 ∧ 0 ≤ i ∧ i < q_ln a) ∧ qx sc D 27 58 ls (vr (a + 1 + i.toNat) :: st) u bb σ Q := r_aald (by decide +kernel)
theorem k27_58 : qx sc D 27 58 [l0, vi x, l2, l3, l4, l5, l6, l7, l8, l9, l10] st u bb σ Q ↔ qx sc D 27 59 [l0, vi x, l2, l3, l4, l5, l6, l7, l8, l9, l10] (vi x :: st) u bb σ Q := r_iload_n (k := 1) (by decide +kernel) rfl
theorem k27_59 : qx sc D 27 59 ls (vi i :: vr a :: st) u bb σ Q ↔ (q_ty a = 0 ∧ 0 ≤ i ∧ i < q_ln a) ∧ qx sc D 27 60 ls (vi (σ a i) :: st) u bb σ Q := r_iald (by decide +kernel)
theorem k27_60 : qx sc D 27 60 [l0, l1, l2, l3, l4, l5, l6, l7, l8, l9, l10] (vi x :: st) u bb σ Q ↔ qx sc D 27 62 [l0, l1, l2, l3, l4, l5, l6, vi x, l8, l9, l10] st u bb σ Q := r_istore (k := 7) (by decide +kernel) (Nat.le_of_ble_eq_true rfl)
theorem k27_62 : qx sc D 27 62 [l0, l1, l2, l3, l4, l5, l6, vi x, l8, l9, l10] st u bb σ Q ↔ qx sc D 27 64 [l0, l1, l2, l3, l4, l5, l6, vi x, l8, l9, l10] (vi x :: st) u bb σ Q := r_iload (k := 7) (by decide +kernel) rfl
theorem k27_64 : qx sc D 27 64 ls st u bb σ Q ↔ qx sc D 27 65 ls (vi 3 :: st) u bb σ Q := r_iconst (by decide +kernel)
theorem k27_65 : qx sc D 27 65 ls (vi b' :: vi a' :: st) u bb σ Q ↔ (a' = b' → qx sc D 27 68 ls st u bb σ Q) ∧ (¬ (a' = b') → qx sc D 27 83 ls st u bb σ Q) := r_ic_ne (off := 18) (t := 83) (by decide +kernel)
theorem k27_68 : qx sc D 27 68 [vr a, l1, l2, l3, l4, l5, l6, l7, l8, l9, l10] st u bb σ Q ↔ qx sc D 27 69 [vr a, l1, l2, l3, l4, l5, l6, l7, l8, l9, l10] (vr a :: st) u bb σ Q := r_aload_n (k := 0) (by decide +kernel) rfl
theorem k27_69 : qx sc D 27 69 ls (vr 39 :: st) u bb σ Q ↔ qx sc D 27 72 ls (vr 27 :: st) u bb σ Q := r_getR (idx := 27) (c := 7) (k := 1) (by decide +kernel)
theorem k27_72 : qx sc D 27 72 ls (vr 27 :: st) u bb σ Q ↔ qx sc D 27 75 ls (vr 36 :: st) u bb σ Q := r_getR (idx := 169) (c := 6) (k := 8) (by decide +kernel)
theorem k27_75 : qx sc D 27 75 [l0, l1, l2, l3, l4, l5, vi x, l7, l8, l9, l10] st u bb σ Q ↔ qx sc D 27 77 [l0, l1, l2, l3, l4, l5, vi x, l7, l8, l9, l10] (vi x :: st) u bb σ Q := r_iload (k := 6) (by decide +kernel) rfl
theorem k27_77 : qx sc D 27 77 ls (vi i :: vr a :: st) u bb σ Q ↔ (q_ty a = 4 ∧ 0 ≤ i ∧ i < q_ln a) ∧ qx sc D 27 78 ls (vr (a + 1 + i.toNat) :: st) u bb σ Q := r_aald (by decide +kernel)
theorem k27_78 : qx sc D 27 78 [l0, vi x, l2, l3, l4, l5, l6, l7, l8, l9, l10] st u bb σ Q ↔ qx sc D 27 79 [l0, vi x, l2, l3, l4, l5, l6, l7, l8, l9, l10] (vi x :: st) u bb σ Q := r_iload_n (k := 1) (by decide +kernel) rfl
theorem k27_79 : qx sc D 27 79 ls (vi i :: vr a :: st) u bb σ Q ↔ (q_ty a = 0 ∧ 0 ≤ i ∧ i < q_ln a) ∧ qx sc D 27 80 ls (vi (σ a i) :: st) u bb σ Q := r_iald (by decide +kernel)
theorem k27_80 : qx sc D 27 80 ls st u bb σ Q ↔ qx sc D 27 98 ls st u bb σ Q := r_goto (off := 18) (by decide +kernel)
theorem k27_83 : qx sc D 27 83 [vr a, l1, l2, l3, l4, l5, l6, l7, l8, l9, l10] st u bb σ Q ↔ qx sc D 27 84 [vr a, l1, l2, l3, l4, l5, l6, l7, l8, l9, l10] (vr a :: st) u bb σ Q := r_aload_n (k := 0) (by decide +kernel) rfl
theorem k27_84 : qx sc D 27 84 ls (vr 39 :: st) u bb σ Q ↔ 0 ≤ σ 39 5 ∧ qx sc D 27 87 ls (vr (σ 39 5).toNat :: st) u bb σ Q := r_getM (idx := 31) (c := 7) (k := 5) (by decide +kernel)
theorem k27_87 (hc : q_C c) : qx sc D 27 87 ls (vr c :: st) u bb σ Q ↔ qx sc D 27 90 ls (vr (c + 16) :: st) u bb σ Q := r_getRc (idx := 160) (k := 18) (by decide +kernel) hc
theorem k27_90 (hc : q_C c) : qx sc D 27 90 ls (vr (c + 16) :: st) u bb σ Q ↔ qx sc D 27 93 ls (vr (c + 21) :: st) u bb σ Q := r_getRt (idx := 172) (k := 2) (j := 5) (by decide +kernel) hc
theorem k27_93 : qx sc D 27 93 [l0, l1, l2, l3, l4, l5, vi x, l7, l8, l9, l10] st u bb σ Q ↔ qx sc D 27 95 [l0, l1, l2, l3, l4, l5, vi x, l7, l8, l9, l10] (vi x :: st) u bb σ Q := r_iload (k := 6) (by decide +kernel) rfl
theorem k27_95 : qx sc D 27 95 ls (vi i :: vr a :: st) u bb σ Q ↔ (q_ty a = 4 ∧ 0 ≤ i ∧ i < q_ln a) ∧ qx sc D 27 96 ls (vr (a + 1 + i.toNat) :: st) u bb σ Q := r_aald (by decide +kernel)
theorem k27_96 : qx sc D 27 96 [l0, vi x, l2, l3, l4, l5, l6, l7, l8, l9, l10] st u bb σ Q ↔ qx sc D 27 97 [l0, vi x, l2, l3, l4, l5, l6, l7, l8, l9, l10] (vi x :: st) u bb σ Q := r_iload_n (k := 1) (by decide +kernel) rfl
theorem k27_97 : qx sc D 27 97 ls (vi i :: vr a :: st) u bb σ Q ↔ (q_ty a = 0 ∧ 0 ≤ i ∧ i < q_ln a) ∧ qx sc D 27 98 ls (vi (σ a i) :: st) u bb σ Q := r_iald (by decide +kernel)
theorem k27_98 : qx sc D 27 98 [l0, l1, l2, l3, l4, l5, l6, l7, l8, l9, l10] (vi x :: st) u bb σ Q ↔ qx sc D 27 100 [l0, l1, l2, l3, l4, l5, l6, l7, vi x, l9, l10] st u bb σ Q := r_istore (k := 8) (by decide +kernel) (Nat.le_of_ble_eq_true rfl)
theorem k27_100 : qx sc D 27 100 [l0, l1, l2, l3, l4, vi x, l6, l7, l8, l9, l10] st u bb σ Q ↔ qx sc D 27 102 [l0, l1, l2, l3, l4, vi x, l6, l7, l8, l9, l10] (vi x :: st) u bb σ Q := r_iload (k := 5) (by decide +kernel) rfl
theorem k27_102 : qx sc D 27 102 ls st u bb σ Q ↔ qx sc D 27 103 ls (vi 2 :: st) u bb σ Q := r_iconst (by decide +kernel)
theorem k27_103 : qx sc D 27 103 ls (vi b' :: vi a' :: st) u bb σ Q ↔ (a' = b' → qx sc D 27 106 ls st u bb σ Q) ∧ (¬ (a' = b') → qx sc D 27 124 ls st u bb σ Q) := r_ic_ne (off := 21) (t := 124) (by decide +kernel)
theorem k27_106 : qx sc D 27 106 [l0, l1, l2, l3, vi x, l5, l6, l7, l8, l9, l10] st u bb σ Q ↔ qx sc D 27 108 [l0, l1, l2, l3, vi x, l5, l6, l7, l8, l9, l10] (vi x :: st) u bb σ Q := r_iload (k := 4) (by decide +kernel) rfl
theorem k27_108 : qx sc D 27 108 ls (vi x :: st) u bb σ Q ↔ (x = 0 → qx sc D 27 123 ls st u bb σ Q) ∧ (¬ (x = 0) → qx sc D 27 111 ls st u bb σ Q) := r_if_eq (off := 15) (t := 123) (by decide +kernel)
theorem k27_111 : qx sc D 27 111 [vr a, l1, l2, l3, l4, l5, l6, l7, l8, l9, l10] st u bb σ Q ↔ qx sc D 27 112 [vr a, l1, l2, l3, l4, l5, l6, l7, l8, l9, l10] (vr a :: st) u bb σ Q := r_aload_n (k := 0) (by decide +kernel) rfl
theorem k27_112 : qx sc D 27 112 ls (vr 39 :: st) u bb σ Q ↔ qx sc D 27 115 ls (vr 9 :: st) u bb σ Q := r_getR (idx := 23) (c := 7) (k := 0) (by decide +kernel)
theorem k27_115 : qx sc D 27 115 [l0, l1, vi x, l3, l4, l5, l6, l7, l8, l9, l10] st u bb σ Q ↔ qx sc D 27 116 [l0, l1, vi x, l3, l4, l5, l6, l7, l8, l9, l10] (vi x :: st) u bb σ Q := r_iload_n (k := 2) (by decide +kernel) rfl
theorem k27_116 : qx sc D 27 116 [l0, l1, l2, l3, l4, l5, l6, vi x, l8, l9, l10] st u bb σ Q ↔ qx sc D 27 118 [l0, l1, l2, l3, l4, l5, l6, vi x, l8, l9, l10] (vi x :: st) u bb σ Q := r_iload (k := 7) (by decide +kernel) rfl
theorem k27_118 : qx sc D 27 118 [l0, l1, l2, l3, l4, l5, l6, l7, vi x, l9, l10] st u bb σ Q ↔ qx sc D 27 120 [l0, l1, l2, l3, l4, l5, l6, l7, vi x, l9, l10] (vi x :: st) u bb σ Q := r_iload (k := 8) (by decide +kernel) rfl
theorem k27_120 : qx sc (D + 1) 27 120 ls [vi x2, vi x1, vi x0, vr 9] (0, 0) bb σ Q ↔ qx sc D 91 0 [vr 9, vi x0, vi x1, vi x2] [] (0, 0) bb σ (q_kn sc (D + 1) 27 123 ls [] (0, 0) Q) := r_callv (idx := 45) (n := 3) (m := 4) (by decide +kernel) rfl (Nat.le_of_ble_eq_true rfl) ⟨Nat.le_of_ble_eq_true rfl, Nat.le_of_ble_eq_true rfl, rfl⟩ rfl
theorem k27_123 : qx sc D 27 123 ls [] (0, 0) bb σ Q ↔ Q (.inl none) bb σ := r_retV (by decide +kernel)
theorem k27_124 : qx sc D 27 124 [l0, l1, l2, l3, vi x, l5, l6, l7, l8, l9, l10] st u bb σ Q ↔ qx sc D 27 126 [l0, l1, l2, l3, vi x, l5, l6, l7, l8, l9, l10] (vi x :: st) u bb σ Q := r_iload (k := 4) (by decide +kernel) rfl
theorem k27_126 : qx sc D 27 126 ls (vi x :: st) u bb σ Q ↔ (x = 0 → qx sc D 27 133 ls st u bb σ Q) ∧ (¬ (x = 0) → qx sc D 27 129 ls st u bb σ Q) := r_if_eq (off := 7) (t := 133) (by decide +kernel)
theorem k27_129 : qx sc D 27 129 ls st u bb σ Q ↔ qx sc D 27 130 ls (vi 0 :: st) u bb σ Q := r_iconst (by decide +kernel)
theorem k27_130 : qx sc D 27 130 ls st u bb σ Q ↔ qx sc D 27 134 ls st u bb σ Q := r_goto (off := 4) (by decide +kernel)
theorem k27_133 : qx sc D 27 133 ls st u bb σ Q ↔ qx sc D 27 134 ls (vi 1 :: st) u bb σ Q := r_iconst (by decide +kernel)
theorem k27_134 : qx sc D 27 134 [l0, l1, l2, l3, l4, l5, l6, l7, l8, l9, l10] (vi x :: st) u bb σ Q ↔ qx sc D 27 136 [l0, l1, l2, l3, l4, l5, l6, l7, l8, vi x, l10] st u bb σ Q := r_istore (k := 9) (by decide +kernel) (Nat.le_of_ble_eq_true rfl)
theorem k27_136 : qx sc D 27 136 [l0, l1, l2, l3, l4, vi x, l6, l7, l8, l9, l10] st u bb σ Q ↔ qx sc D 27 138 [l0, l1, l2, l3, l4, vi x, l6, l7, l8, l9, l10] (vi x :: st) u bb σ Q := r_iload (k := 5) (by decide +kernel) rfl
theorem k27_138 : qx sc D 27 138 ls (vi x :: st) u bb σ Q ↔ (x = 0 → qx sc D 27 141 ls st u bb σ Q) ∧ (¬ (x = 0) → qx sc D 27 145 ls st u bb σ Q) := r_if_ne (off := 7) (t := 145) (by decide +kernel)
theorem k27_141 : qx sc D 27 141 ls st u bb σ Q ↔ qx sc D 27 142 ls (vi 1 :: st) u bb σ Q := r_iconst (by decide +kernel)
theorem k27_142 : qx sc D 27 142 ls st u bb σ Q ↔ qx sc D 27 146 ls st u bb σ Q := r_goto (off := 4) (by decide +kernel)
theorem k27_145 : qx sc D 27 145 ls st u bb σ Q ↔ qx sc D 27 146 ls (vi 0 :: st) u bb σ Q := r_iconst (by decide +kernel)
theorem k27_146 : qx sc D 27 146 [l0, l1, l2, l3, vi x, l5, l6, l7, l8, l9, l10] st u bb σ Q ↔ qx sc D 27 148 [l0, l1, l2, l3, vi x, l5, l6, l7, l8, l9, l10] (vi x :: st) u bb σ Q := r_iload (k := 4) (by decide +kernel) rfl
theorem k27_148 : qx sc D 27 148 ls (vi b' :: vi a' :: st) u bb σ Q ↔ (a' = b' → qx sc D 27 151 ls st u bb σ Q) ∧ (¬ (a' = b') → qx sc D 27 155 ls st u bb σ Q) := r_ic_ne (off := 7) (t := 155) (by decide +kernel)
theorem k27_151 : qx sc D 27 151 ls st u bb σ Q ↔ qx sc D 27 152 ls (vi 1 :: st) u bb σ Q := r_iconst (by decide +kernel)
theorem k27_152 : qx sc D 27 152 ls st u bb σ Q ↔ qx sc D 27 156 ls st u bb σ Q := r_goto (off := 4) (by decide +kernel)
theorem k27_155 : qx sc D 27 155 ls st u bb σ Q ↔ qx sc D 27 156 ls (vi 0 :: st) u bb σ Q := r_iconst (by decide +kernel)
theorem k27_156 : qx sc D 27 156 [l0, l1, l2, l3, l4, l5, l6, l7, l8, l9, l10] (vi x :: st) u bb σ Q ↔ qx sc D 27 158 [l0, l1, l2, l3, l4, l5, l6, l7, l8, l9, vi x] st u bb σ Q := r_istore (k := 10) (by decide +kernel) (Nat.le_of_ble_eq_true rfl)
theorem k27_158 : qx sc D 27 158 [vr a, l1, l2, l3, l4, l5, l6, l7, l8, l9, l10] st u bb σ Q ↔ qx sc D 27 159 [vr a, l1, l2, l3, l4, l5, l6, l7, l8, l9, l10] (vr a :: st) u bb σ Q := r_aload_n (k := 0) (by decide +kernel) rfl
theorem k27_159 : qx sc D 27 159 ls (vr 39 :: st) u bb σ Q ↔ qx sc D 27 162 ls (vr 9 :: st) u bb σ Q := r_getR (idx := 23) (c := 7) (k := 0) (by decide +kernel)
theorem k27_162 : qx sc D 27 162 [l0, l1, l2, vi x, l4, l5, l6, l7, l8, l9, l10] st u bb σ Q ↔ qx sc D 27 163 [l0, l1, l2, vi x, l4, l5, l6, l7, l8, l9, l10] (vi x :: st) u bb σ Q := r_iload_n (k := 3) (by decide +kernel) rfl
theorem k27_163 : qx sc D 27 163 [l0, l1, l2, l3, l4, l5, l6, l7, l8, vi x, l10] st u bb σ Q ↔ qx sc D 27 165 [l0, l1, l2, l3, l4, l5, l6, l7, l8, vi x, l10] (vi x :: st) u bb σ Q := r_iload (k := 9) (by decide +kernel) rfl
theorem k27_165 : qx sc D 27 165 ls (vi b' :: vi a' :: st) u bb σ Q ↔ (a' = b' → qx sc D 27 168 ls st u bb σ Q) ∧ (¬ (a' = b') → qx sc D 27 172 ls st u bb σ Q) := r_ic_ne (off := 7) (t := 172) (by decide +kernel)
theorem k27_168 : qx sc D 27 168 ls st u bb σ Q ↔ qx sc D 27 169 ls (vi 0 :: st) u bb σ Q := r_iconst (by decide +kernel)
theorem k27_169 : qx sc D 27 169 ls st u bb σ Q ↔ qx sc D 27 173 ls st u bb σ Q := r_goto (off := 4) (by decide +kernel)
theorem k27_172 : qx sc D 27 172 ls st u bb σ Q ↔ qx sc D 27 173 ls (vi 1 :: st) u bb σ Q := r_iconst (by decide +kernel)
theorem k27_173 : qx sc D 27 173 [l0, l1, vi x, l3, l4, l5, l6, l7, l8, l9, l10] st u bb σ Q ↔ qx sc D 27 174 [l0, l1, vi x, l3, l4, l5, l6, l7, l8, l9, l10] (vi x :: st) u bb σ Q := r_iload_n (k := 2) (by decide +kernel) rfl
theorem k27_174 : qx sc D 27 174 [l0, l1, l2, l3, l4, l5, l6, vi x, l8, l9, l10] st u bb σ Q ↔ qx sc D 27 176 [l0, l1, l2, l3, l4, l5, l6, vi x, l8, l9, l10] (vi x :: st) u bb σ Q := r_iload (k := 7) (by decide +kernel) rfl
theorem k27_176 : qx sc D 27 176 [l0, l1, l2, l3, l4, l5, l6, l7, vi x, l9, l10] st u bb σ Q ↔ qx sc D 27 178 [l0, l1, l2, l3, l4, l5, l6, l7, vi x, l9, l10] (vi x :: st) u bb σ Q := r_iload (k := 8) (by decide +kernel) rfl
theorem k27_178 : qx sc D 27 178 [l0, l1, l2, l3, l4, l5, l6, l7, l8, l9, vi x] st u bb σ Q ↔ qx sc D 27 180 [l0, l1, l2, l3, l4, l5, l6, l7, l8, l9, vi x] (vi x :: st) u bb σ Q := r_iload (k := 10) (by decide +kernel) rfl
theorem k27_180 : qx sc D 27 180 ls (vi x :: st) u bb σ Q ↔ (x = 0 → qx sc D 27 187 ls st u bb σ Q) ∧ (¬ (x = 0) → qx sc D 27 183 ls st u bb σ Q) := r_if_eq (off := 7) (t := 187) (by decide +kernel)
theorem k27_183 : qx sc D 27 183 ls st u bb σ Q ↔ qx sc D 27 184 ls (vi (-1) :: st) u bb σ Q := r_iconst (by decide +kernel)
theorem k27_184 : qx sc D 27 184 ls st u bb σ Q ↔ qx sc D 27 188 ls st u bb σ Q := r_goto (off := 4) (by decide +kernel)
theorem k27_187 : qx sc D 27 187 ls st u bb σ Q ↔ qx sc D 27 188 ls (vi 0 :: st) u bb σ Q := r_iconst (by decide +kernel)
theorem k27_188 : qx sc (D + 1) 27 188 ls [vi x4, vi x3, vi x2, vi x1, vi x0, vr 9] (0, 0) bb σ Q ↔ qx sc D 92 0 [vr 9, vi x0, vi x1, vi x2, vi x3, vi x4] [] (0, 0) bb σ (q_kn sc (D + 1) 27 191 ls [] (0, 0) Q) := r_callv (idx := 100) (n := 5) (m := 6) (by decide +kernel) rfl (Nat.le_of_ble_eq_true rfl) ⟨Nat.le_of_ble_eq_true rfl, Nat.le_of_ble_eq_true rfl, rfl⟩ rfl
theorem k27_191 : qx sc D 27 191 ls [] (0, 0) bb σ Q ↔ Q (.inl none) bb σ := r_retV (by decide +kernel)
-- 28: RowProver$Numbering.walk(III)V
theorem k28_0 : qx sc D 28 0 [l0, l1, l2, vi x, l4] st u bb σ Q ↔ qx sc D 28 1 [l0, l1, l2, vi x, l4] (vi x :: st) u bb σ Q := r_iload_n (k := 3) (by decide +kernel) rfl
theorem k28_1 : qx sc D 28 1 ls st u bb σ Q ↔ qx sc D 28 2 ls (vi 5 :: st) u bb σ Q := r_iconst (by decide +kernel)
theorem k28_2 : qx sc D 28 2 ls (vi b' :: vi a' :: st) u bb σ Q ↔ (b' < a' → qx sc D 28 5 ls st u bb σ Q) ∧ (¬ (b' < a') → qx sc D 28 6 ls st u bb σ Q) := r_ic_le (off := 4) (t := 6) (by decide +kernel)
theorem k28_5 : qx sc D 28 5 ls [] (0, 0) bb σ Q ↔ Q (.inl none) bb σ := r_retV (by decide +kernel)
theorem k28_6 : qx sc D 28 6 [l0, vi x, l2, l3, l4] st u bb σ Q ↔ qx sc D 28 7 [l0, vi x, l2, l3, l4] (vi x :: st) u bb σ Q := r_iload_n (k := 1) (by decide +kernel) rfl
theorem k28_7 : qx sc D 28 7 [l0, l1, l2, l3, l4] (vi x :: st) u bb σ Q ↔ qx sc D 28 9 [l0, l1, l2, l3, vi x] st u bb σ Q := r_istore (k := 4) (by decide +kernel) (Nat.le_of_ble_eq_true rfl)
theorem k28_9 : qx sc D 28 9 [l0, l1, l2, l3, vi x] st u bb σ Q ↔ qx sc D 28 11 [l0, l1, l2, l3, vi x] (vi x :: st) u bb σ Q := r_iload (k := 4) (by decide +kernel) rfl
theorem k28_11 : qx sc D 28 11 [l0, l1, vi x, l3, l4] st u bb σ Q ↔ qx sc D 28 12 [l0, l1, vi x, l3, l4] (vi x :: st) u bb σ Q := r_iload_n (k := 2) (by decide +kernel) rfl
theorem k28_12 : qx sc D 28 12 ls (vi b' :: vi a' :: st) u bb σ Q ↔ (a' < b' → qx sc D 28 15 ls st u bb σ Q) ∧ (¬ (a' < b') → qx sc D 28 134 ls st u bb σ Q) := r_ic_ge (off := 122) (t := 134) (by decide +kernel)
theorem k28_15 : qx sc D 28 15 [vr a, l1, l2, l3, l4] st u bb σ Q ↔ qx sc D 28 16 [vr a, l1, l2, l3, l4] (vr a :: st) u bb σ Q := r_aload_n (k := 0) (by decide +kernel) rfl
theorem k28_16 : qx sc D 28 16 ls (vr 39 :: st) u bb σ Q ↔ 0 ≤ σ 39 5 ∧ qx sc D 28 19 ls (vr (σ 39 5).toNat :: st) u bb σ Q := r_getM (idx := 31) (c := 7) (k := 5) (by decide +kernel)
theorem k28_19 (hc : q_C c) : qx sc D 28 19 ls (vr c :: st) u bb σ Q ↔ qx sc D 28 22 ls (vr (c + 7) :: st) u bb σ Q := r_getRc (idx := 57) (k := 9) (by decide +kernel) hc
theorem k28_22 : qx sc D 28 22 [l0, l1, l2, l3, vi x] st u bb σ Q ↔ qx sc D 28 24 [l0, l1, l2, l3, vi x] (vi x :: st) u bb σ Q := r_iload (k := 4) (by decide +kernel) rfl
theorem k28_24 : qx sc D 28 24 ls (vi i :: vr a :: st) u bb σ Q ↔ (q_ty a = 0 ∧ 0 ≤ i ∧ i < q_ln a) ∧ qx sc D 28 25 ls (vi (σ a i) :: st) u bb σ Q := r_iald (by decide +kernel)
theorem k28_25 : qx sc D 28 25 ls st u bb σ Q ↔ qx sc D 28 26 ls (vi (-1) :: st) u bb σ Q := r_iconst (by decide +kernel)
theorem k28_26 : qx sc D 28 26 ls (vi b' :: vi a' :: st) u bb σ Q ↔ (a' = b' → qx sc D 28 45 ls st u bb σ Q) ∧ (¬ (a' = b') → qx sc D 28 29 ls st u bb σ Q) := r_ic_eq (off := 19) (t := 45) (by decide +kernel)
theorem k28_29 : qx sc D 28 29 [vr a, l1, l2, l3, l4] st u bb σ Q ↔ qx sc D 28 30 [vr a, l1, l2, l3, l4] (vr a :: st) u bb σ Q := r_aload_n (k := 0) (by decide +kernel) rfl
theorem k28_30 : qx sc D 28 30 [l0, l1, l2, l3, vi x] st u bb σ Q ↔ qx sc D 28 32 [l0, l1, l2, l3, vi x] (vi x :: st) u bb σ Q := r_iload (k := 4) (by decide +kernel) rfl
theorem k28_32 : qx sc D 28 32 [vr a, l1, l2, l3, l4] st u bb σ Q ↔ qx sc D 28 33 [vr a, l1, l2, l3, l4] (vr a :: st) u bb σ Q := r_aload_n (k := 0) (by decide +kernel) rfl
theorem k28_33 : qx sc D 28 33 ls (vr 39 :: st) u bb σ Q ↔ 0 ≤ σ 39 5 ∧ qx sc D 28 36 ls (vr (σ 39 5).toNat :: st) u bb σ Q := r_getM (idx := 31) (c := 7) (k := 5) (by decide +kernel)
theorem k28_36 (hc : q_C c) : qx sc D 28 36 ls (vr c :: st) u bb σ Q ↔ qx sc D 28 39 ls (vr (c + 7) :: st) u bb σ Q := r_getRc (idx := 57) (k := 9) (by decide +kernel) hc
theorem k28_39 : qx sc D 28 39 [l0, l1, l2, l3, vi x] st u bb σ Q ↔ qx sc D 28 41 [l0, l1, l2, l3, vi x] (vi x :: st) u bb σ Q := r_iload (k := 4) (by decide +kernel) rfl
theorem k28_41 : qx sc D 28 41 ls (vi i :: vr a :: st) u bb σ Q ↔ (q_ty a = 0 ∧ 0 ≤ i ∧ i < q_ln a) ∧ qx sc D 28 42 ls (vi (σ a i) :: st) u bb σ Q := r_iald (by decide +kernel)
theorem k28_42 : qx sc (D + 1) 28 42 ls [vi x1, vi x0, vr 39] (0, 0) bb σ Q ↔ qx sc D 24 0 [vr 39, vi x0, vi x1, vn, vn] [] (0, 0) bb σ (q_kn sc (D + 1) 28 45 ls [] (0, 0) Q) := r_callv (idx := 60) (n := 2) (m := 5) (by decide +kernel) rfl (Nat.le_of_ble_eq_true rfl) ⟨Nat.le_of_ble_eq_true rfl, Nat.le_of_ble_eq_true rfl, rfl⟩ rfl
theorem k28_45 : qx sc D 28 45 [vr a, l1, l2, l3, l4] st u bb σ Q ↔ qx sc D 28 46 [vr a, l1, l2, l3, l4] (vr a :: st) u bb σ Q := r_aload_n (k := 0) (by decide +kernel) rfl
theorem k28_46 : qx sc D 28 46 ls (vr 39 :: st) u bb σ Q ↔ 0 ≤ σ 39 5 ∧ qx sc D 28 49 ls (vr (σ 39 5).toNat :: st) u bb σ Q := r_getM (idx := 31) (c := 7) (k := 5) (by decide +kernel)
theorem k28_49 (hc : q_C c) : qx sc D 28 49 ls (vr c :: st) u bb σ Q ↔ qx sc D 28 52 ls (vr (c + 2) :: st) u bb σ Q := r_getRc (idx := 64) (k := 4) (by decide +kernel) hc
theorem k28_52 : qx sc D 28 52 [l0, l1, l2, l3, vi x] st u bb σ Q ↔ qx sc D 28 54 [l0, l1, l2, l3, vi x] (vi x :: st) u bb σ Q := r_iload (k := 4) (by decide +kernel) rfl
theorem k28_54 : qx sc D 28 54 ls (vi i :: vr a :: st) u bb σ Q ↔ (q_ty a = 0 ∧ 0 ≤ i ∧ i < q_ln a) ∧ qx sc D 28 55 ls (vi (σ a i) :: st) u bb σ Q := r_iald (by decide +kernel)
theorem k28_55 : qx sc D 28 55 ls (vi x :: st) u bb σ Q ↔ (x = 0 → qx sc D 28 58 ls st u bb σ Q) ∧ (¬ (x = 0) → qx sc D 28 67 ls st u bb σ Q) := r_if_ne (off := 12) (t := 67) (by decide +kernel)
theorem k28_58 : qx sc D 28 58 [vr a, l1, l2, l3, l4] st u bb σ Q ↔ qx sc D 28 59 [vr a, l1, l2, l3, l4] (vr a :: st) u bb σ Q := r_aload_n (k := 0) (by decide +kernel) rfl
theorem k28_59 : qx sc D 28 59 [l0, l1, l2, l3, vi x] st u bb σ Q ↔ qx sc D 28 61 [l0, l1, l2, l3, vi x] (vi x :: st) u bb σ Q := r_iload (k := 4) (by decide +kernel) rfl
theorem k28_61 : qx sc (D + 1) 28 61 ls [vi x0, vr 39] (0, 0) bb σ Q ↔ qx sc D 26 0 [vr 39, vi x0, vn, vn] [] (0, 0) bb σ (q_kn sc (D + 1) 28 64 ls [] (0, 0) Q) := r_callv (idx := 67) (n := 1) (m := 4) (by decide +kernel) rfl (Nat.le_of_ble_eq_true rfl) ⟨Nat.le_of_ble_eq_true rfl, Nat.le_of_ble_eq_true rfl, rfl⟩ rfl
theorem k28_64 : qx sc D 28 64 ls st u bb σ Q ↔ qx sc D 28 112 ls st u bb σ Q := r_goto (off := 48) (by decide +kernel)
theorem k28_67 : qx sc D 28 67 [vr a, l1, l2, l3, l4] st u bb σ Q ↔ qx sc D 28 68 [vr a, l1, l2, l3, l4] (vr a :: st) u bb σ Q := r_aload_n (k := 0) (by decide +kernel) rfl
theorem k28_68 : qx sc D 28 68 ls (vr 39 :: st) u bb σ Q ↔ 0 ≤ σ 39 5 ∧ qx sc D 28 71 ls (vr (σ 39 5).toNat :: st) u bb σ Q := r_getM (idx := 31) (c := 7) (k := 5) (by decide +kernel)
theorem k28_71 (hc : q_C c) : qx sc D 28 71 ls (vr c :: st) u bb σ Q ↔ qx sc D 28 74 ls (vr (c + 2) :: st) u bb σ Q := r_getRc (idx := 64) (k := 4) (by decide +kernel) hc
theorem k28_74 : qx sc D 28 74 [l0, l1, l2, l3, vi x] st u bb σ Q ↔ qx sc D 28 76 [l0, l1, l2, l3, vi x] (vi x :: st) u bb σ Q := r_iload (k := 4) (by decide +kernel) rfl
theorem k28_76 : qx sc D 28 76 ls (vi i :: vr a :: st) u bb σ Q ↔ (q_ty a = 0 ∧ 0 ≤ i ∧ i < q_ln a) ∧ qx sc D 28 77 ls (vi (σ a i) :: st) u bb σ Q := r_iald (by decide +kernel)
theorem k28_77 : qx sc D 28 77 ls st u bb σ Q ↔ qx sc D 28 78 ls (vi 3 :: st) u bb σ Q := r_iconst (by decide +kernel)
theorem k28_78 : qx sc D 28 78 ls (vi b' :: vi a' :: st) u bb σ Q ↔ (a' = b' → qx sc D 28 81 ls st u bb σ Q) ∧ (¬ (a' = b') → qx sc D 28 91 ls st u bb σ Q) := r_ic_ne (off := 13) (t := 91) (by decide +kernel)
theorem k28_81 : qx sc D 28 81 [vr a, l1, l2, l3, l4] st u bb σ Q ↔ qx sc D 28 82 [vr a, l1, l2, l3, l4] (vr a :: st) u bb σ Q := r_aload_n (k := 0) (by decide +kernel) rfl
theorem k28_82 : qx sc D 28 82 [l0, l1, l2, l3, vi x] st u bb σ Q ↔ qx sc D 28 84 [l0, l1, l2, l3, vi x] (vi x :: st) u bb σ Q := r_iload (k := 4) (by decide +kernel) rfl
theorem k28_84 : qx sc D 28 84 [l0, l1, l2, vi x, l4] st u bb σ Q ↔ qx sc D 28 85 [l0, l1, l2, vi x, l4] (vi x :: st) u bb σ Q := r_iload_n (k := 3) (by decide +kernel) rfl
theorem k28_85 : qx sc (D + 1) 28 85 ls [vi x1, vi x0, vr 39] (0, 0) bb σ Q ↔ qx sc D 29 0 [vr 39, vi x0, vi x1, vn, vn, vn] [] (0, 0) bb σ (q_kn sc (D + 1) 28 88 ls [] (0, 0) Q) := r_callv (idx := 71) (n := 2) (m := 6) (by decide +kernel) rfl (Nat.le_of_ble_eq_true rfl) ⟨Nat.le_of_ble_eq_true rfl, Nat.le_of_ble_eq_true rfl, rfl⟩ rfl
theorem k28_88 : qx sc D 28 88 ls st u bb σ Q ↔ qx sc D 28 112 ls st u bb σ Q := r_goto (off := 24) (by decide +kernel)
theorem k28_91 : qx sc D 28 91 [vr a, l1, l2, l3, l4] st u bb σ Q ↔ qx sc D 28 92 [vr a, l1, l2, l3, l4] (vr a :: st) u bb σ Q := r_aload_n (k := 0) (by decide +kernel) rfl
theorem k28_92 : qx sc D 28 92 ls (vr 39 :: st) u bb σ Q ↔ 0 ≤ σ 39 5 ∧ qx sc D 28 95 ls (vr (σ 39 5).toNat :: st) u bb σ Q := r_getM (idx := 31) (c := 7) (k := 5) (by decide +kernel)
theorem k28_95 (hc : q_C c) : qx sc D 28 95 ls (vr c :: st) u bb σ Q ↔ qx sc D 28 98 ls (vr (c + 2) :: st) u bb σ Q := r_getRc (idx := 64) (k := 4) (by decide +kernel) hc
theorem k28_98 : qx sc D 28 98 [l0, l1, l2, l3, vi x] st u bb σ Q ↔ qx sc D 28 100 [l0, l1, l2, l3, vi x] (vi x :: st) u bb σ Q := r_iload (k := 4) (by decide +kernel) rfl
theorem k28_100 : qx sc D 28 100 ls (vi i :: vr a :: st) u bb σ Q ↔ (q_ty a = 0 ∧ 0 ≤ i ∧ i < q_ln a) ∧ qx sc D 28 101 ls (vi (σ a i) :: st) u bb σ Q := r_iald (by decide +kernel)
theorem k28_101 : qx sc D 28 101 ls st u bb σ Q ↔ qx sc D 28 102 ls (vi 4 :: st) u bb σ Q := r_iconst (by decide +kernel)
theorem k28_102 : qx sc D 28 102 ls (vi b' :: vi a' :: st) u bb σ Q ↔ (a' = b' → qx sc D 28 105 ls st u bb σ Q) ∧ (¬ (a' = b') → qx sc D 28 112 ls st u bb σ Q) := r_ic_ne (off := 10) (t := 112) (by decide +kernel)
theorem k28_105 : qx sc D 28 105 [vr a, l1, l2, l3, l4] st u bb σ Q ↔ qx sc D 28 106 [vr a, l1, l2, l3, l4] (vr a :: st) u bb σ Q := r_aload_n (k := 0) (by decide +kernel) rfl
theorem k28_106 : qx sc D 28 106 [l0, l1, l2, l3, vi x] st u bb σ Q ↔ qx sc D 28 108 [l0, l1, l2, l3, vi x] (vi x :: st) u bb σ Q := r_iload (k := 4) (by decide +kernel) rfl
theorem k28_108 : qx sc D 28 108 [l0, l1, l2, vi x, l4] st u bb σ Q ↔ qx sc D 28 109 [l0, l1, l2, vi x, l4] (vi x :: st) u bb σ Q := r_iload_n (k := 3) (by decide +kernel) rfl
theorem k28_109 : qx sc (D + 1) 28 109 ls [vi x1, vi x0, vr 39] (0, 0) bb σ Q ↔ qx sc D 30 0 [vr 39, vi x0, vi x1, vn, vn, vn, vn] [] (0, 0) bb σ (q_kn sc (D + 1) 28 112 ls [] (0, 0) Q) := r_callv (idx := 74) (n := 2) (m := 7) (by decide +kernel) rfl (Nat.le_of_ble_eq_true rfl) ⟨Nat.le_of_ble_eq_true rfl, Nat.le_of_ble_eq_true rfl, rfl⟩ rfl
theorem k28_112 : qx sc D 28 112 [l0, l1, l2, l3, vi x] st u bb σ Q ↔ qx sc D 28 114 [l0, l1, l2, l3, vi x] (vi x :: st) u bb σ Q := r_iload (k := 4) (by decide +kernel) rfl
theorem k28_114 : qx sc D 28 114 ls st u bb σ Q ↔ qx sc D 28 115 ls (vi 1 :: st) u bb σ Q := r_iconst (by decide +kernel)
theorem k28_115 : qx sc D 28 115 ls (vi b' :: vi a' :: st) u bb σ Q ↔ q_R (a' + b') ∧ qx sc D 28 116 ls (vi (a' + b') :: st) u bb σ Q := r_iadd (by decide +kernel)
theorem k28_116 : qx sc D 28 116 [vr a, l1, l2, l3, l4] st u bb σ Q ↔ qx sc D 28 117 [vr a, l1, l2, l3, l4] (vr a :: st) u bb σ Q := r_aload_n (k := 0) (by decide +kernel) rfl
theorem k28_117 : qx sc D 28 117 ls (vr 39 :: st) u bb σ Q ↔ 0 ≤ σ 39 5 ∧ qx sc D 28 120 ls (vr (σ 39 5).toNat :: st) u bb σ Q := r_getM (idx := 31) (c := 7) (k := 5) (by decide +kernel)
theorem k28_120 (hc : q_C c) : qx sc D 28 120 ls (vr c :: st) u bb σ Q ↔ qx sc D 28 123 ls (vr (c + 11) :: st) u bb σ Q := r_getRc (idx := 77) (k := 13) (by decide +kernel) hc
theorem k28_123 : qx sc D 28 123 [l0, l1, l2, l3, vi x] st u bb σ Q ↔ qx sc D 28 125 [l0, l1, l2, l3, vi x] (vi x :: st) u bb σ Q := r_iload (k := 4) (by decide +kernel) rfl
theorem k28_125 : qx sc D 28 125 ls (vi i :: vr a :: st) u bb σ Q ↔ (q_ty a = 0 ∧ 0 ≤ i ∧ i < q_ln a) ∧ qx sc D 28 126 ls (vi (σ a i) :: st) u bb σ Q := r_iald (by decide +kernel)
theorem k28_126 : qx sc D 28 126 ls [vi b', vi a'] (0, 0) bb σ Q ↔ qx sc D 28 129 ls [vi (max a' b')] (0, 0) bb σ Q := r_max (idx := 80) (y' := 0) (by decide +kernel) (Nat.le_of_ble_eq_true rfl)
theorem k28_129 : qx sc D 28 129 [l0, l1, l2, l3, l4] (vi x :: st) u bb σ Q ↔ qx sc D 28 131 [l0, l1, l2, l3, vi x] st u bb σ Q := r_istore (k := 4) (by decide +kernel) (Nat.le_of_ble_eq_true rfl)
theorem k28_131 : qx sc D 28 131 ls st u bb σ Q ↔ qx sc D 28 9 ls st u bb σ Q := r_goto (off := (-122)) (by decide +kernel)
theorem k28_134 : qx sc D 28 134 ls [] (0, 0) bb σ Q ↔ Q (.inl none) bb σ := r_retV (by decide +kernel)
-- 29: RowProver$Numbering.walkBranch(II)V
theorem k29_0 : qx sc D 29 0 [vr a, l1, l2, l3, l4, l5] st u bb σ Q ↔ qx sc D 29 1 [vr a, l1, l2, l3, l4, l5] (vr a :: st) u bb σ Q := r_aload_n (k := 0) (by decide +kernel) rfl
theorem k29_1 : qx sc D 29 1 ls (vr 39 :: st) u bb σ Q ↔ qx sc D 29 4 ls (vr 40 :: st) u bb σ Q := r_getR (idx := 9) (c := 7) (k := 2) (by decide +kernel)
theorem k29_4 : qx sc D 29 4 ls st u bb σ Q ↔ qx sc D 29 5 ls (vi 0 :: st) u bb σ Q := r_iconst (by decide +kernel)
theorem k29_5 : qx sc D 29 5 [vr a, l1, l2, l3, l4, l5] st u bb σ Q ↔ qx sc D 29 6 [vr a, l1, l2, l3, l4, l5] (vr a :: st) u bb σ Q := r_aload_n (k := 0) (by decide +kernel) rfl
theorem k29_6 : qx sc D 29 6 ls (vr 39 :: st) u bb σ Q ↔ qx sc D 29 9 ls (vr 41 :: st) u bb σ Q := r_getR (idx := 17) (c := 7) (k := 3) (by decide +kernel)
theorem k29_9 : qx sc D 29 9 [l0, l1, vi x, l3, l4, l5] st u bb σ Q ↔ qx sc D 29 10 [l0, l1, vi x, l3, l4, l5] (vi x :: st) u bb σ Q := r_iload_n (k := 2) (by decide +kernel) rfl
theorem k29_10 : qx sc D 29 10 ls (vi i :: vr a :: st) u bb σ Q ↔ (q_ty a = 4 ∧ 0 ≤ i ∧ i < q_ln a) ∧ qx sc D 29 11 ls (vr (a + 1 + i.toNat) :: st) u bb σ Q := r_aald (by decide +kernel)
theorem k29_11 : qx sc D 29 11 ls st u bb σ Q ↔ qx sc D 29 12 ls (vi 0 :: st) u bb σ Q := r_iconst (by decide +kernel)
theorem k29_12 : qx sc D 29 12 ls st u bb σ Q ↔ qx sc D 29 14 ls (vi 8 :: st) u bb σ Q := r_bipush (by decide +kernel)
theorem k29_14 : qx sc D 29 14 ls [vi x2, vi x1, vr b, vi x0, vr a] (0, 0) bb σ Q ↔ (q_ty a = 0 ∧ q_ty b = 0 ∧ 0 ≤ x0 ∧ 0 ≤ x1 ∧ 0 ≤ x2 ∧ x0 + x2 ≤ q_ln a ∧ x1 + x2 ≤ q_ln b) ∧ qx sc D 29 17 ls [] (0, 0) bb (q_upf σ b (q_cpy (σ a) (σ b) x0 x1 x2)) Q := r_copy (idx := 122) (y' := 0) (by decide +kernel) (Nat.le_of_ble_eq_true rfl)
theorem k29_17 : qx sc D 29 17 [vr a, l1, l2, l3, l4, l5] st u bb σ Q ↔ qx sc D 29 18 [vr a, l1, l2, l3, l4, l5] (vr a :: st) u bb σ Q := r_aload_n (k := 0) (by decide +kernel) rfl
theorem k29_18 : qx sc D 29 18 [l0, vi x, l2, l3, l4, l5] st u bb σ Q ↔ qx sc D 29 19 [l0, vi x, l2, l3, l4, l5] (vi x :: st) u bb σ Q := r_iload_n (k := 1) (by decide +kernel) rfl
theorem k29_19 : qx sc (D + 1) 29 19 ls [vi x0, vr 39] (0, 0) bb σ Q ↔ qx sc D 23 0 [vr 39, vi x0, vn, vn, vn] [] (0, 0) bb σ (q_kn sc (D + 1) 29 22 ls [] (0, 0) Q) := r_callv (idx := 128) (n := 1) (m := 5) (by decide +kernel) rfl (Nat.le_of_ble_eq_true rfl) ⟨Nat.le_of_ble_eq_true rfl, Nat.le_of_ble_eq_true rfl, rfl⟩ rfl
theorem k29_22 : qx sc D 29 22 [vr a, l1, l2, l3, l4, l5] st u bb σ Q ↔ qx sc D 29 23 [vr a, l1, l2, l3, l4, l5] (vr a :: st) u bb σ Q := r_aload_n (k := 0) (by decide +kernel) rfl
theorem k29_23 : qx sc D 29 23 ls (vr 39 :: st) u bb σ Q ↔ qx sc D 29 26 ls (vr 27 :: st) u bb σ Q := r_getR (idx := 27) (c := 7) (k := 1) (by decide +kernel)
theorem k29_26 : qx sc D 29 26 ls (vr 27 :: st) u bb σ Q ↔ qx sc D 29 29 ls (vr 33 :: st) u bb σ Q := r_getR (idx := 131) (c := 6) (k := 5) (by decide +kernel)
theorem k29_29 : qx sc D 29 29 [l0, vi x, l2, l3, l4, l5] st u bb σ Q ↔ qx sc D 29 30 [l0, vi x, l2, l3, l4, l5] (vi x :: st) u bb σ Q := r_iload_n (k := 1) (by decide +kernel) rfl
theorem k29_30 : qx sc D 29 30 [vr a, l1, l2, l3, l4, l5] st u bb σ Q ↔ qx sc D 29 31 [vr a, l1, l2, l3, l4, l5] (vr a :: st) u bb σ Q := r_aload_n (k := 0) (by decide +kernel) rfl
theorem k29_31 : qx sc D 29 31 [l0, vi x, l2, l3, l4, l5] st u bb σ Q ↔ qx sc D 29 32 [l0, vi x, l2, l3, l4, l5] (vi x :: st) u bb σ Q := r_iload_n (k := 1) (by decide +kernel) rfl
theorem k29_32 : qx sc D 29 32 ls st u bb σ Q ↔ qx sc D 29 33 ls (vi 3 :: st) u bb σ Q := r_iconst (by decide +kernel)
theorem k29_33 : qx sc (D + 1) 29 33 ls [vi x1, vi x0, vr 39, vi x20, vr a21] (0, 0) bb σ Q ↔ qx sc D 25 0 [vr 39, vi x0, vi x1, vn, vn, vn, vn] [] (0, 0) bb σ (q_kn sc (D + 1) 29 36 ls [vi x20, vr a21] (0, 0) Q) := r_callv (idx := 134) (n := 2) (m := 7) (by decide +kernel) rfl (Nat.le_of_ble_eq_true rfl) ⟨Nat.le_of_ble_eq_true rfl, Nat.le_of_ble_eq_true rfl, rfl⟩ rfl
theorem k29_36 : qx sc D 29 36 ls (vi x :: vi i :: vr a :: st) u bb σ Q ↔ (q_ty a = 0 ∧ 0 ≤ i ∧ i < q_ln a) ∧ qx sc D 29 37 ls st u bb (q_up σ a i x) Q := r_iast (by decide +kernel)
theorem k29_37 : qx sc D 29 37 [vr a, l1, l2, l3, l4, l5] st u bb σ Q ↔ qx sc D 29 38 [vr a, l1, l2, l3, l4, l5] (vr a :: st) u bb σ Q := r_aload_n (k := 0) (by decide +kernel) rfl
theorem k29_38 : qx sc D 29 38 [l0, vi x, l2, l3, l4, l5] st u bb σ Q ↔ qx sc D 29 39 [l0, vi x, l2, l3, l4, l5] (vi x :: st) u bb σ Q := r_iload_n (k := 1) (by decide +kernel) rfl
theorem k29_39 : qx sc D 29 39 ls st u bb σ Q ↔ qx sc D 29 40 ls (vi 1 :: st) u bb σ Q := r_iconst (by decide +kernel)
theorem k29_40 : qx sc D 29 40 ls (vi b' :: vi a' :: st) u bb σ Q ↔ q_R (a' + b') ∧ qx sc D 29 41 ls (vi (a' + b') :: st) u bb σ Q := r_iadd (by decide +kernel)
theorem k29_41 : qx sc D 29 41 [vr a, l1, l2, l3, l4, l5] st u bb σ Q ↔ qx sc D 29 42 [vr a, l1, l2, l3, l4, l5] (vr a :: st) u bb σ Q := r_aload_n (k := 0) (by decide +kernel) rfl
theorem k29_42 : qx sc D 29 42 ls (vr 39 :: st) u bb σ Q ↔ 0 ≤ σ 39 5 ∧ qx sc D 29 45 ls (vr (σ 39 5).toNat :: st) u bb σ Q := r_getM (idx := 31) (c := 7) (k := 5) (by decide +kernel)
theorem k29_45 (hc : q_C c) : qx sc D 29 45 ls (vr c :: st) u bb σ Q ↔ qx sc D 29 48 ls (vr (c + 10) :: st) u bb σ Q := r_getRc (idx := 137) (k := 12) (by decide +kernel) hc
theorem k29_48 : qx sc D 29 48 [l0, vi x, l2, l3, l4, l5] st u bb σ Q ↔ qx sc D 29 49 [l0, vi x, l2, l3, l4, l5] (vi x :: st) u bb σ Q := r_iload_n (k := 1) (by decide +kernel) rfl
theorem k29_49 : qx sc D 29 49 ls (vi i :: vr a :: st) u bb σ Q ↔ (q_ty a = 0 ∧ 0 ≤ i ∧ i < q_ln a) ∧ qx sc D 29 50 ls (vi (σ a i) :: st) u bb σ Q := r_iald (by decide +kernel)
theorem k29_50 : qx sc D 29 50 [l0, l1, vi x, l3, l4, l5] st u bb σ Q ↔ qx sc D 29 51 [l0, l1, vi x, l3, l4, l5] (vi x :: st) u bb σ Q := r_iload_n (k := 2) (by decide +kernel) rfl
theorem k29_51 : qx sc D 29 51 ls st u bb σ Q ↔ qx sc D 29 52 ls (vi 1 :: st) u bb σ Q := r_iconst (by decide +kernel)
theorem k29_52 : qx sc D 29 52 ls (vi b' :: vi a' :: st) u bb σ Q ↔ q_R (a' + b') ∧ qx sc D 29 53 ls (vi (a' + b') :: st) u bb σ Q := r_iadd (by decide +kernel)
theorem k29_53 : qx sc (D + 1) 29 53 ls [vi x2, vi x1, vi x0, vr 39] (0, 0) bb σ Q ↔ qx sc D 28 0 [vr 39, vi x0, vi x1, vi x2, vn] [] (0, 0) bb σ (q_kn sc (D + 1) 29 56 ls [] (0, 0) Q) := r_callv (idx := 54) (n := 3) (m := 5) (by decide +kernel) rfl (Nat.le_of_ble_eq_true rfl) ⟨Nat.le_of_ble_eq_true rfl, Nat.le_of_ble_eq_true rfl, rfl⟩ rfl
theorem k29_56 : qx sc D 29 56 [vr a, l1, l2, l3, l4, l5] st u bb σ Q ↔ qx sc D 29 57 [vr a, l1, l2, l3, l4, l5] (vr a :: st) u bb σ Q := r_aload_n (k := 0) (by decide +kernel) rfl
theorem k29_57 : qx sc D 29 57 ls (vr 39 :: st) u bb σ Q ↔ qx sc D 29 60 ls (vr 40 :: st) u bb σ Q := r_getR (idx := 9) (c := 7) (k := 2) (by decide +kernel)
theorem k29_60 : qx sc D 29 60 ls st u bb σ Q ↔ qx sc D 29 61 ls (vi 0 :: st) u bb σ Q := r_iconst (by decide +kernel)
theorem k29_61 : qx sc D 29 61 [vr a, l1, l2, l3, l4, l5] st u bb σ Q ↔ qx sc D 29 62 [vr a, l1, l2, l3, l4, l5] (vr a :: st) u bb σ Q := r_aload_n (k := 0) (by decide +kernel) rfl
theorem k29_62 : qx sc D 29 62 ls (vr 39 :: st) u bb σ Q ↔ qx sc D 29 65 ls (vr 48 :: st) u bb σ Q := r_getR (idx := 20) (c := 7) (k := 4) (by decide +kernel)
theorem k29_65 : qx sc D 29 65 [l0, l1, vi x, l3, l4, l5] st u bb σ Q ↔ qx sc D 29 66 [l0, l1, vi x, l3, l4, l5] (vi x :: st) u bb σ Q := r_iload_n (k := 2) (by decide +kernel) rfl
theorem k29_66 : qx sc D 29 66 ls (vi i :: vr a :: st) u bb σ Q ↔ (q_ty a = 4 ∧ 0 ≤ i ∧ i < q_ln a) ∧ qx sc D 29 67 ls (vr (a + 1 + i.toNat) :: st) u bb σ Q := r_aald (by decide +kernel)
theorem k29_67 : qx sc D 29 67 ls st u bb σ Q ↔ qx sc D 29 68 ls (vi 0 :: st) u bb σ Q := r_iconst (by decide +kernel)
theorem k29_68 : qx sc D 29 68 ls st u bb σ Q ↔ qx sc D 29 70 ls (vi 8 :: st) u bb σ Q := r_bipush (by decide +kernel)
theorem k29_70 : qx sc D 29 70 ls [vi x2, vi x1, vr b, vi x0, vr a] (0, 0) bb σ Q ↔ (q_ty a = 0 ∧ q_ty b = 0 ∧ 0 ≤ x0 ∧ 0 ≤ x1 ∧ 0 ≤ x2 ∧ x0 + x2 ≤ q_ln a ∧ x1 + x2 ≤ q_ln b) ∧ qx sc D 29 73 ls [] (0, 0) bb (q_upf σ b (q_cpy (σ a) (σ b) x0 x1 x2)) Q := r_copy (idx := 122) (y' := 0) (by decide +kernel) (Nat.le_of_ble_eq_true rfl)
theorem k29_73 : qx sc D 29 73 [vr a, l1, l2, l3, l4, l5] st u bb σ Q ↔ qx sc D 29 74 [vr a, l1, l2, l3, l4, l5] (vr a :: st) u bb σ Q := r_aload_n (k := 0) (by decide +kernel) rfl
theorem k29_74 : qx sc D 29 74 ls (vr 39 :: st) u bb σ Q ↔ qx sc D 29 77 ls (vr 41 :: st) u bb σ Q := r_getR (idx := 17) (c := 7) (k := 3) (by decide +kernel)
theorem k29_77 : qx sc D 29 77 [l0, l1, vi x, l3, l4, l5] st u bb σ Q ↔ qx sc D 29 78 [l0, l1, vi x, l3, l4, l5] (vi x :: st) u bb σ Q := r_iload_n (k := 2) (by decide +kernel) rfl
theorem k29_78 : qx sc D 29 78 ls (vi i :: vr a :: st) u bb σ Q ↔ (q_ty a = 4 ∧ 0 ≤ i ∧ i < q_ln a) ∧ qx sc D 29 79 ls (vr (a + 1 + i.toNat) :: st) u bb σ Q := r_aald (by decide +kernel)
theorem k29_79 : qx sc D 29 79 ls st u bb σ Q ↔ qx sc D 29 80 ls (vi 0 :: st) u bb σ Q := r_iconst (by decide +kernel)
theorem k29_80 : qx sc D 29 80 [vr a, l1, l2, l3, l4, l5] st u bb σ Q ↔ qx sc D 29 81 [vr a, l1, l2, l3, l4, l5] (vr a :: st) u bb σ Q := r_aload_n (k := 0) (by decide +kernel) rfl
theorem k29_81 : qx sc D 29 81 ls (vr 39 :: st) u bb σ Q ↔ qx sc D 29 84 ls (vr 40 :: st) u bb σ Q := r_getR (idx := 9) (c := 7) (k := 2) (by decide +kernel)
theorem k29_84 : qx sc D 29 84 ls st u bb σ Q ↔ qx sc D 29 85 ls (vi 0 :: st) u bb σ Q := r_iconst (by decide +kernel)
theorem k29_85 : qx sc D 29 85 ls st u bb σ Q ↔ qx sc D 29 87 ls (vi 8 :: st) u bb σ Q := r_bipush (by decide +kernel)
theorem k29_87 : qx sc D 29 87 ls [vi x2, vi x1, vr b, vi x0, vr a] (0, 0) bb σ Q ↔ (q_ty a = 0 ∧ q_ty b = 0 ∧ 0 ≤ x0 ∧ 0 ≤ x1 ∧ 0 ≤ x2 ∧ x0 + x2 ≤ q_ln a ∧ x1 + x2 ≤ q_ln b) ∧ qx sc D 29 90 ls [] (0, 0) bb (q_upf σ b (q_cpy (σ a) (σ b) x0 x1 x2)) Q := r_copy (idx := 122) (y' := 0) (by decide +kernel) (Nat.le_of_ble_eq_true rfl)
theorem k29_90 : qx sc D 29 90 [vr a, l1, l2, l3, l4, l5] st u bb σ Q ↔ qx sc D 29 91 [vr a, l1, l2, l3, l4, l5] (vr a :: st) u bb σ Q := r_aload_n (k := 0) (by decide +kernel) rfl
theorem k29_91 : qx sc D 29 91 ls (vr 39 :: st) u bb σ Q ↔ qx sc D 29 94 ls (vr 27 :: st) u bb σ Q := r_getR (idx := 27) (c := 7) (k := 1) (by decide +kernel)
theorem k29_94 : qx sc D 29 94 ls (vr 27 :: st) u bb σ Q ↔ qx sc D 29 97 ls (vr 34 :: st) u bb σ Q := r_getR (idx := 140) (c := 6) (k := 6) (by decide +kernel)
theorem k29_97 : qx sc D 29 97 [l0, vi x, l2, l3, l4, l5] st u bb σ Q ↔ qx sc D 29 98 [l0, vi x, l2, l3, l4, l5] (vi x :: st) u bb σ Q := r_iload_n (k := 1) (by decide +kernel) rfl
theorem k29_98 : qx sc D 29 98 [vr a, l1, l2, l3, l4, l5] st u bb σ Q ↔ qx sc D 29 99 [vr a, l1, l2, l3, l4, l5] (vr a :: st) u bb σ Q := r_aload_n (k := 0) (by decide +kernel) rfl
theorem k29_99 : qx sc D 29 99 [l0, vi x, l2, l3, l4, l5] st u bb σ Q ↔ qx sc D 29 100 [l0, vi x, l2, l3, l4, l5] (vi x :: st) u bb σ Q := r_iload_n (k := 1) (by decide +kernel) rfl
theorem k29_100 : qx sc D 29 100 ls st u bb σ Q ↔ qx sc D 29 101 ls (vi 4 :: st) u bb σ Q := r_iconst (by decide +kernel)
theorem k29_101 : qx sc (D + 1) 29 101 ls [vi x1, vi x0, vr 39, vi x20, vr a21] (0, 0) bb σ Q ↔ qx sc D 25 0 [vr 39, vi x0, vi x1, vn, vn, vn, vn] [] (0, 0) bb σ (q_kn sc (D + 1) 29 104 ls [vi x20, vr a21] (0, 0) Q) := r_callv (idx := 134) (n := 2) (m := 7) (by decide +kernel) rfl (Nat.le_of_ble_eq_true rfl) ⟨Nat.le_of_ble_eq_true rfl, Nat.le_of_ble_eq_true rfl, rfl⟩ rfl
theorem k29_104 : qx sc D 29 104 ls (vi x :: vi i :: vr a :: st) u bb σ Q ↔ (q_ty a = 0 ∧ 0 ≤ i ∧ i < q_ln a) ∧ qx sc D 29 105 ls st u bb (q_up σ a i x) Q := r_iast (by decide +kernel)
theorem k29_105 : qx sc D 29 105 [vr a, l1, l2, l3, l4, l5] st u bb σ Q ↔ qx sc D 29 106 [vr a, l1, l2, l3, l4, l5] (vr a :: st) u bb σ Q := r_aload_n (k := 0) (by decide +kernel) rfl
theorem k29_106 : qx sc D 29 106 [vr a, l1, l2, l3, l4, l5] st u bb σ Q ↔ qx sc D 29 107 [vr a, l1, l2, l3, l4, l5] (vr a :: st) u bb σ Q := r_aload_n (k := 0) (by decide +kernel) rfl
theorem k29_107 : qx sc D 29 107 ls (vr 39 :: st) u bb σ Q ↔ 0 ≤ σ 39 5 ∧ qx sc D 29 110 ls (vr (σ 39 5).toNat :: st) u bb σ Q := r_getM (idx := 31) (c := 7) (k := 5) (by decide +kernel)
theorem k29_110 (hc : q_C c) : qx sc D 29 110 ls (vr c :: st) u bb σ Q ↔ qx sc D 29 113 ls (vr (c + 10) :: st) u bb σ Q := r_getRc (idx := 137) (k := 12) (by decide +kernel) hc
theorem k29_113 : qx sc D 29 113 [l0, vi x, l2, l3, l4, l5] st u bb σ Q ↔ qx sc D 29 114 [l0, vi x, l2, l3, l4, l5] (vi x :: st) u bb σ Q := r_iload_n (k := 1) (by decide +kernel) rfl
theorem k29_114 : qx sc D 29 114 ls (vi i :: vr a :: st) u bb σ Q ↔ (q_ty a = 0 ∧ 0 ≤ i ∧ i < q_ln a) ∧ qx sc D 29 115 ls (vi (σ a i) :: st) u bb σ Q := r_iald (by decide +kernel)
theorem k29_115 : qx sc D 29 115 [vr a, l1, l2, l3, l4, l5] st u bb σ Q ↔ qx sc D 29 116 [vr a, l1, l2, l3, l4, l5] (vr a :: st) u bb σ Q := r_aload_n (k := 0) (by decide +kernel) rfl
theorem k29_116 : qx sc D 29 116 ls (vr 39 :: st) u bb σ Q ↔ 0 ≤ σ 39 5 ∧ qx sc D 29 119 ls (vr (σ 39 5).toNat :: st) u bb σ Q := r_getM (idx := 31) (c := 7) (k := 5) (by decide +kernel)
theorem k29_119 (hc : q_C c) : qx sc D 29 119 ls (vr c :: st) u bb σ Q ↔ qx sc D 29 122 ls (vr (c + 11) :: st) u bb σ Q := r_getRc (idx := 77) (k := 13) (by decide +kernel) hc
theorem k29_122 : qx sc D 29 122 [l0, vi x, l2, l3, l4, l5] st u bb σ Q ↔ qx sc D 29 123 [l0, vi x, l2, l3, l4, l5] (vi x :: st) u bb σ Q := r_iload_n (k := 1) (by decide +kernel) rfl
theorem k29_123 : qx sc D 29 123 ls (vi i :: vr a :: st) u bb σ Q ↔ (q_ty a = 0 ∧ 0 ≤ i ∧ i < q_ln a) ∧ qx sc D 29 124 ls (vi (σ a i) :: st) u bb σ Q := r_iald (by decide +kernel)
theorem k29_124 : qx sc D 29 124 [l0, l1, vi x, l3, l4, l5] st u bb σ Q ↔ qx sc D 29 125 [l0, l1, vi x, l3, l4, l5] (vi x :: st) u bb σ Q := r_iload_n (k := 2) (by decide +kernel) rfl
theorem k29_125 : qx sc D 29 125 ls st u bb σ Q ↔ qx sc D 29 126 ls (vi 1 :: st) u bb σ Q := r_iconst (by decide +kernel)
theorem k29_126 : qx sc D 29 126 ls (vi b' :: vi a' :: st) u bb σ Q ↔ q_R (a' + b') ∧ qx sc D 29 127 ls (vi (a' + b') :: st) u bb σ Q := r_iadd (by decide +kernel)
theorem k29_127 : qx sc (D + 1) 29 127 ls [vi x2, vi x1, vi x0, vr 39] (0, 0) bb σ Q ↔ qx sc D 28 0 [vr 39, vi x0, vi x1, vi x2, vn] [] (0, 0) bb σ (q_kn sc (D + 1) 29 130 ls [] (0, 0) Q) := r_callv (idx := 54) (n := 3) (m := 5) (by decide +kernel) rfl (Nat.le_of_ble_eq_true rfl) ⟨Nat.le_of_ble_eq_true rfl, Nat.le_of_ble_eq_true rfl, rfl⟩ rfl
theorem k29_130 : qx sc D 29 130 [vr a, l1, l2, l3, l4, l5] st u bb σ Q ↔ qx sc D 29 131 [vr a, l1, l2, l3, l4, l5] (vr a :: st) u bb σ Q := r_aload_n (k := 0) (by decide +kernel) rfl
theorem k29_131 : qx sc D 29 131 ls (vr 39 :: st) u bb σ Q ↔ qx sc D 29 134 ls (vr 27 :: st) u bb σ Q := r_getR (idx := 27) (c := 7) (k := 1) (by decide +kernel)
theorem k29_134 : qx sc D 29 134 ls (vr 27 :: st) u bb σ Q ↔ qx sc D 29 137 ls (vr 31 :: st) u bb σ Q := r_getR (idx := 143) (c := 6) (k := 3) (by decide +kernel)
theorem k29_137 : qx sc D 29 137 [l0, vi x, l2, l3, l4, l5] st u bb σ Q ↔ qx sc D 29 138 [l0, vi x, l2, l3, l4, l5] (vi x :: st) u bb σ Q := r_iload_n (k := 1) (by decide +kernel) rfl
theorem k29_138 : qx sc D 29 138 [vr a, l1, l2, l3, l4, l5] st u bb σ Q ↔ qx sc D 29 139 [vr a, l1, l2, l3, l4, l5] (vr a :: st) u bb σ Q := r_aload_n (k := 0) (by decide +kernel) rfl
theorem k29_139 : qx sc D 29 139 ls (vr 39 :: st) u bb σ Q ↔ qx sc D 29 142 ls (vr 9 :: st) u bb σ Q := r_getR (idx := 23) (c := 7) (k := 0) (by decide +kernel)
theorem k29_142 : qx sc D 29 142 ls (vr 9 :: st) u bb σ Q ↔ qx sc D 29 145 ls (vi (σ 9 0) :: st) u bb σ Q := r_getI (idx := 35) (c := 13) (k := 0) (by decide +kernel)
theorem k29_145 : qx sc D 29 145 ls (vi x :: vi i :: vr a :: st) u bb σ Q ↔ (q_ty a = 0 ∧ 0 ≤ i ∧ i < q_ln a) ∧ qx sc D 29 146 ls st u bb (q_up σ a i x) Q := r_iast (by decide +kernel)
theorem k29_146 : qx sc D 29 146 [vr a, l1, l2, l3, l4, l5] st u bb σ Q ↔ qx sc D 29 147 [vr a, l1, l2, l3, l4, l5] (vr a :: st) u bb σ Q := r_aload_n (k := 0) (by decide +kernel) rfl
theorem k29_147 : qx sc D 29 147 ls (vr 39 :: st) u bb σ Q ↔ 0 ≤ σ 39 5 ∧ qx sc D 29 150 ls (vr (σ 39 5).toNat :: st) u bb σ Q := r_getM (idx := 31) (c := 7) (k := 5) (by decide +kernel)
theorem k29_150 : qx sc D 29 150 [l0, vi x, l2, l3, l4, l5] st u bb σ Q ↔ qx sc D 29 151 [l0, vi x, l2, l3, l4, l5] (vi x :: st) u bb σ Q := r_iload_n (k := 1) (by decide +kernel) rfl
theorem k29_151 (hc : q_C c) : qx sc (D + 1) 29 151 ls [vi x0, vr c] (0, 0) bb σ Q ↔ qx sc D 15 0 [vr c, vi x0, vn, vn] [] (0, 0) bb σ (q_kn sc (D + 1) 29 154 ls [] (0, 0) Q) := r_callc (idx := 146) (n := 1) (m := 4) (by decide +kernel) hc rfl (Nat.le_of_ble_eq_true rfl) ⟨Nat.le_of_ble_eq_true rfl, Nat.le_of_ble_eq_true rfl, rfl⟩ rfl
theorem k29_154 : qx sc D 29 154 [l0, l1, l2, l3, l4, l5] (vi x :: st) u bb σ Q ↔ qx sc D 29 155 [l0, l1, l2, vi x, l4, l5] st u bb σ Q := r_istore_n (k := 3) (by decide +kernel) (Nat.le_of_ble_eq_true rfl)
theorem k29_155 : qx sc D 29 155 ls st u bb σ Q ↔ qx sc D 29 156 ls (vi 0 :: st) u bb σ Q := r_iconst (by decide +kernel)
theorem k29_156 : qx sc D 29 156 [l0, l1, l2, l3, l4, l5] (vi x :: st) u bb σ Q ↔ qx sc D 29 158 [l0, l1, l2, l3, vi x, l5] st u bb σ Q := r_istore (k := 4) (by decide +kernel) (Nat.le_of_ble_eq_true rfl)
theorem k29_158 : qx sc D 29 158 [l0, l1, l2, l3, vi x, l5] st u bb σ Q ↔ qx sc D 29 160 [l0, l1, l2, l3, vi x, l5] (vi x :: st) u bb σ Q := r_iload (k := 4) (by decide +kernel) rfl
theorem k29_160 : qx sc D 29 160 ls st u bb σ Q ↔ qx sc D 29 162 ls (vi 8 :: st) u bb σ Q := r_bipush (by decide +kernel)
theorem k29_162 : qx sc D 29 162 ls (vi b' :: vi a' :: st) u bb σ Q ↔ (a' < b' → qx sc D 29 165 ls st u bb σ Q) ∧ (¬ (a' < b') → qx sc D 29 258 ls st u bb σ Q) := r_ic_ge (off := 96) (t := 258) (by decide +kernel)
theorem k29_165 : qx sc D 29 165 [l0, l1, l2, vi x, l4, l5] st u bb σ Q ↔ qx sc D 29 166 [l0, l1, l2, vi x, l4, l5] (vi x :: st) u bb σ Q := r_iload_n (k := 3) (by decide +kernel) rfl
theorem k29_166 : qx sc D 29 166 [l0, l1, l2, l3, vi x, l5] st u bb σ Q ↔ qx sc D 29 168 [l0, l1, l2, l3, vi x, l5] (vi x :: st) u bb σ Q := r_iload (k := 4) (by decide +kernel) rfl
theorem k29_168 : qx sc D 29 168 ls (vi b' :: vi a' :: st) u bb σ Q ↔ qx sc D 29 169 ls (vi (q_I a' >>> (q_I b' &&& 31)).toInt :: st) u bb σ Q := r_ishr (by decide +kernel)
theorem k29_169 : qx sc D 29 169 ls st u bb σ Q ↔ qx sc D 29 170 ls (vi 1 :: st) u bb σ Q := r_iconst (by decide +kernel)
theorem k29_170 : qx sc D 29 170 ls (vi b' :: vi a' :: st) u bb σ Q ↔ qx sc D 29 171 ls (vi (q_I a' &&& q_I b').toInt :: st) u bb σ Q := r_iand (by decide +kernel)
theorem k29_171 : qx sc D 29 171 ls st u bb σ Q ↔ qx sc D 29 172 ls (vi 1 :: st) u bb σ Q := r_iconst (by decide +kernel)
theorem k29_172 : qx sc D 29 172 ls (vi b' :: vi a' :: st) u bb σ Q ↔ (a' = b' → qx sc D 29 175 ls st u bb σ Q) ∧ (¬ (a' = b') → qx sc D 29 236 ls st u bb σ Q) := r_ic_ne (off := 64) (t := 236) (by decide +kernel)
theorem k29_175 : qx sc D 29 175 [vr a, l1, l2, l3, l4, l5] st u bb σ Q ↔ qx sc D 29 176 [vr a, l1, l2, l3, l4, l5] (vr a :: st) u bb σ Q := r_aload_n (k := 0) (by decide +kernel) rfl
theorem k29_176 : qx sc D 29 176 ls (vr 39 :: st) u bb σ Q ↔ qx sc D 29 179 ls (vr 9 :: st) u bb σ Q := r_getR (idx := 23) (c := 7) (k := 0) (by decide +kernel)
theorem k29_179 : qx sc D 29 179 [l0, l1, l2, l3, vi x, l5] st u bb σ Q ↔ qx sc D 29 181 [l0, l1, l2, l3, vi x, l5] (vi x :: st) u bb σ Q := r_iload (k := 4) (by decide +kernel) rfl
theorem k29_181 : qx sc D 29 181 ls st u bb σ Q ↔ qx sc D 29 182 ls (vi 5 :: st) u bb σ Q := r_iconst (by decide +kernel)
theorem k29_182 : qx sc D 29 182 [l0, vi x, l2, l3, l4, l5] st u bb σ Q ↔ qx sc D 29 183 [l0, vi x, l2, l3, l4, l5] (vi x :: st) u bb σ Q := r_iload_n (k := 1) (by decide +kernel) rfl
theorem k29_183 : qx sc (D + 1) 29 183 ls [vi x2, vi x1, vi x0, vr 9] (0, 0) bb σ Q ↔ qx sc D 88 0 [vr 9, vi x0, vi x1, vi x2, vn] [] (0, 0) bb σ (q_kn sc (D + 1) 29 186 ls [] (0, 0) Q) := r_callv (idx := 41) (n := 3) (m := 5) (by decide +kernel) rfl (Nat.le_of_ble_eq_true rfl) ⟨Nat.le_of_ble_eq_true rfl, Nat.le_of_ble_eq_true rfl, rfl⟩ rfl
theorem k29_186 : qx sc D 29 186 [l0, l1, l2, l3, l4, l5] (vi x :: st) u bb σ Q ↔ qx sc D 29 188 [l0, l1, l2, l3, l4, vi x] st u bb σ Q := r_istore (k := 5) (by decide +kernel) (Nat.le_of_ble_eq_true rfl)
theorem k29_188 : qx sc D 29 188 [vr a, l1, l2, l3, l4, l5] st u bb σ Q ↔ qx sc D 29 189 [vr a, l1, l2, l3, l4, l5] (vr a :: st) u bb σ Q := r_aload_n (k := 0) (by decide +kernel) rfl
theorem k29_189 : qx sc D 29 189 ls (vr 39 :: st) u bb σ Q ↔ qx sc D 29 192 ls (vr 9 :: st) u bb σ Q := r_getR (idx := 23) (c := 7) (k := 0) (by decide +kernel)
theorem k29_192 : qx sc D 29 192 ls (vr 9 :: st) u bb σ Q ↔ qx sc D 29 195 ls (vr 13 :: st) u bb σ Q := r_getR (idx := 150) (c := 13) (k := 4) (by decide +kernel)
theorem k29_195 : qx sc D 29 195 [l0, l1, l2, l3, l4, vi x] st u bb σ Q ↔ qx sc D 29 197 [l0, l1, l2, l3, l4, vi x] (vi x :: st) u bb σ Q := r_iload (k := 5) (by decide +kernel) rfl
theorem k29_197 : qx sc D 29 197 [vr a, l1, l2, l3, l4, l5] st u bb σ Q ↔ qx sc D 29 198 [vr a, l1, l2, l3, l4, l5] (vr a :: st) u bb σ Q := r_aload_n (k := 0) (by decide +kernel) rfl
theorem k29_198 : qx sc D 29 198 ls (vr 39 :: st) u bb σ Q ↔ qx sc D 29 201 ls (vr 48 :: st) u bb σ Q := r_getR (idx := 20) (c := 7) (k := 4) (by decide +kernel)
theorem k29_201 : qx sc D 29 201 [l0, l1, vi x, l3, l4, l5] st u bb σ Q ↔ qx sc D 29 202 [l0, l1, vi x, l3, l4, l5] (vi x :: st) u bb σ Q := r_iload_n (k := 2) (by decide +kernel) rfl
theorem k29_202 : qx sc D 29 202 ls (vi i :: vr a :: st) u bb σ Q ↔ (q_ty a = 4 ∧ 0 ≤ i ∧ i < q_ln a) ∧ qx sc D 29 203 ls (vr (a + 1 + i.toNat) :: st) u bb σ Q := r_aald (by decide +kernel)
theorem k29_203 : qx sc D 29 203 [l0, l1, l2, l3, vi x, l5] st u bb σ Q ↔ qx sc D 29 205 [l0, l1, l2, l3, vi x, l5] (vi x :: st) u bb σ Q := r_iload (k := 4) (by decide +kernel) rfl
theorem k29_205 : qx sc D 29 205 ls (vi i :: vr a :: st) u bb σ Q ↔ (q_ty a = 0 ∧ 0 ≤ i ∧ i < q_ln a) ∧ qx sc D 29 206 ls (vi (σ a i) :: st) u bb σ Q := r_iald (by decide +kernel)
theorem k29_206 : qx sc D 29 206 ls (vi x :: vi i :: vr a :: st) u bb σ Q ↔ (q_ty a = 0 ∧ 0 ≤ i ∧ i < q_ln a) ∧ qx sc D 29 207 ls st u bb (q_up σ a i x) Q := r_iast (by decide +kernel)
theorem k29_207 : qx sc D 29 207 [vr a, l1, l2, l3, l4, l5] st u bb σ Q ↔ qx sc D 29 208 [vr a, l1, l2, l3, l4, l5] (vr a :: st) u bb σ Q := r_aload_n (k := 0) (by decide +kernel) rfl
theorem k29_208 : qx sc D 29 208 ls (vr 39 :: st) u bb σ Q ↔ qx sc D 29 211 ls (vr 9 :: st) u bb σ Q := r_getR (idx := 23) (c := 7) (k := 0) (by decide +kernel)
theorem k29_211 : qx sc D 29 211 ls (vr 9 :: st) u bb σ Q ↔ qx sc D 29 214 ls (vr 14 :: st) u bb σ Q := r_getR (idx := 153) (c := 13) (k := 5) (by decide +kernel)
theorem k29_214 : qx sc D 29 214 [l0, l1, l2, l3, l4, vi x] st u bb σ Q ↔ qx sc D 29 216 [l0, l1, l2, l3, l4, vi x] (vi x :: st) u bb σ Q := r_iload (k := 5) (by decide +kernel) rfl
theorem k29_216 : qx sc D 29 216 [vr a, l1, l2, l3, l4, l5] st u bb σ Q ↔ qx sc D 29 217 [vr a, l1, l2, l3, l4, l5] (vr a :: st) u bb σ Q := r_aload_n (k := 0) (by decide +kernel) rfl
theorem k29_217 : qx sc D 29 217 ls (vr 39 :: st) u bb σ Q ↔ qx sc D 29 220 ls (vr 40 :: st) u bb σ Q := r_getR (idx := 9) (c := 7) (k := 2) (by decide +kernel)
theorem k29_220 : qx sc D 29 220 [l0, l1, l2, l3, vi x, l5] st u bb σ Q ↔ qx sc D 29 222 [l0, l1, l2, l3, vi x, l5] (vi x :: st) u bb σ Q := r_iload (k := 4) (by decide +kernel) rfl
theorem k29_222 : qx sc D 29 222 ls (vi i :: vr a :: st) u bb σ Q ↔ (q_ty a = 0 ∧ 0 ≤ i ∧ i < q_ln a) ∧ qx sc D 29 223 ls (vi (σ a i) :: st) u bb σ Q := r_iald (by decide +kernel)
theorem k29_223 : qx sc D 29 223 ls (vi x :: vi i :: vr a :: st) u bb σ Q ↔ (q_ty a = 0 ∧ 0 ≤ i ∧ i < q_ln a) ∧ qx sc D 29 224 ls st u bb (q_up σ a i x) Q := r_iast (by decide +kernel)
theorem k29_224 : qx sc D 29 224 [vr a, l1, l2, l3, l4, l5] st u bb σ Q ↔ qx sc D 29 225 [vr a, l1, l2, l3, l4, l5] (vr a :: st) u bb σ Q := r_aload_n (k := 0) (by decide +kernel) rfl
theorem k29_225 : qx sc D 29 225 ls (vr 39 :: st) u bb σ Q ↔ qx sc D 29 228 ls (vr 40 :: st) u bb σ Q := r_getR (idx := 9) (c := 7) (k := 2) (by decide +kernel)
theorem k29_228 : qx sc D 29 228 [l0, l1, l2, l3, vi x, l5] st u bb σ Q ↔ qx sc D 29 230 [l0, l1, l2, l3, vi x, l5] (vi x :: st) u bb σ Q := r_iload (k := 4) (by decide +kernel) rfl
theorem k29_230 : qx sc D 29 230 [l0, l1, l2, l3, l4, vi x] st u bb σ Q ↔ qx sc D 29 232 [l0, l1, l2, l3, l4, vi x] (vi x :: st) u bb σ Q := r_iload (k := 5) (by decide +kernel) rfl
theorem k29_232 : qx sc D 29 232 ls (vi x :: vi i :: vr a :: st) u bb σ Q ↔ (q_ty a = 0 ∧ 0 ≤ i ∧ i < q_ln a) ∧ qx sc D 29 233 ls st u bb (q_up σ a i x) Q := r_iast (by decide +kernel)
theorem k29_233 : qx sc D 29 233 ls st u bb σ Q ↔ qx sc D 29 252 ls st u bb σ Q := r_goto (off := 19) (by decide +kernel)
theorem k29_236 : qx sc D 29 236 [vr a, l1, l2, l3, l4, l5] st u bb σ Q ↔ qx sc D 29 237 [vr a, l1, l2, l3, l4, l5] (vr a :: st) u bb σ Q := r_aload_n (k := 0) (by decide +kernel) rfl
theorem k29_237 : qx sc D 29 237 ls (vr 39 :: st) u bb σ Q ↔ qx sc D 29 240 ls (vr 40 :: st) u bb σ Q := r_getR (idx := 9) (c := 7) (k := 2) (by decide +kernel)
theorem k29_240 : qx sc D 29 240 [l0, l1, l2, l3, vi x, l5] st u bb σ Q ↔ qx sc D 29 242 [l0, l1, l2, l3, vi x, l5] (vi x :: st) u bb σ Q := r_iload (k := 4) (by decide +kernel) rfl
theorem k29_242 : qx sc D 29 242 [vr a, l1, l2, l3, l4, l5] st u bb σ Q ↔ qx sc D 29 243 [vr a, l1, l2, l3, l4, l5] (vr a :: st) u bb σ Q := r_aload_n (k := 0) (by decide +kernel) rfl
theorem k29_243 : qx sc D 29 243 ls (vr 39 :: st) u bb σ Q ↔ qx sc D 29 246 ls (vr 41 :: st) u bb σ Q := r_getR (idx := 17) (c := 7) (k := 3) (by decide +kernel)
theorem k29_246 : qx sc D 29 246 [l0, l1, vi x, l3, l4, l5] st u bb σ Q ↔ qx sc D 29 247 [l0, l1, vi x, l3, l4, l5] (vi x :: st) u bb σ Q := r_iload_n (k := 2) (by decide +kernel) rfl
theorem k29_247 : qx sc D 29 247 ls (vi i :: vr a :: st) u bb σ Q ↔ (q_ty a = 4 ∧ 0 ≤ i ∧ i < q_ln a) ∧ qx sc D 29 248 ls (vr (a + 1 + i.toNat) :: st) u bb σ Q := r_aald (by decide +kernel)
theorem k29_248 : qx sc D 29 248 [l0, l1, l2, l3, vi x, l5] st u bb σ Q ↔ qx sc D 29 250 [l0, l1, l2, l3, vi x, l5] (vi x :: st) u bb σ Q := r_iload (k := 4) (by decide +kernel) rfl
theorem k29_250 : qx sc D 29 250 ls (vi i :: vr a :: st) u bb σ Q ↔ (q_ty a = 0 ∧ 0 ≤ i ∧ i < q_ln a) ∧ qx sc D 29 251 ls (vi (σ a i) :: st) u bb σ Q := r_iald (by decide +kernel)
theorem k29_251 : qx sc D 29 251 ls (vi x :: vi i :: vr a :: st) u bb σ Q ↔ (q_ty a = 0 ∧ 0 ≤ i ∧ i < q_ln a) ∧ qx sc D 29 252 ls st u bb (q_up σ a i x) Q := r_iast (by decide +kernel)
theorem k29_252 : qx sc D 29 252 [l0, l1, l2, l3, vi x, l5] st u bb σ Q ↔ q_R (x + 1) ∧ qx sc D 29 255 [l0, l1, l2, l3, vi (x + 1), l5] st u bb σ Q := r_iinc (k := 4) (n := 1) (by decide +kernel) rfl
theorem k29_255 : qx sc D 29 255 ls st u bb σ Q ↔ qx sc D 29 158 ls st u bb σ Q := r_goto (off := (-97)) (by decide +kernel)
theorem k29_258 : qx sc D 29 258 [vr a, l1, l2, l3, l4, l5] st u bb σ Q ↔ qx sc D 29 259 [vr a, l1, l2, l3, l4, l5] (vr a :: st) u bb σ Q := r_aload_n (k := 0) (by decide +kernel) rfl
theorem k29_259 : qx sc D 29 259 ls (vr 39 :: st) u bb σ Q ↔ qx sc D 29 262 ls (vr 27 :: st) u bb σ Q := r_getR (idx := 27) (c := 7) (k := 1) (by decide +kernel)
theorem k29_262 : qx sc D 29 262 ls (vr 27 :: st) u bb σ Q ↔ qx sc D 29 265 ls (vr 32 :: st) u bb σ Q := r_getR (idx := 156) (c := 6) (k := 4) (by decide +kernel)
theorem k29_265 : qx sc D 29 265 [l0, vi x, l2, l3, l4, l5] st u bb σ Q ↔ qx sc D 29 266 [l0, vi x, l2, l3, l4, l5] (vi x :: st) u bb σ Q := r_iload_n (k := 1) (by decide +kernel) rfl
theorem k29_266 : qx sc D 29 266 [vr a, l1, l2, l3, l4, l5] st u bb σ Q ↔ qx sc D 29 267 [vr a, l1, l2, l3, l4, l5] (vr a :: st) u bb σ Q := r_aload_n (k := 0) (by decide +kernel) rfl
theorem k29_267 : qx sc D 29 267 ls (vr 39 :: st) u bb σ Q ↔ qx sc D 29 270 ls (vr 9 :: st) u bb σ Q := r_getR (idx := 23) (c := 7) (k := 0) (by decide +kernel)
theorem k29_270 : qx sc D 29 270 ls (vr 9 :: st) u bb σ Q ↔ qx sc D 29 273 ls (vi (σ 9 0) :: st) u bb σ Q := r_getI (idx := 35) (c := 13) (k := 0) (by decide +kernel)
theorem k29_273 : qx sc D 29 273 [vr a, l1, l2, l3, l4, l5] st u bb σ Q ↔ qx sc D 29 274 [vr a, l1, l2, l3, l4, l5] (vr a :: st) u bb σ Q := r_aload_n (k := 0) (by decide +kernel) rfl
theorem k29_274 : qx sc D 29 274 ls (vr 39 :: st) u bb σ Q ↔ qx sc D 29 277 ls (vr 27 :: st) u bb σ Q := r_getR (idx := 27) (c := 7) (k := 1) (by decide +kernel)
theorem k29_277 : qx sc D 29 277 ls (vr 27 :: st) u bb σ Q ↔ qx sc D 29 280 ls (vr 31 :: st) u bb σ Q := r_getR (idx := 143) (c := 6) (k := 3) (by decide +kernel)
theorem k29_280 : qx sc D 29 280 [l0, vi x, l2, l3, l4, l5] st u bb σ Q ↔ qx sc D 29 281 [l0, vi x, l2, l3, l4, l5] (vi x :: st) u bb σ Q := r_iload_n (k := 1) (by decide +kernel) rfl
theorem k29_281 : qx sc D 29 281 ls (vi i :: vr a :: st) u bb σ Q ↔ (q_ty a = 0 ∧ 0 ≤ i ∧ i < q_ln a) ∧ qx sc D 29 282 ls (vi (σ a i) :: st) u bb σ Q := r_iald (by decide +kernel)
theorem k29_282 : qx sc D 29 282 ls (vi b' :: vi a' :: st) u bb σ Q ↔ q_R (a' - b') ∧ qx sc D 29 283 ls (vi (a' - b') :: st) u bb σ Q := r_isub (by decide +kernel)
theorem k29_283 : qx sc D 29 283 ls (vi x :: vi i :: vr a :: st) u bb σ Q ↔ (q_ty a = 0 ∧ 0 ≤ i ∧ i < q_ln a) ∧ qx sc D 29 284 ls st u bb (q_up σ a i x) Q := r_iast (by decide +kernel)
theorem k29_284 : qx sc D 29 284 ls [] (0, 0) bb σ Q ↔ Q (.inl none) bb σ := r_retV (by decide +kernel)
-- 30: RowProver$Numbering.walkRepetition(II)V
theorem k30_0 : qx sc D 30 0 [vr a, l1, l2, l3, l4, l5, l6] st u bb σ Q ↔ qx sc D 30 1 [vr a, l1, l2, l3, l4, l5, l6] (vr a :: st) u bb σ Q := r_aload_n (k := 0) (by decide +kernel) rfl
theorem k30_1 : qx sc D 30 1 ls (vr 39 :: st) u bb σ Q ↔ 0 ≤ σ 39 5 ∧ qx sc D 30 4 ls (vr (σ 39 5).toNat :: st) u bb σ Q := r_getM (idx := 31) (c := 7) (k := 5) (by decide +kernel)
theorem k30_4 : qx sc D 30 4 [l0, vi x, l2, l3, l4, l5, l6] st u bb σ Q ↔ qx sc D 30 5 [l0, vi x, l2, l3, l4, l5, l6] (vi x :: st) u bb σ Q := r_iload_n (k := 1) (by decide +kernel) rfl
theorem k30_5 (hc : q_C c) : qx sc (D + 1) 30 5 ls [vi x0, vr c] (0, 0) bb σ Q ↔ qx sc D 15 0 [vr c, vi x0, vn, vn] [] (0, 0) bb σ (q_kn sc (D + 1) 30 8 ls [] (0, 0) Q) := r_callc (idx := 146) (n := 1) (m := 4) (by decide +kernel) hc rfl (Nat.le_of_ble_eq_true rfl) ⟨Nat.le_of_ble_eq_true rfl, Nat.le_of_ble_eq_true rfl, rfl⟩ rfl
theorem k30_8 : qx sc D 30 8 [l0, l1, l2, l3, l4, l5, l6] (vi x :: st) u bb σ Q ↔ qx sc D 30 9 [l0, l1, l2, vi x, l4, l5, l6] st u bb σ Q := r_istore_n (k := 3) (by decide +kernel) (Nat.le_of_ble_eq_true rfl)
theorem k30_9 : qx sc D 30 9 [vr a, l1, l2, l3, l4, l5, l6] st u bb σ Q ↔ qx sc D 30 10 [vr a, l1, l2, l3, l4, l5, l6] (vr a :: st) u bb σ Q := r_aload_n (k := 0) (by decide +kernel) rfl
theorem k30_10 : qx sc D 30 10 ls (vr 39 :: st) u bb σ Q ↔ qx sc D 30 13 ls (vr 9 :: st) u bb σ Q := r_getR (idx := 23) (c := 7) (k := 0) (by decide +kernel)
theorem k30_13 : qx sc D 30 13 ls (vr 9 :: st) u bb σ Q ↔ qx sc D 30 16 ls (vi (σ 9 0) :: st) u bb σ Q := r_getI (idx := 35) (c := 13) (k := 0) (by decide +kernel)
theorem k30_16 : qx sc D 30 16 [l0, l1, l2, l3, l4, l5, l6] (vi x :: st) u bb σ Q ↔ qx sc D 30 18 [l0, l1, l2, l3, vi x, l5, l6] st u bb σ Q := r_istore (k := 4) (by decide +kernel) (Nat.le_of_ble_eq_true rfl)
theorem k30_18 : qx sc D 30 18 ls st u bb σ Q ↔ qx sc D 30 19 ls (vi 0 :: st) u bb σ Q := r_iconst (by decide +kernel)
theorem k30_19 : qx sc D 30 19 [l0, l1, l2, l3, l4, l5, l6] (vi x :: st) u bb σ Q ↔ qx sc D 30 21 [l0, l1, l2, l3, l4, vi x, l6] st u bb σ Q := r_istore (k := 5) (by decide +kernel) (Nat.le_of_ble_eq_true rfl)
theorem k30_21 : qx sc D 30 21 [l0, l1, l2, l3, l4, vi x, l6] st u bb σ Q ↔ qx sc D 30 23 [l0, l1, l2, l3, l4, vi x, l6] (vi x :: st) u bb σ Q := r_iload (k := 5) (by decide +kernel) rfl
theorem k30_23 : qx sc D 30 23 ls st u bb σ Q ↔ qx sc D 30 25 ls (vi 8 :: st) u bb σ Q := r_bipush (by decide +kernel)
theorem k30_25 : qx sc D 30 25 ls (vi b' :: vi a' :: st) u bb σ Q ↔ (a' < b' → qx sc D 30 28 ls st u bb σ Q) ∧ (¬ (a' < b') → qx sc D 30 84 ls st u bb σ Q) := r_ic_ge (off := 59) (t := 84) (by decide +kernel)
theorem k30_28 : qx sc D 30 28 [l0, l1, l2, vi x, l4, l5, l6] st u bb σ Q ↔ qx sc D 30 29 [l0, l1, l2, vi x, l4, l5, l6] (vi x :: st) u bb σ Q := r_iload_n (k := 3) (by decide +kernel) rfl
theorem k30_29 : qx sc D 30 29 [l0, l1, l2, l3, l4, vi x, l6] st u bb σ Q ↔ qx sc D 30 31 [l0, l1, l2, l3, l4, vi x, l6] (vi x :: st) u bb σ Q := r_iload (k := 5) (by decide +kernel) rfl
theorem k30_31 : qx sc D 30 31 ls (vi b' :: vi a' :: st) u bb σ Q ↔ qx sc D 30 32 ls (vi (q_I a' >>> (q_I b' &&& 31)).toInt :: st) u bb σ Q := r_ishr (by decide +kernel)
theorem k30_32 : qx sc D 30 32 ls st u bb σ Q ↔ qx sc D 30 33 ls (vi 1 :: st) u bb σ Q := r_iconst (by decide +kernel)
theorem k30_33 : qx sc D 30 33 ls (vi b' :: vi a' :: st) u bb σ Q ↔ qx sc D 30 34 ls (vi (q_I a' &&& q_I b').toInt :: st) u bb σ Q := r_iand (by decide +kernel)
theorem k30_34 : qx sc D 30 34 ls st u bb σ Q ↔ qx sc D 30 35 ls (vi 1 :: st) u bb σ Q := r_iconst (by decide +kernel)
theorem k30_35 : qx sc D 30 35 ls (vi b' :: vi a' :: st) u bb σ Q ↔ (a' = b' → qx sc D 30 38 ls st u bb σ Q) ∧ (¬ (a' = b') → qx sc D 30 78 ls st u bb σ Q) := r_ic_ne (off := 43) (t := 78) (by decide +kernel)
theorem k30_38 : qx sc D 30 38 [vr a, l1, l2, l3, l4, l5, l6] st u bb σ Q ↔ qx sc D 30 39 [vr a, l1, l2, l3, l4, l5, l6] (vr a :: st) u bb σ Q := r_aload_n (k := 0) (by decide +kernel) rfl
theorem k30_39 : qx sc D 30 39 ls (vr 39 :: st) u bb σ Q ↔ qx sc D 30 42 ls (vr 9 :: st) u bb σ Q := r_getR (idx := 23) (c := 7) (k := 0) (by decide +kernel)
theorem k30_42 : qx sc D 30 42 [l0, l1, l2, l3, l4, vi x, l6] st u bb σ Q ↔ qx sc D 30 44 [l0, l1, l2, l3, l4, vi x, l6] (vi x :: st) u bb σ Q := r_iload (k := 5) (by decide +kernel) rfl
theorem k30_44 : qx sc D 30 44 ls st u bb σ Q ↔ qx sc D 30 46 ls (vi 6 :: st) u bb σ Q := r_bipush (by decide +kernel)
theorem k30_46 : qx sc D 30 46 [l0, vi x, l2, l3, l4, l5, l6] st u bb σ Q ↔ qx sc D 30 47 [l0, vi x, l2, l3, l4, l5, l6] (vi x :: st) u bb σ Q := r_iload_n (k := 1) (by decide +kernel) rfl
theorem k30_47 : qx sc (D + 1) 30 47 ls [vi x2, vi x1, vi x0, vr 9] (0, 0) bb σ Q ↔ qx sc D 88 0 [vr 9, vi x0, vi x1, vi x2, vn] [] (0, 0) bb σ (q_kn sc (D + 1) 30 50 ls [] (0, 0) Q) := r_callv (idx := 41) (n := 3) (m := 5) (by decide +kernel) rfl (Nat.le_of_ble_eq_true rfl) ⟨Nat.le_of_ble_eq_true rfl, Nat.le_of_ble_eq_true rfl, rfl⟩ rfl
theorem k30_50 : qx sc D 30 50 [l0, l1, l2, l3, l4, l5, l6] (vi x :: st) u bb σ Q ↔ qx sc D 30 52 [l0, l1, l2, l3, l4, l5, vi x] st u bb σ Q := r_istore (k := 6) (by decide +kernel) (Nat.le_of_ble_eq_true rfl)
theorem k30_52 : qx sc D 30 52 [vr a, l1, l2, l3, l4, l5, l6] st u bb σ Q ↔ qx sc D 30 53 [vr a, l1, l2, l3, l4, l5, l6] (vr a :: st) u bb σ Q := r_aload_n (k := 0) (by decide +kernel) rfl
theorem k30_53 : qx sc D 30 53 ls (vr 39 :: st) u bb σ Q ↔ qx sc D 30 56 ls (vr 9 :: st) u bb σ Q := r_getR (idx := 23) (c := 7) (k := 0) (by decide +kernel)
theorem k30_56 : qx sc D 30 56 ls (vr 9 :: st) u bb σ Q ↔ qx sc D 30 59 ls (vr 13 :: st) u bb σ Q := r_getR (idx := 150) (c := 13) (k := 4) (by decide +kernel)
theorem k30_59 : qx sc D 30 59 [l0, l1, l2, l3, l4, l5, vi x] st u bb σ Q ↔ qx sc D 30 61 [l0, l1, l2, l3, l4, l5, vi x] (vi x :: st) u bb σ Q := r_iload (k := 6) (by decide +kernel) rfl
theorem k30_61 : qx sc D 30 61 [vr a, l1, l2, l3, l4, l5, l6] st u bb σ Q ↔ qx sc D 30 62 [vr a, l1, l2, l3, l4, l5, l6] (vr a :: st) u bb σ Q := r_aload_n (k := 0) (by decide +kernel) rfl
theorem k30_62 : qx sc D 30 62 ls (vr 39 :: st) u bb σ Q ↔ qx sc D 30 65 ls (vr 40 :: st) u bb σ Q := r_getR (idx := 9) (c := 7) (k := 2) (by decide +kernel)
theorem k30_65 : qx sc D 30 65 [l0, l1, l2, l3, l4, vi x, l6] st u bb σ Q ↔ qx sc D 30 67 [l0, l1, l2, l3, l4, vi x, l6] (vi x :: st) u bb σ Q := r_iload (k := 5) (by decide +kernel) rfl
theorem k30_67 : qx sc D 30 67 ls (vi i :: vr a :: st) u bb σ Q ↔ (q_ty a = 0 ∧ 0 ≤ i ∧ i < q_ln a) ∧ qx sc D 30 68 ls (vi (σ a i) :: st) u bb σ Q := r_iald (by decide +kernel)
theorem k30_68 : qx sc D 30 68 ls (vi x :: vi i :: vr a :: st) u bb σ Q ↔ (q_ty a = 0 ∧ 0 ≤ i ∧ i < q_ln a) ∧ qx sc D 30 69 ls st u bb (q_up σ a i x) Q := r_iast (by decide +kernel)
theorem k30_69 : qx sc D 30 69 [vr a, l1, l2, l3, l4, l5, l6] st u bb σ Q ↔ qx sc D 30 70 [vr a, l1, l2, l3, l4, l5, l6] (vr a :: st) u bb σ Q := r_aload_n (k := 0) (by decide +kernel) rfl
theorem k30_70 : qx sc D 30 70 ls (vr 39 :: st) u bb σ Q ↔ qx sc D 30 73 ls (vr 40 :: st) u bb σ Q := r_getR (idx := 9) (c := 7) (k := 2) (by decide +kernel)
theorem k30_73 : qx sc D 30 73 [l0, l1, l2, l3, l4, vi x, l6] st u bb σ Q ↔ qx sc D 30 75 [l0, l1, l2, l3, l4, vi x, l6] (vi x :: st) u bb σ Q := r_iload (k := 5) (by decide +kernel) rfl
theorem k30_75 : qx sc D 30 75 [l0, l1, l2, l3, l4, l5, vi x] st u bb σ Q ↔ qx sc D 30 77 [l0, l1, l2, l3, l4, l5, vi x] (vi x :: st) u bb σ Q := r_iload (k := 6) (by decide +kernel) rfl
theorem k30_77 : qx sc D 30 77 ls (vi x :: vi i :: vr a :: st) u bb σ Q ↔ (q_ty a = 0 ∧ 0 ≤ i ∧ i < q_ln a) ∧ qx sc D 30 78 ls st u bb (q_up σ a i x) Q := r_iast (by decide +kernel)
theorem k30_78 : qx sc D 30 78 [l0, l1, l2, l3, l4, vi x, l6] st u bb σ Q ↔ q_R (x + 1) ∧ qx sc D 30 81 [l0, l1, l2, l3, l4, vi (x + 1), l6] st u bb σ Q := r_iinc (k := 5) (n := 1) (by decide +kernel) rfl
theorem k30_81 : qx sc D 30 81 ls st u bb σ Q ↔ qx sc D 30 21 ls st u bb σ Q := r_goto (off := (-60)) (by decide +kernel)
theorem k30_84 : qx sc D 30 84 [vr a, l1, l2, l3, l4, l5, l6] st u bb σ Q ↔ qx sc D 30 85 [vr a, l1, l2, l3, l4, l5, l6] (vr a :: st) u bb σ Q := r_aload_n (k := 0) (by decide +kernel) rfl
theorem k30_85 : qx sc D 30 85 ls (vr 39 :: st) u bb σ Q ↔ qx sc D 30 88 ls (vr 27 :: st) u bb σ Q := r_getR (idx := 27) (c := 7) (k := 1) (by decide +kernel)
theorem k30_88 : qx sc D 30 88 ls (vr 27 :: st) u bb σ Q ↔ qx sc D 30 91 ls (vr 31 :: st) u bb σ Q := r_getR (idx := 143) (c := 6) (k := 3) (by decide +kernel)
theorem k30_91 : qx sc D 30 91 [l0, vi x, l2, l3, l4, l5, l6] st u bb σ Q ↔ qx sc D 30 92 [l0, vi x, l2, l3, l4, l5, l6] (vi x :: st) u bb σ Q := r_iload_n (k := 1) (by decide +kernel) rfl
theorem k30_92 : qx sc D 30 92 [l0, l1, l2, l3, vi x, l5, l6] st u bb σ Q ↔ qx sc D 30 94 [l0, l1, l2, l3, vi x, l5, l6] (vi x :: st) u bb σ Q := r_iload (k := 4) (by decide +kernel) rfl
theorem k30_94 : qx sc D 30 94 ls (vi x :: vi i :: vr a :: st) u bb σ Q ↔ (q_ty a = 0 ∧ 0 ≤ i ∧ i < q_ln a) ∧ qx sc D 30 95 ls st u bb (q_up σ a i x) Q := r_iast (by decide +kernel)
theorem k30_95 : qx sc D 30 95 [vr a, l1, l2, l3, l4, l5, l6] st u bb σ Q ↔ qx sc D 30 96 [vr a, l1, l2, l3, l4, l5, l6] (vr a :: st) u bb σ Q := r_aload_n (k := 0) (by decide +kernel) rfl
theorem k30_96 : qx sc D 30 96 ls (vr 39 :: st) u bb σ Q ↔ qx sc D 30 99 ls (vr 27 :: st) u bb σ Q := r_getR (idx := 27) (c := 7) (k := 1) (by decide +kernel)
theorem k30_99 : qx sc D 30 99 ls (vr 27 :: st) u bb σ Q ↔ qx sc D 30 102 ls (vr 32 :: st) u bb σ Q := r_getR (idx := 156) (c := 6) (k := 4) (by decide +kernel)
theorem k30_102 : qx sc D 30 102 [l0, vi x, l2, l3, l4, l5, l6] st u bb σ Q ↔ qx sc D 30 103 [l0, vi x, l2, l3, l4, l5, l6] (vi x :: st) u bb σ Q := r_iload_n (k := 1) (by decide +kernel) rfl
theorem k30_103 : qx sc D 30 103 [vr a, l1, l2, l3, l4, l5, l6] st u bb σ Q ↔ qx sc D 30 104 [vr a, l1, l2, l3, l4, l5, l6] (vr a :: st) u bb σ Q := r_aload_n (k := 0) (by decide +kernel) rfl
theorem k30_104 : qx sc D 30 104 ls (vr 39 :: st) u bb σ Q ↔ qx sc D 30 107 ls (vr 9 :: st) u bb σ Q := r_getR (idx := 23) (c := 7) (k := 0) (by decide +kernel)
theorem k30_107 : qx sc D 30 107 ls (vr 9 :: st) u bb σ Q ↔ qx sc D 30 110 ls (vi (σ 9 0) :: st) u bb σ Q := r_getI (idx := 35) (c := 13) (k := 0) (by decide +kernel)
theorem k30_110 : qx sc D 30 110 [l0, l1, l2, l3, vi x, l5, l6] st u bb σ Q ↔ qx sc D 30 112 [l0, l1, l2, l3, vi x, l5, l6] (vi x :: st) u bb σ Q := r_iload (k := 4) (by decide +kernel) rfl
theorem k30_112 : qx sc D 30 112 ls (vi b' :: vi a' :: st) u bb σ Q ↔ q_R (a' - b') ∧ qx sc D 30 113 ls (vi (a' - b') :: st) u bb σ Q := r_isub (by decide +kernel)
theorem k30_113 : qx sc D 30 113 ls (vi x :: vi i :: vr a :: st) u bb σ Q ↔ (q_ty a = 0 ∧ 0 ≤ i ∧ i < q_ln a) ∧ qx sc D 30 114 ls st u bb (q_up σ a i x) Q := r_iast (by decide +kernel)
theorem k30_114 : qx sc D 30 114 [vr a, l1, l2, l3, l4, l5, l6] st u bb σ Q ↔ qx sc D 30 115 [vr a, l1, l2, l3, l4, l5, l6] (vr a :: st) u bb σ Q := r_aload_n (k := 0) (by decide +kernel) rfl
theorem k30_115 : qx sc D 30 115 ls (vr 39 :: st) u bb σ Q ↔ qx sc D 30 118 ls (vr 40 :: st) u bb σ Q := r_getR (idx := 9) (c := 7) (k := 2) (by decide +kernel)
theorem k30_118 : qx sc D 30 118 ls st u bb σ Q ↔ qx sc D 30 119 ls (vi 0 :: st) u bb σ Q := r_iconst (by decide +kernel)
theorem k30_119 : qx sc D 30 119 [vr a, l1, l2, l3, l4, l5, l6] st u bb σ Q ↔ qx sc D 30 120 [vr a, l1, l2, l3, l4, l5, l6] (vr a :: st) u bb σ Q := r_aload_n (k := 0) (by decide +kernel) rfl
theorem k30_120 : qx sc D 30 120 ls (vr 39 :: st) u bb σ Q ↔ qx sc D 30 123 ls (vr 41 :: st) u bb σ Q := r_getR (idx := 17) (c := 7) (k := 3) (by decide +kernel)
theorem k30_123 : qx sc D 30 123 [l0, l1, vi x, l3, l4, l5, l6] st u bb σ Q ↔ qx sc D 30 124 [l0, l1, vi x, l3, l4, l5, l6] (vi x :: st) u bb σ Q := r_iload_n (k := 2) (by decide +kernel) rfl
theorem k30_124 : qx sc D 30 124 ls (vi i :: vr a :: st) u bb σ Q ↔ (q_ty a = 4 ∧ 0 ≤ i ∧ i < q_ln a) ∧ qx sc D 30 125 ls (vr (a + 1 + i.toNat) :: st) u bb σ Q := r_aald (by decide +kernel)
theorem k30_125 : qx sc D 30 125 ls st u bb σ Q ↔ qx sc D 30 126 ls (vi 0 :: st) u bb σ Q := r_iconst (by decide +kernel)
theorem k30_126 : qx sc D 30 126 ls st u bb σ Q ↔ qx sc D 30 128 ls (vi 8 :: st) u bb σ Q := r_bipush (by decide +kernel)
theorem k30_128 : qx sc D 30 128 ls [vi x2, vi x1, vr b, vi x0, vr a] (0, 0) bb σ Q ↔ (q_ty a = 0 ∧ q_ty b = 0 ∧ 0 ≤ x0 ∧ 0 ≤ x1 ∧ 0 ≤ x2 ∧ x0 + x2 ≤ q_ln a ∧ x1 + x2 ≤ q_ln b) ∧ qx sc D 30 131 ls [] (0, 0) bb (q_upf σ b (q_cpy (σ a) (σ b) x0 x1 x2)) Q := r_copy (idx := 122) (y' := 0) (by decide +kernel) (Nat.le_of_ble_eq_true rfl)
theorem k30_131 : qx sc D 30 131 [vr a, l1, l2, l3, l4, l5, l6] st u bb σ Q ↔ qx sc D 30 132 [vr a, l1, l2, l3, l4, l5, l6] (vr a :: st) u bb σ Q := r_aload_n (k := 0) (by decide +kernel) rfl
theorem k30_132 : qx sc D 30 132 [l0, vi x, l2, l3, l4, l5, l6] st u bb σ Q ↔ qx sc D 30 133 [l0, vi x, l2, l3, l4, l5, l6] (vi x :: st) u bb σ Q := r_iload_n (k := 1) (by decide +kernel) rfl
theorem k30_133 : qx sc (D + 1) 30 133 ls [vi x0, vr 39] (0, 0) bb σ Q ↔ qx sc D 23 0 [vr 39, vi x0, vn, vn, vn] [] (0, 0) bb σ (q_kn sc (D + 1) 30 136 ls [] (0, 0) Q) := r_callv (idx := 128) (n := 1) (m := 5) (by decide +kernel) rfl (Nat.le_of_ble_eq_true rfl) ⟨Nat.le_of_ble_eq_true rfl, Nat.le_of_ble_eq_true rfl, rfl⟩ rfl
theorem k30_136 : qx sc D 30 136 [vr a, l1, l2, l3, l4, l5, l6] st u bb σ Q ↔ qx sc D 30 137 [vr a, l1, l2, l3, l4, l5, l6] (vr a :: st) u bb σ Q := r_aload_n (k := 0) (by decide +kernel) rfl
theorem k30_137 : qx sc D 30 137 ls (vr 39 :: st) u bb σ Q ↔ qx sc D 30 140 ls (vr 27 :: st) u bb σ Q := r_getR (idx := 27) (c := 7) (k := 1) (by decide +kernel)
theorem k30_140 : qx sc D 30 140 ls (vr 27 :: st) u bb σ Q ↔ qx sc D 30 143 ls (vr 33 :: st) u bb σ Q := r_getR (idx := 131) (c := 6) (k := 5) (by decide +kernel)
theorem k30_143 : qx sc D 30 143 [l0, vi x, l2, l3, l4, l5, l6] st u bb σ Q ↔ qx sc D 30 144 [l0, vi x, l2, l3, l4, l5, l6] (vi x :: st) u bb σ Q := r_iload_n (k := 1) (by decide +kernel) rfl
theorem k30_144 : qx sc D 30 144 [vr a, l1, l2, l3, l4, l5, l6] st u bb σ Q ↔ qx sc D 30 145 [vr a, l1, l2, l3, l4, l5, l6] (vr a :: st) u bb σ Q := r_aload_n (k := 0) (by decide +kernel) rfl
theorem k30_145 : qx sc D 30 145 [l0, vi x, l2, l3, l4, l5, l6] st u bb σ Q ↔ qx sc D 30 146 [l0, vi x, l2, l3, l4, l5, l6] (vi x :: st) u bb σ Q := r_iload_n (k := 1) (by decide +kernel) rfl
theorem k30_146 : qx sc D 30 146 ls st u bb σ Q ↔ qx sc D 30 147 ls (vi 3 :: st) u bb σ Q := r_iconst (by decide +kernel)
theorem k30_147 : qx sc (D + 1) 30 147 ls [vi x1, vi x0, vr 39, vi x20, vr a21] (0, 0) bb σ Q ↔ qx sc D 25 0 [vr 39, vi x0, vi x1, vn, vn, vn, vn] [] (0, 0) bb σ (q_kn sc (D + 1) 30 150 ls [vi x20, vr a21] (0, 0) Q) := r_callv (idx := 134) (n := 2) (m := 7) (by decide +kernel) rfl (Nat.le_of_ble_eq_true rfl) ⟨Nat.le_of_ble_eq_true rfl, Nat.le_of_ble_eq_true rfl, rfl⟩ rfl
theorem k30_150 : qx sc D 30 150 ls (vi x :: vi i :: vr a :: st) u bb σ Q ↔ (q_ty a = 0 ∧ 0 ≤ i ∧ i < q_ln a) ∧ qx sc D 30 151 ls st u bb (q_up σ a i x) Q := r_iast (by decide +kernel)
theorem k30_151 : qx sc D 30 151 [vr a, l1, l2, l3, l4, l5, l6] st u bb σ Q ↔ qx sc D 30 152 [vr a, l1, l2, l3, l4, l5, l6] (vr a :: st) u bb σ Q := r_aload_n (k := 0) (by decide +kernel) rfl
theorem k30_152 : qx sc D 30 152 [l0, vi x, l2, l3, l4, l5, l6] st u bb σ Q ↔ qx sc D 30 153 [l0, vi x, l2, l3, l4, l5, l6] (vi x :: st) u bb σ Q := r_iload_n (k := 1) (by decide +kernel) rfl
theorem k30_153 : qx sc D 30 153 ls st u bb σ Q ↔ qx sc D 30 154 ls (vi 1 :: st) u bb σ Q := r_iconst (by decide +kernel)
theorem k30_154 : qx sc D 30 154 ls (vi b' :: vi a' :: st) u bb σ Q ↔ q_R (a' + b') ∧ qx sc D 30 155 ls (vi (a' + b') :: st) u bb σ Q := r_iadd (by decide +kernel)
theorem k30_155 : qx sc D 30 155 [vr a, l1, l2, l3, l4, l5, l6] st u bb σ Q ↔ qx sc D 30 156 [vr a, l1, l2, l3, l4, l5, l6] (vr a :: st) u bb σ Q := r_aload_n (k := 0) (by decide +kernel) rfl
theorem k30_156 : qx sc D 30 156 ls (vr 39 :: st) u bb σ Q ↔ 0 ≤ σ 39 5 ∧ qx sc D 30 159 ls (vr (σ 39 5).toNat :: st) u bb σ Q := r_getM (idx := 31) (c := 7) (k := 5) (by decide +kernel)
theorem k30_159 (hc : q_C c) : qx sc D 30 159 ls (vr c :: st) u bb σ Q ↔ qx sc D 30 162 ls (vr (c + 11) :: st) u bb σ Q := r_getRc (idx := 77) (k := 13) (by decide +kernel) hc
theorem k30_162 : qx sc D 30 162 [l0, vi x, l2, l3, l4, l5, l6] st u bb σ Q ↔ qx sc D 30 163 [l0, vi x, l2, l3, l4, l5, l6] (vi x :: st) u bb σ Q := r_iload_n (k := 1) (by decide +kernel) rfl
theorem k30_163 : qx sc D 30 163 ls (vi i :: vr a :: st) u bb σ Q ↔ (q_ty a = 0 ∧ 0 ≤ i ∧ i < q_ln a) ∧ qx sc D 30 164 ls (vi (σ a i) :: st) u bb σ Q := r_iald (by decide +kernel)
theorem k30_164 : qx sc D 30 164 [l0, l1, vi x, l3, l4, l5, l6] st u bb σ Q ↔ qx sc D 30 165 [l0, l1, vi x, l3, l4, l5, l6] (vi x :: st) u bb σ Q := r_iload_n (k := 2) (by decide +kernel) rfl
theorem k30_165 : qx sc D 30 165 ls st u bb σ Q ↔ qx sc D 30 166 ls (vi 1 :: st) u bb σ Q := r_iconst (by decide +kernel)
theorem k30_166 : qx sc D 30 166 ls (vi b' :: vi a' :: st) u bb σ Q ↔ q_R (a' + b') ∧ qx sc D 30 167 ls (vi (a' + b') :: st) u bb σ Q := r_iadd (by decide +kernel)
theorem k30_167 : qx sc (D + 1) 30 167 ls [vi x2, vi x1, vi x0, vr 39] (0, 0) bb σ Q ↔ qx sc D 28 0 [vr 39, vi x0, vi x1, vi x2, vn] [] (0, 0) bb σ (q_kn sc (D + 1) 30 170 ls [] (0, 0) Q) := r_callv (idx := 54) (n := 3) (m := 5) (by decide +kernel) rfl (Nat.le_of_ble_eq_true rfl) ⟨Nat.le_of_ble_eq_true rfl, Nat.le_of_ble_eq_true rfl, rfl⟩ rfl
theorem k30_170 : qx sc D 30 170 [l0, l1, l2, l3, vi x, l5, l6] st u bb σ Q ↔ qx sc D 30 172 [l0, l1, l2, l3, vi x, l5, l6] (vi x :: st) u bb σ Q := r_iload (k := 4) (by decide +kernel) rfl
theorem k30_172 : qx sc D 30 172 [l0, l1, l2, l3, l4, l5, l6] (vi x :: st) u bb σ Q ↔ qx sc D 30 174 [l0, l1, l2, l3, l4, vi x, l6] st u bb σ Q := r_istore (k := 5) (by decide +kernel) (Nat.le_of_ble_eq_true rfl)
theorem k30_174 : qx sc D 30 174 [l0, l1, l2, l3, l4, vi x, l6] st u bb σ Q ↔ qx sc D 30 176 [l0, l1, l2, l3, l4, vi x, l6] (vi x :: st) u bb σ Q := r_iload (k := 5) (by decide +kernel) rfl
theorem k30_176 : qx sc D 30 176 [l0, l1, l2, l3, vi x, l5, l6] st u bb σ Q ↔ qx sc D 30 178 [l0, l1, l2, l3, vi x, l5, l6] (vi x :: st) u bb σ Q := r_iload (k := 4) (by decide +kernel) rfl
theorem k30_178 : qx sc D 30 178 [vr a, l1, l2, l3, l4, l5, l6] st u bb σ Q ↔ qx sc D 30 179 [vr a, l1, l2, l3, l4, l5, l6] (vr a :: st) u bb σ Q := r_aload_n (k := 0) (by decide +kernel) rfl
theorem k30_179 : qx sc D 30 179 ls (vr 39 :: st) u bb σ Q ↔ qx sc D 30 182 ls (vr 27 :: st) u bb σ Q := r_getR (idx := 27) (c := 7) (k := 1) (by decide +kernel)
theorem k30_182 : qx sc D 30 182 ls (vr 27 :: st) u bb σ Q ↔ qx sc D 30 185 ls (vr 32 :: st) u bb σ Q := r_getR (idx := 156) (c := 6) (k := 4) (by decide +kernel)
theorem k30_185 : qx sc D 30 185 [l0, vi x, l2, l3, l4, l5, l6] st u bb σ Q ↔ qx sc D 30 186 [l0, vi x, l2, l3, l4, l5, l6] (vi x :: st) u bb σ Q := r_iload_n (k := 1) (by decide +kernel) rfl
theorem k30_186 : qx sc D 30 186 ls (vi i :: vr a :: st) u bb σ Q ↔ (q_ty a = 0 ∧ 0 ≤ i ∧ i < q_ln a) ∧ qx sc D 30 187 ls (vi (σ a i) :: st) u bb σ Q := r_iald (by decide +kernel)
theorem k30_187 : qx sc D 30 187 ls (vi b' :: vi a' :: st) u bb σ Q ↔ q_R (a' + b') ∧ qx sc D 30 188 ls (vi (a' + b') :: st) u bb σ Q := r_iadd (by decide +kernel)
theorem k30_188 : qx sc D 30 188 ls (vi b' :: vi a' :: st) u bb σ Q ↔ (a' < b' → qx sc D 30 191 ls st u bb σ Q) ∧ (¬ (a' < b') → qx sc D 30 222 ls st u bb σ Q) := r_ic_ge (off := 34) (t := 222) (by decide +kernel)
theorem k30_191 : qx sc D 30 191 [vr a, l1, l2, l3, l4, l5, l6] st u bb σ Q ↔ qx sc D 30 192 [vr a, l1, l2, l3, l4, l5, l6] (vr a :: st) u bb σ Q := r_aload_n (k := 0) (by decide +kernel) rfl
theorem k30_192 : qx sc D 30 192 ls (vr 39 :: st) u bb σ Q ↔ qx sc D 30 195 ls (vr 9 :: st) u bb σ Q := r_getR (idx := 23) (c := 7) (k := 0) (by decide +kernel)
theorem k30_195 : qx sc D 30 195 ls (vr 9 :: st) u bb σ Q ↔ qx sc D 30 198 ls (vr 14 :: st) u bb σ Q := r_getR (idx := 153) (c := 13) (k := 5) (by decide +kernel)
theorem k30_198 : qx sc D 30 198 [l0, l1, l2, l3, l4, vi x, l6] st u bb σ Q ↔ qx sc D 30 200 [l0, l1, l2, l3, l4, vi x, l6] (vi x :: st) u bb σ Q := r_iload (k := 5) (by decide +kernel) rfl
theorem k30_200 : qx sc D 30 200 [vr a, l1, l2, l3, l4, l5, l6] st u bb σ Q ↔ qx sc D 30 201 [vr a, l1, l2, l3, l4, l5, l6] (vr a :: st) u bb σ Q := r_aload_n (k := 0) (by decide +kernel) rfl
theorem k30_201 : qx sc D 30 201 ls (vr 39 :: st) u bb σ Q ↔ qx sc D 30 204 ls (vr 40 :: st) u bb σ Q := r_getR (idx := 9) (c := 7) (k := 2) (by decide +kernel)
theorem k30_204 : qx sc D 30 204 [vr a, l1, l2, l3, l4, l5, l6] st u bb σ Q ↔ qx sc D 30 205 [vr a, l1, l2, l3, l4, l5, l6] (vr a :: st) u bb σ Q := r_aload_n (k := 0) (by decide +kernel) rfl
theorem k30_205 : qx sc D 30 205 ls (vr 39 :: st) u bb σ Q ↔ qx sc D 30 208 ls (vr 9 :: st) u bb σ Q := r_getR (idx := 23) (c := 7) (k := 0) (by decide +kernel)
theorem k30_208 : qx sc D 30 208 ls (vr 9 :: st) u bb σ Q ↔ qx sc D 30 211 ls (vr 10 :: st) u bb σ Q := r_getR (idx := 159) (c := 13) (k := 1) (by decide +kernel)
theorem k30_211 : qx sc D 30 211 [l0, l1, l2, l3, l4, vi x, l6] st u bb σ Q ↔ qx sc D 30 213 [l0, l1, l2, l3, l4, vi x, l6] (vi x :: st) u bb σ Q := r_iload (k := 5) (by decide +kernel) rfl
theorem k30_213 : qx sc D 30 213 ls (vi i :: vr a :: st) u bb σ Q ↔ (q_ty a = 0 ∧ 0 ≤ i ∧ i < q_ln a) ∧ qx sc D 30 214 ls (vi (σ a i) :: st) u bb σ Q := r_iald (by decide +kernel)
theorem k30_214 : qx sc D 30 214 ls (vi i :: vr a :: st) u bb σ Q ↔ (q_ty a = 0 ∧ 0 ≤ i ∧ i < q_ln a) ∧ qx sc D 30 215 ls (vi (σ a i) :: st) u bb σ Q := r_iald (by decide +kernel)
theorem k30_215 : qx sc D 30 215 ls (vi x :: vi i :: vr a :: st) u bb σ Q ↔ (q_ty a = 0 ∧ 0 ≤ i ∧ i < q_ln a) ∧ qx sc D 30 216 ls st u bb (q_up σ a i x) Q := r_iast (by decide +kernel)
theorem k30_216 : qx sc D 30 216 [l0, l1, l2, l3, l4, vi x, l6] st u bb σ Q ↔ q_R (x + 1) ∧ qx sc D 30 219 [l0, l1, l2, l3, l4, vi (x + 1), l6] st u bb σ Q := r_iinc (k := 5) (n := 1) (by decide +kernel) rfl
theorem k30_219 : qx sc D 30 219 ls st u bb σ Q ↔ qx sc D 30 174 ls st u bb σ Q := r_goto (off := (-45)) (by decide +kernel)
theorem k30_222 : qx sc D 30 222 [vr a, l1, l2, l3, l4, l5, l6] st u bb σ Q ↔ qx sc D 30 223 [vr a, l1, l2, l3, l4, l5, l6] (vr a :: st) u bb σ Q := r_aload_n (k := 0) (by decide +kernel) rfl
theorem k30_223 : qx sc D 30 223 ls (vr 39 :: st) u bb σ Q ↔ qx sc D 30 226 ls (vr 41 :: st) u bb σ Q := r_getR (idx := 17) (c := 7) (k := 3) (by decide +kernel)
theorem k30_226 : qx sc D 30 226 [l0, l1, vi x, l3, l4, l5, l6] st u bb σ Q ↔ qx sc D 30 227 [l0, l1, vi x, l3, l4, l5, l6] (vi x :: st) u bb σ Q := r_iload_n (k := 2) (by decide +kernel) rfl
theorem k30_227 : qx sc D 30 227 ls (vi i :: vr a :: st) u bb σ Q ↔ (q_ty a = 4 ∧ 0 ≤ i ∧ i < q_ln a) ∧ qx sc D 30 228 ls (vr (a + 1 + i.toNat) :: st) u bb σ Q := r_aald (by decide +kernel)
theorem k30_228 : qx sc D 30 228 ls st u bb σ Q ↔ qx sc D 30 229 ls (vi 0 :: st) u bb σ Q := r_iconst (by decide +kernel)
theorem k30_229 : qx sc D 30 229 [vr a, l1, l2, l3, l4, l5, l6] st u bb σ Q ↔ qx sc D 30 230 [vr a, l1, l2, l3, l4, l5, l6] (vr a :: st) u bb σ Q := r_aload_n (k := 0) (by decide +kernel) rfl
theorem k30_230 : qx sc D 30 230 ls (vr 39 :: st) u bb σ Q ↔ qx sc D 30 233 ls (vr 40 :: st) u bb σ Q := r_getR (idx := 9) (c := 7) (k := 2) (by decide +kernel)
theorem k30_233 : qx sc D 30 233 ls st u bb σ Q ↔ qx sc D 30 234 ls (vi 0 :: st) u bb σ Q := r_iconst (by decide +kernel)
theorem k30_234 : qx sc D 30 234 ls st u bb σ Q ↔ qx sc D 30 236 ls (vi 8 :: st) u bb σ Q := r_bipush (by decide +kernel)
theorem k30_236 : qx sc D 30 236 ls [vi x2, vi x1, vr b, vi x0, vr a] (0, 0) bb σ Q ↔ (q_ty a = 0 ∧ q_ty b = 0 ∧ 0 ≤ x0 ∧ 0 ≤ x1 ∧ 0 ≤ x2 ∧ x0 + x2 ≤ q_ln a ∧ x1 + x2 ≤ q_ln b) ∧ qx sc D 30 239 ls [] (0, 0) bb (q_upf σ b (q_cpy (σ a) (σ b) x0 x1 x2)) Q := r_copy (idx := 122) (y' := 0) (by decide +kernel) (Nat.le_of_ble_eq_true rfl)
theorem k30_239 : qx sc D 30 239 [vr a, l1, l2, l3, l4, l5, l6] st u bb σ Q ↔ qx sc D 30 240 [vr a, l1, l2, l3, l4, l5, l6] (vr a :: st) u bb σ Q := r_aload_n (k := 0) (by decide +kernel) rfl
theorem k30_240 : qx sc D 30 240 ls (vr 39 :: st) u bb σ Q ↔ qx sc D 30 243 ls (vr 27 :: st) u bb σ Q := r_getR (idx := 27) (c := 7) (k := 1) (by decide +kernel)
theorem k30_243 : qx sc D 30 243 ls (vr 27 :: st) u bb σ Q ↔ qx sc D 30 246 ls (vr 34 :: st) u bb σ Q := r_getR (idx := 140) (c := 6) (k := 6) (by decide +kernel)
theorem k30_246 : qx sc D 30 246 [l0, vi x, l2, l3, l4, l5, l6] st u bb σ Q ↔ qx sc D 30 247 [l0, vi x, l2, l3, l4, l5, l6] (vi x :: st) u bb σ Q := r_iload_n (k := 1) (by decide +kernel) rfl
theorem k30_247 : qx sc D 30 247 [vr a, l1, l2, l3, l4, l5, l6] st u bb σ Q ↔ qx sc D 30 248 [vr a, l1, l2, l3, l4, l5, l6] (vr a :: st) u bb σ Q := r_aload_n (k := 0) (by decide +kernel) rfl
theorem k30_248 : qx sc D 30 248 [l0, vi x, l2, l3, l4, l5, l6] st u bb σ Q ↔ qx sc D 30 249 [l0, vi x, l2, l3, l4, l5, l6] (vi x :: st) u bb σ Q := r_iload_n (k := 1) (by decide +kernel) rfl
theorem k30_249 : qx sc D 30 249 ls st u bb σ Q ↔ qx sc D 30 250 ls (vi 4 :: st) u bb σ Q := r_iconst (by decide +kernel)
theorem k30_250 : qx sc (D + 1) 30 250 ls [vi x1, vi x0, vr 39, vi x20, vr a21] (0, 0) bb σ Q ↔ qx sc D 25 0 [vr 39, vi x0, vi x1, vn, vn, vn, vn] [] (0, 0) bb σ (q_kn sc (D + 1) 30 253 ls [vi x20, vr a21] (0, 0) Q) := r_callv (idx := 134) (n := 2) (m := 7) (by decide +kernel) rfl (Nat.le_of_ble_eq_true rfl) ⟨Nat.le_of_ble_eq_true rfl, Nat.le_of_ble_eq_true rfl, rfl⟩ rfl
theorem k30_253 : qx sc D 30 253 ls (vi x :: vi i :: vr a :: st) u bb σ Q ↔ (q_ty a = 0 ∧ 0 ≤ i ∧ i < q_ln a) ∧ qx sc D 30 254 ls st u bb (q_up σ a i x) Q := r_iast (by decide +kernel)
theorem k30_254 : qx sc D 30 254 ls [] (0, 0) bb σ Q ↔ Q (.inl none) bb σ := r_retV (by decide +kernel)
end K_302_kC
