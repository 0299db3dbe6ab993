section K_304_kE
variable {sc : Nat × (Nat → Int32)} {D : Nat} {ls st : List V2} {u : PU} {bb : Bool} {σ : St} {Q : QP} {x i a' b' x0 x1 x2 x3 x4 x5 x20 x21 x22 x23 x24 : Int} {a b c a0 a1 a2 a3 a4 a20 a21 a22 a23 : Nat} {l0 l1 l2 l3 l4 l5 l6 l7 l8 l9 l10 l11 l12 : V2}
-- 60: RowProver$Runner.answer(I)Z
theorem k60_0 : qx sc D 60 0 [vr a, l1, l2, l3, l4] st u bb σ Q ↔ qx sc D 60 1 [vr a, l1, l2, l3, l4] (vr a :: st) u bb σ Q := r_aload_n (k := 0) (by decide +kernel) rfl
theorem k60_1 : qx sc D 60 1 [l0, vi x, l2, l3, l4] st u bb σ Q ↔ qx sc D 60 2 [l0, vi x, l2, l3, l4] (vi x :: st) u bb σ Q := r_iload_n (k := 1) (by decide +kernel) rfl
theorem k60_2 : qx sc D 60 2 ls st u bb σ Q ↔ qx sc D 60 3 ls (vi 0 :: st) u bb σ Q := r_iconst (by decide +kernel)
theorem k60_3 : qx sc (D + 1) 60 3 ls [vi x1, vi x0, vr 77] (0, 0) bb σ Q ↔ qx sc D 73 0 [vr 77, vi x0, vi x1, vn] [] (0, 0) bb σ (q_kn sc (D + 1) 60 6 ls [] (0, 0) Q) := r_callv (idx := 155) (n := 2) (m := 4) (by decide +kernel) rfl (Nat.le_of_ble_eq_true rfl) ⟨Nat.le_of_ble_eq_true rfl, Nat.le_of_ble_eq_true rfl, rfl⟩ rfl
theorem k60_6 : qx sc D 60 6 [l0, l1, l2, l3, l4] (vi x :: st) u bb σ Q ↔ qx sc D 60 7 [l0, l1, vi x, l3, l4] st u bb σ Q := r_istore_n (k := 2) (by decide +kernel) (Nat.le_of_ble_eq_true rfl)
theorem k60_7 : qx sc D 60 7 [vr a, l1, l2, l3, l4] st u bb σ Q ↔ qx sc D 60 8 [vr a, l1, l2, l3, l4] (vr a :: st) u bb σ Q := r_aload_n (k := 0) (by decide +kernel) rfl
theorem k60_8 : qx sc D 60 8 [l0, vi x, l2, l3, l4] st u bb σ Q ↔ qx sc D 60 9 [l0, vi x, l2, l3, l4] (vi x :: st) u bb σ Q := r_iload_n (k := 1) (by decide +kernel) rfl
theorem k60_9 : qx sc D 60 9 ls st u bb σ Q ↔ qx sc D 60 10 ls (vi 1 :: st) u bb σ Q := r_iconst (by decide +kernel)
theorem k60_10 : qx sc (D + 1) 60 10 ls [vi x1, vi x0, vr 77] (0, 0) bb σ Q ↔ qx sc D 73 0 [vr 77, vi x0, vi x1, vn] [] (0, 0) bb σ (q_kn sc (D + 1) 60 13 ls [] (0, 0) Q) := r_callv (idx := 155) (n := 2) (m := 4) (by decide +kernel) rfl (Nat.le_of_ble_eq_true rfl) ⟨Nat.le_of_ble_eq_true rfl, Nat.le_of_ble_eq_true rfl, rfl⟩ rfl
theorem k60_13 : qx sc D 60 13 [l0, l1, l2, l3, l4] (vi x :: st) u bb σ Q ↔ qx sc D 60 14 [l0, l1, l2, vi x, l4] st u bb σ Q := r_istore_n (k := 3) (by decide +kernel) (Nat.le_of_ble_eq_true rfl)
theorem k60_14 : qx sc D 60 14 [l0, l1, vi x, l3, l4] st u bb σ Q ↔ qx sc D 60 15 [l0, l1, vi x, l3, l4] (vi x :: st) u bb σ Q := r_iload_n (k := 2) (by decide +kernel) rfl
theorem k60_15 : qx sc D 60 15 [l0, l1, l2, vi x, l4] st u bb σ Q ↔ qx sc D 60 16 [l0, l1, l2, vi x, l4] (vi x :: st) u bb σ Q := r_iload_n (k := 3) (by decide +kernel) rfl
theorem k60_16 : qx sc D 60 16 ls (vi b' :: vi a' :: st) u bb σ Q ↔ (a' = b' → qx sc D 60 19 ls st u bb σ Q) ∧ (¬ (a' = b') → qx sc D 60 23 ls st u bb σ Q) := r_ic_ne (off := 7) (t := 23) (by decide +kernel)
theorem k60_19 : qx sc D 60 19 ls st u bb σ Q ↔ qx sc D 60 20 ls (vi 1 :: st) u bb σ Q := r_iconst (by decide +kernel)
theorem k60_20 : qx sc D 60 20 ls st u bb σ Q ↔ qx sc D 60 24 ls st u bb σ Q := r_goto (off := 4) (by decide +kernel)
theorem k60_23 : qx sc D 60 23 ls st u bb σ Q ↔ qx sc D 60 24 ls (vi 0 :: st) u bb σ Q := r_iconst (by decide +kernel)
theorem k60_24 : qx sc D 60 24 [l0, l1, l2, l3, l4] (vi x :: st) u bb σ Q ↔ qx sc D 60 26 [l0, l1, l2, l3, vi x] st u bb σ Q := r_istore (k := 4) (by decide +kernel) (Nat.le_of_ble_eq_true rfl)
theorem k60_26 : qx sc D 60 26 [vr a, l1, l2, l3, l4] st u bb σ Q ↔ qx sc D 60 27 [vr a, l1, l2, l3, l4] (vr a :: st) u bb σ Q := r_aload_n (k := 0) (by decide +kernel) rfl
theorem k60_27 : qx sc D 60 27 ls (vr 77 :: st) u bb σ Q ↔ 0 ≤ σ 77 8 ∧ qx sc D 60 30 ls (vr (σ 77 8).toNat :: st) u bb σ Q := r_getM (idx := 60) (c := 10) (k := 8) (by decide +kernel)
theorem k60_30 (hc : q_C c) : qx sc D 60 30 ls (vr c :: st) u bb σ Q ↔ qx sc D 60 33 ls (vr (c + 16) :: st) u bb σ Q := r_getRc (idx := 158) (k := 18) (by decide +kernel) hc
theorem k60_33 (hc : q_C c) : qx sc D 60 33 ls (vr (c + 16) :: st) u bb σ Q ↔ qx sc D 60 36 ls (vr (c + 17) :: st) u bb σ Q := r_getRt (idx := 162) (k := 0) (j := 1) (by decide +kernel) hc
theorem k60_36 : qx sc D 60 36 [l0, vi x, l2, l3, l4] st u bb σ Q ↔ qx sc D 60 37 [l0, vi x, l2, l3, l4] (vi x :: st) u bb σ Q := r_iload_n (k := 1) (by decide +kernel) rfl
theorem k60_37 : qx sc D 60 37 ls (vi i :: vr a :: st) u bb σ Q ↔ (q_ty a = 0 ∧ 0 ≤ i ∧ i < q_ln a) ∧ qx sc D 60 38 ls (vi (σ a i) :: st) u bb σ Q := r_iald (by decide +kernel)
theorem k60_38 : qx sc D 60 38 ls (vi x :: st) u bb σ Q ↔ (x = 0 → qx sc D 60 41 ls st u bb σ Q) ∧ (¬ (x = 0) → qx sc D 60 56 ls st u bb σ Q) := r_if_ne (off := 18) (t := 56) (by decide +kernel)
theorem k60_41 : qx sc D 60 41 [l0, l1, vi x, l3, l4] st u bb σ Q ↔ qx sc D 60 42 [l0, l1, vi x, l3, l4] (vi x :: st) u bb σ Q := r_iload_n (k := 2) (by decide +kernel) rfl
theorem k60_42 : qx sc D 60 42 [l0, l1, l2, vi x, l4] st u bb σ Q ↔ qx sc D 60 43 [l0, l1, l2, vi x, l4] (vi x :: st) u bb σ Q := r_iload_n (k := 3) (by decide +kernel) rfl
theorem k60_43 : qx sc D 60 43 ls (vi b' :: vi a' :: st) u bb σ Q ↔ (a' < b' → qx sc D 60 46 ls st u bb σ Q) ∧ (¬ (a' < b') → qx sc D 60 50 ls st u bb σ Q) := r_ic_ge (off := 7) (t := 50) (by decide +kernel)
theorem k60_46 : qx sc D 60 46 ls st u bb σ Q ↔ qx sc D 60 47 ls (vi 1 :: st) u bb σ Q := r_iconst (by decide +kernel)
theorem k60_47 : qx sc D 60 47 ls st u bb σ Q ↔ qx sc D 60 51 ls st u bb σ Q := r_goto (off := 4) (by decide +kernel)
theorem k60_50 : qx sc D 60 50 ls st u bb σ Q ↔ qx sc D 60 51 ls (vi 0 :: st) u bb σ Q := r_iconst (by decide +kernel)
theorem k60_51 : qx sc D 60 51 [l0, l1, l2, l3, l4] (vi x :: st) u bb σ Q ↔ qx sc D 60 53 [l0, l1, l2, l3, vi x] st u bb σ Q := r_istore (k := 4) (by decide +kernel) (Nat.le_of_ble_eq_true rfl)
theorem k60_53 : qx sc D 60 53 ls st u bb σ Q ↔ qx sc D 60 84 ls st u bb σ Q := r_goto (off := 31) (by decide +kernel)
theorem k60_56 : qx sc D 60 56 [vr a, l1, l2, l3, l4] st u bb σ Q ↔ qx sc D 60 57 [vr a, l1, l2, l3, l4] (vr a :: st) u bb σ Q := r_aload_n (k := 0) (by decide +kernel) rfl
theorem k60_57 : qx sc D 60 57 ls (vr 77 :: st) u bb σ Q ↔ 0 ≤ σ 77 8 ∧ qx sc D 60 60 ls (vr (σ 77 8).toNat :: st) u bb σ Q := r_getM (idx := 60) (c := 10) (k := 8) (by decide +kernel)
theorem k60_60 (hc : q_C c) : qx sc D 60 60 ls (vr c :: st) u bb σ Q ↔ qx sc D 60 63 ls (vr (c + 16) :: st) u bb σ Q := r_getRc (idx := 158) (k := 18) (by decide +kernel) hc
theorem k60_63 (hc : q_C c) : qx sc D 60 63 ls (vr (c + 16) :: st) u bb σ Q ↔ qx sc D 60 66 ls (vr (c + 17) :: st) u bb σ Q := r_getRt (idx := 162) (k := 0) (j := 1) (by decide +kernel) hc
theorem k60_66 : qx sc D 60 66 [l0, vi x, l2, l3, l4] st u bb σ Q ↔ qx sc D 60 67 [l0, vi x, l2, l3, l4] (vi x :: st) u bb σ Q := r_iload_n (k := 1) (by decide +kernel) rfl
theorem k60_67 : qx sc D 60 67 ls (vi i :: vr a :: st) u bb σ Q ↔ (q_ty a = 0 ∧ 0 ≤ i ∧ i < q_ln a) ∧ qx sc D 60 68 ls (vi (σ a i) :: st) u bb σ Q := r_iald (by decide +kernel)
theorem k60_68 : qx sc D 60 68 ls st u bb σ Q ↔ qx sc D 60 69 ls (vi 1 :: st) u bb σ Q := r_iconst (by decide +kernel)
theorem k60_69 : qx sc D 60 69 ls (vi b' :: vi a' :: st) u bb σ Q ↔ (a' = b' → qx sc D 60 72 ls st u bb σ Q) ∧ (¬ (a' = b') → qx sc D 60 84 ls st u bb σ Q) := r_ic_ne (off := 15) (t := 84) (by decide +kernel)
theorem k60_72 : qx sc D 60 72 [l0, l1, vi x, l3, l4] st u bb σ Q ↔ qx sc D 60 73 [l0, l1, vi x, l3, l4] (vi x :: st) u bb σ Q := r_iload_n (k := 2) (by decide +kernel) rfl
theorem k60_73 : qx sc D 60 73 [l0, l1, l2, vi x, l4] st u bb σ Q ↔ qx sc D 60 74 [l0, l1, l2, vi x, l4] (vi x :: st) u bb σ Q := r_iload_n (k := 3) (by decide +kernel) rfl
theorem k60_74 : qx sc D 60 74 ls (vi b' :: vi a' :: st) u bb σ Q ↔ (b' < a' → qx sc D 60 81 ls st u bb σ Q) ∧ (¬ (b' < a') → qx sc D 60 77 ls st u bb σ Q) := r_ic_gt (off := 7) (t := 81) (by decide +kernel)
theorem k60_77 : qx sc D 60 77 ls st u bb σ Q ↔ qx sc D 60 78 ls (vi 1 :: st) u bb σ Q := r_iconst (by decide +kernel)
theorem k60_78 : qx sc D 60 78 ls st u bb σ Q ↔ qx sc D 60 82 ls st u bb σ Q := r_goto (off := 4) (by decide +kernel)
theorem k60_81 : qx sc D 60 81 ls st u bb σ Q ↔ qx sc D 60 82 ls (vi 0 :: st) u bb σ Q := r_iconst (by decide +kernel)
theorem k60_82 : qx sc D 60 82 [l0, l1, l2, l3, l4] (vi x :: st) u bb σ Q ↔ qx sc D 60 84 [l0, l1, l2, l3, vi x] st u bb σ Q := r_istore (k := 4) (by decide +kernel) (Nat.le_of_ble_eq_true rfl)
theorem k60_84 : qx sc D 60 84 [vr a, l1, l2, l3, l4] st u bb σ Q ↔ qx sc D 60 85 [vr a, l1, l2, l3, l4] (vr a :: st) u bb σ Q := r_aload_n (k := 0) (by decide +kernel) rfl
theorem k60_85 : qx sc D 60 85 [l0, l1, l2, l3, vi x] st u bb σ Q ↔ qx sc D 60 87 [l0, l1, l2, l3, vi x] (vi x :: st) u bb σ Q := r_iload (k := 4) (by decide +kernel) rfl
theorem k60_87 : qx sc D 60 87 ls (vi x :: st) u bb σ Q ↔ (x = 0 → qx sc D 60 102 ls st u bb σ Q) ∧ (¬ (x = 0) → qx sc D 60 90 ls st u bb σ Q) := r_if_eq (off := 15) (t := 102) (by decide +kernel)
theorem k60_90 : qx sc D 60 90 [vr a, l1, l2, l3, l4] st u bb σ Q ↔ qx sc D 60 91 [vr a, l1, l2, l3, l4] (vr a :: st) u bb σ Q := r_aload_n (k := 0) (by decide +kernel) rfl
theorem k60_91 : qx sc D 60 91 ls (vr 77 :: st) u bb σ Q ↔ qx sc D 60 94 ls (vr 27 :: st) u bb σ Q := r_getR (idx := 39) (c := 10) (k := 1) (by decide +kernel)
theorem k60_94 : qx sc D 60 94 ls (vr 27 :: st) u bb σ Q ↔ qx sc D 60 97 ls (vr 33 :: st) u bb σ Q := r_getR (idx := 167) (c := 6) (k := 5) (by decide +kernel)
theorem k60_97 : qx sc D 60 97 [l0, vi x, l2, l3, l4] st u bb σ Q ↔ qx sc D 60 98 [l0, vi x, l2, l3, l4] (vi x :: st) u bb σ Q := r_iload_n (k := 1) (by decide +kernel) rfl
theorem k60_98 : qx sc D 60 98 ls (vi i :: vr a :: st) u bb σ Q ↔ (q_ty a = 0 ∧ 0 ≤ i ∧ i < q_ln a) ∧ qx sc D 60 99 ls (vi (σ a i) :: st) u bb σ Q := r_iald (by decide +kernel)
theorem k60_99 : qx sc D 60 99 ls st u bb σ Q ↔ qx sc D 60 111 ls st u bb σ Q := r_goto (off := 12) (by decide +kernel)
theorem k60_102 : qx sc D 60 102 [vr a, l1, l2, l3, l4] st u bb σ Q ↔ qx sc D 60 103 [vr a, l1, l2, l3, l4] (vr a :: st) u bb σ Q := r_aload_n (k := 0) (by decide +kernel) rfl
theorem k60_103 : qx sc D 60 103 ls (vr 77 :: st) u bb σ Q ↔ qx sc D 60 106 ls (vr 27 :: st) u bb σ Q := r_getR (idx := 39) (c := 10) (k := 1) (by decide +kernel)
theorem k60_106 : qx sc D 60 106 ls (vr 27 :: st) u bb σ Q ↔ qx sc D 60 109 ls (vr 34 :: st) u bb σ Q := r_getR (idx := 170) (c := 6) (k := 6) (by decide +kernel)
theorem k60_109 : qx sc D 60 109 [l0, vi x, l2, l3, l4] st u bb σ Q ↔ qx sc D 60 110 [l0, vi x, l2, l3, l4] (vi x :: st) u bb σ Q := r_iload_n (k := 1) (by decide +kernel) rfl
theorem k60_110 : qx sc D 60 110 ls (vi i :: vr a :: st) u bb σ Q ↔ (q_ty a = 0 ∧ 0 ≤ i ∧ i < q_ln a) ∧ qx sc D 60 111 ls (vi (σ a i) :: st) u bb σ Q := r_iald (by decide +kernel)
theorem k60_111 : qx sc D 60 111 [vr a, l1, l2, l3, l4] st u bb σ Q ↔ qx sc D 60 112 [vr a, l1, l2, l3, l4] (vr a :: st) u bb σ Q := r_aload_n (k := 0) (by decide +kernel) rfl
theorem k60_112 : qx sc D 60 112 ls (vr 77 :: st) u bb σ Q ↔ qx sc D 60 115 ls (vr 27 :: st) u bb σ Q := r_getR (idx := 39) (c := 10) (k := 1) (by decide +kernel)
theorem k60_115 : qx sc D 60 115 ls (vr 27 :: st) u bb σ Q ↔ qx sc D 60 118 ls (vr 35 :: st) u bb σ Q := r_getR (idx := 173) (c := 6) (k := 7) (by decide +kernel)
theorem k60_118 : qx sc D 60 118 [l0, vi x, l2, l3, l4] st u bb σ Q ↔ qx sc D 60 119 [l0, vi x, l2, l3, l4] (vi x :: st) u bb σ Q := r_iload_n (k := 1) (by decide +kernel) rfl
theorem k60_119 : qx sc D 60 119 ls (vi i :: vr a :: st) u bb σ Q ↔ (q_ty a = 0 ∧ 0 ≤ i ∧ i < q_ln a) ∧ qx sc D 60 120 ls (vi (σ a i) :: st) u bb σ Q := r_iald (by decide +kernel)
theorem k60_120 : qx sc (D + 1) 60 120 ls [vi x1, vi x0, vr 77] (0, 0) bb σ Q ↔ qx sc D 70 0 [vr 77, vi x0, vi x1, vn] [] (0, 0) bb σ (q_kn sc (D + 1) 60 123 ls [] (0, 0) Q) := r_callv (idx := 139) (n := 2) (m := 4) (by decide +kernel) rfl (Nat.le_of_ble_eq_true rfl) ⟨Nat.le_of_ble_eq_true rfl, Nat.le_of_ble_eq_true rfl, rfl⟩ rfl
theorem k60_123 : qx sc D 60 123 [l0, l1, l2, l3, vi x] st u bb σ Q ↔ qx sc D 60 125 [l0, l1, l2, l3, vi x] (vi x :: st) u bb σ Q := r_iload (k := 4) (by decide +kernel) rfl
theorem k60_125 : qx sc D 60 125 ls [vi x] (0, 0) bb σ Q ↔ (x = 0 ∨ x = 1) ∧ Q (.inl (some (vi x))) bb σ := r_retB (by decide +kernel)
-- 61: RowProver$Runner.countAhead()V
theorem k61_0 : qx sc D 61 0 [vr a] st u bb σ Q ↔ qx sc D 61 1 [vr a] (vr a :: st) u bb σ Q := r_aload_n (k := 0) (by decide +kernel) rfl
theorem k61_1 : qx sc D 61 1 ls (vr 77 :: st) u bb σ Q ↔ qx sc D 61 4 ls (vr 87 :: st) u bb σ Q := r_getR (idx := 32) (c := 10) (k := 14) (by decide +kernel)
theorem k61_4 : qx sc D 61 4 ls st u bb σ Q ↔ qx sc D 61 5 ls (vi 4 :: st) u bb σ Q := r_iconst (by decide +kernel)
theorem k61_5 : qx sc D 61 5 ls (vi x :: vr a :: st) u bb σ Q ↔ qx sc D 61 6 ls (vi x :: vr a :: vi x :: vr a :: st) u bb σ Q := r_dup2 (by decide +kernel)
theorem k61_6 : qx sc D 61 6 ls (vi i :: vr a :: st) u bb σ Q ↔ (q_ty a = 0 ∧ 0 ≤ i ∧ i < q_ln a) ∧ qx sc D 61 7 ls (vi (σ a i) :: st) u bb σ Q := r_iald (by decide +kernel)
theorem k61_7 : qx sc D 61 7 ls st u bb σ Q ↔ qx sc D 61 8 ls (vi 1 :: st) u bb σ Q := r_iconst (by decide +kernel)
theorem k61_8 : qx sc D 61 8 ls (vi b' :: vi a' :: st) u bb σ Q ↔ q_R (a' + b') ∧ qx sc D 61 9 ls (vi (a' + b') :: st) u bb σ Q := r_iadd (by decide +kernel)
theorem k61_9 : qx sc D 61 9 ls (vi x :: vi i :: vr a :: st) u bb σ Q ↔ (q_ty a = 0 ∧ 0 ≤ i ∧ i < q_ln a) ∧ qx sc D 61 10 ls st u bb (q_up σ a i x) Q := r_iast (by decide +kernel)
theorem k61_10 : qx sc D 61 10 [vr a] st u bb σ Q ↔ qx sc D 61 11 [vr a] (vr a :: st) u bb σ Q := r_aload_n (k := 0) (by decide +kernel) rfl
theorem k61_11 : qx sc D 61 11 ls (vr 77 :: st) u bb σ Q ↔ qx sc D 61 14 ls (vr 87 :: st) u bb σ Q := r_getR (idx := 32) (c := 10) (k := 14) (by decide +kernel)
theorem k61_14 : qx sc D 61 14 ls st u bb σ Q ↔ qx sc D 61 16 ls (vi 6 :: st) u bb σ Q := r_bipush (by decide +kernel)
theorem k61_16 : qx sc D 61 16 ls (vi x :: vr a :: st) u bb σ Q ↔ qx sc D 61 17 ls (vi x :: vr a :: vi x :: vr a :: st) u bb σ Q := r_dup2 (by decide +kernel)
theorem k61_17 : qx sc D 61 17 ls (vi i :: vr a :: st) u bb σ Q ↔ (q_ty a = 0 ∧ 0 ≤ i ∧ i < q_ln a) ∧ qx sc D 61 18 ls (vi (σ a i) :: st) u bb σ Q := r_iald (by decide +kernel)
theorem k61_18 : qx sc D 61 18 ls st u bb σ Q ↔ qx sc D 61 19 ls (vi 1 :: st) u bb σ Q := r_iconst (by decide +kernel)
theorem k61_19 : qx sc D 61 19 ls (vi b' :: vi a' :: st) u bb σ Q ↔ q_R (a' + b') ∧ qx sc D 61 20 ls (vi (a' + b') :: st) u bb σ Q := r_iadd (by decide +kernel)
theorem k61_20 : qx sc D 61 20 ls (vi x :: vi i :: vr a :: st) u bb σ Q ↔ (q_ty a = 0 ∧ 0 ≤ i ∧ i < q_ln a) ∧ qx sc D 61 21 ls st u bb (q_up σ a i x) Q := r_iast (by decide +kernel)
theorem k61_21 : qx sc D 61 21 ls [] (0, 0) bb σ Q ↔ Q (.inl none) bb σ := r_retV (by decide +kernel)
-- 62: RowProver$Runner.countAsked(II)V
theorem k62_0 : qx sc D 62 0 [vr a, l1, l2, l3] st u bb σ Q ↔ qx sc D 62 1 [vr a, l1, l2, l3] (vr a :: st) u bb σ Q := r_aload_n (k := 0) (by decide +kernel) rfl
theorem k62_1 : qx sc D 62 1 ls (vr 77 :: st) u bb σ Q ↔ qx sc D 62 4 ls (vr 72 :: st) u bb σ Q := r_getR (idx := 43) (c := 10) (k := 3) (by decide +kernel)
theorem k62_4 : qx sc D 62 4 ls (vr 72 :: st) u bb σ Q ↔ qx sc D 62 7 ls (vr 73 :: st) u bb σ Q := r_getR (idx := 214) (c := 5) (k := 4) (by decide +kernel)
theorem k62_7 : qx sc D 62 7 [l0, vi x, l2, l3] st u bb σ Q ↔ qx sc D 62 8 [l0, vi x, l2, l3] (vi x :: st) u bb σ Q := r_iload_n (k := 1) (by decide +kernel) rfl
theorem k62_8 : qx sc D 62 8 ls (vi i :: vr a :: st) u bb σ Q ↔ (q_ty a = 0 ∧ 0 ≤ i ∧ i < q_ln a) ∧ qx sc D 62 9 ls (vi (σ a i) :: st) u bb σ Q := r_iald (by decide +kernel)
theorem k62_9 : qx sc D 62 9 [l0, l1, l2, l3] (vi x :: st) u bb σ Q ↔ qx sc D 62 10 [l0, l1, l2, vi x] st u bb σ Q := r_istore_n (k := 3) (by decide +kernel) (Nat.le_of_ble_eq_true rfl)
theorem k62_10 : qx sc D 62 10 [l0, l1, l2, vi x] st u bb σ Q ↔ qx sc D 62 11 [l0, l1, l2, vi x] (vi x :: st) u bb σ Q := r_iload_n (k := 3) (by decide +kernel) rfl
theorem k62_11 : qx sc D 62 11 ls st u bb σ Q ↔ qx sc D 62 12 ls (vi (-1) :: st) u bb σ Q := r_iconst (by decide +kernel)
theorem k62_12 : qx sc D 62 12 ls (vi b' :: vi a' :: st) u bb σ Q ↔ (a' = b' → qx sc D 62 26 ls st u bb σ Q) ∧ (¬ (a' = b') → qx sc D 62 15 ls st u bb σ Q) := r_ic_eq (off := 14) (t := 26) (by decide +kernel)
theorem k62_15 : qx sc D 62 15 [vr a, l1, l2, l3] st u bb σ Q ↔ qx sc D 62 16 [vr a, l1, l2, l3] (vr a :: st) u bb σ Q := r_aload_n (k := 0) (by decide +kernel) rfl
theorem k62_16 : qx sc D 62 16 ls (vr 77 :: st) u bb σ Q ↔ qx sc D 62 19 ls (vr 79 :: st) u bb σ Q := r_getR (idx := 15) (c := 10) (k := 7) (by decide +kernel)
theorem k62_19 : qx sc D 62 19 [l0, l1, l2, vi x] st u bb σ Q ↔ qx sc D 62 20 [l0, l1, l2, vi x] (vi x :: st) u bb σ Q := r_iload_n (k := 3) (by decide +kernel) rfl
theorem k62_20 : qx sc D 62 20 ls (vi i :: vr a :: st) u bb σ Q ↔ (q_ty a = 0 ∧ 0 ≤ i ∧ i < q_ln a) ∧ qx sc D 62 21 ls (vi (σ a i) :: st) u bb σ Q := r_iald (by decide +kernel)
theorem k62_21 : qx sc D 62 21 ls st u bb σ Q ↔ qx sc D 62 22 ls (vi 1 :: st) u bb σ Q := r_iconst (by decide +kernel)
theorem k62_22 : qx sc D 62 22 ls (vi b' :: vi a' :: st) u bb σ Q ↔ (a' = b' → qx sc D 62 25 ls st u bb σ Q) ∧ (¬ (a' = b') → qx sc D 62 26 ls st u bb σ Q) := r_ic_ne (off := 4) (t := 26) (by decide +kernel)
theorem k62_25 : qx sc D 62 25 ls [] (0, 0) bb σ Q ↔ Q (.inl none) bb σ := r_retV (by decide +kernel)
theorem k62_26 : qx sc D 62 26 [vr a, l1, l2, l3] st u bb σ Q ↔ qx sc D 62 27 [vr a, l1, l2, l3] (vr a :: st) u bb σ Q := r_aload_n (k := 0) (by decide +kernel) rfl
theorem k62_27 : qx sc D 62 27 ls (vr 77 :: st) u bb σ Q ↔ qx sc D 62 30 ls (vi (σ 77 9) :: st) u bb σ Q := r_getI (idx := 64) (c := 10) (k := 9) (by decide +kernel)
theorem k62_30 : qx sc D 62 30 ls (vi x :: st) u bb σ Q ↔ (x = 0 → qx sc D 62 47 ls st u bb σ Q) ∧ (¬ (x = 0) → qx sc D 62 33 ls st u bb σ Q) := r_if_eq (off := 17) (t := 47) (by decide +kernel)
theorem k62_33 : qx sc D 62 33 [vr a, l1, l2, l3] st u bb σ Q ↔ qx sc D 62 34 [vr a, l1, l2, l3] (vr a :: st) u bb σ Q := r_aload_n (k := 0) (by decide +kernel) rfl
theorem k62_34 : qx sc D 62 34 ls (vr 77 :: st) u bb σ Q ↔ qx sc D 62 37 ls (vr 66 :: st) u bb σ Q := r_getR (idx := 53) (c := 10) (k := 2) (by decide +kernel)
theorem k62_37 : qx sc D 62 37 ls (vr 66 :: st) u bb σ Q ↔ qx sc D 62 40 ls (vr 69 :: st) u bb σ Q := r_getR (idx := 217) (c := 8) (k := 7) (by decide +kernel)
theorem k62_40 : qx sc D 62 40 ls st u bb σ Q ↔ qx sc D 62 41 ls (vi 1 :: st) u bb σ Q := r_iconst (by decide +kernel)
theorem k62_41 : qx sc D 62 41 ls (vi i :: vr a :: st) u bb σ Q ↔ (q_ty a = 4 ∧ 0 ≤ i ∧ i < q_ln a) ∧ qx sc D 62 42 ls (vr (a + 1 + i.toNat) :: st) u bb σ Q := r_aald (by decide +kernel)
theorem k62_42 : qx sc D 62 42 [l0, vi x, l2, l3] st u bb σ Q ↔ qx sc D 62 43 [l0, vi x, l2, l3] (vi x :: st) u bb σ Q := r_iload_n (k := 1) (by decide +kernel) rfl
theorem k62_43 : qx sc D 62 43 ls (vi i :: vr a :: st) u bb σ Q ↔ (q_ty a = 0 ∧ 0 ≤ i ∧ i < q_ln a) ∧ qx sc D 62 44 ls (vi (σ a i) :: st) u bb σ Q := r_iald (by decide +kernel)
theorem k62_44 : qx sc D 62 44 ls (vi x :: st) u bb σ Q ↔ (x = 0 → qx sc D 62 47 ls st u bb σ Q) ∧ (¬ (x = 0) → qx sc D 62 62 ls st u bb σ Q) := r_if_ne (off := 18) (t := 62) (by decide +kernel)
theorem k62_47 : qx sc D 62 47 [vr a, l1, l2, l3] st u bb σ Q ↔ qx sc D 62 48 [vr a, l1, l2, l3] (vr a :: st) u bb σ Q := r_aload_n (k := 0) (by decide +kernel) rfl
theorem k62_48 : qx sc D 62 48 ls (vr 77 :: st) u bb σ Q ↔ qx sc D 62 51 ls (vr 87 :: st) u bb σ Q := r_getR (idx := 32) (c := 10) (k := 14) (by decide +kernel)
theorem k62_51 : qx sc D 62 51 ls st u bb σ Q ↔ qx sc D 62 52 ls (vi 4 :: st) u bb σ Q := r_iconst (by decide +kernel)
theorem k62_52 : qx sc D 62 52 ls (vi x :: vr a :: st) u bb σ Q ↔ qx sc D 62 53 ls (vi x :: vr a :: vi x :: vr a :: st) u bb σ Q := r_dup2 (by decide +kernel)
theorem k62_53 : qx sc D 62 53 ls (vi i :: vr a :: st) u bb σ Q ↔ (q_ty a = 0 ∧ 0 ≤ i ∧ i < q_ln a) ∧ qx sc D 62 54 ls (vi (σ a i) :: st) u bb σ Q := r_iald (by decide +kernel)
theorem k62_54 : qx sc D 62 54 ls st u bb σ Q ↔ qx sc D 62 55 ls (vi 1 :: st) u bb σ Q := r_iconst (by decide +kernel)
theorem k62_55 : qx sc D 62 55 ls (vi b' :: vi a' :: st) u bb σ Q ↔ q_R (a' + b') ∧ qx sc D 62 56 ls (vi (a' + b') :: st) u bb σ Q := r_iadd (by decide +kernel)
theorem k62_56 : qx sc D 62 56 ls (vi x :: vi i :: vr a :: st) u bb σ Q ↔ (q_ty a = 0 ∧ 0 ≤ i ∧ i < q_ln a) ∧ qx sc D 62 57 ls st u bb (q_up σ a i x) Q := r_iast (by decide +kernel)
theorem k62_57 : qx sc D 62 57 [l0, l1, vi x, l3] st u bb σ Q ↔ qx sc D 62 58 [l0, l1, vi x, l3] (vi x :: st) u bb σ Q := r_iload_n (k := 2) (by decide +kernel) rfl
theorem k62_58 : qx sc D 62 58 ls (vi x :: st) u bb σ Q ↔ (x < 0 → qx sc D 62 61 ls st u bb σ Q) ∧ (¬ (x < 0) → qx sc D 62 62 ls st u bb σ Q) := r_if_ge (off := 4) (t := 62) (by decide +kernel)
theorem k62_61 : qx sc D 62 61 ls [] (0, 0) bb σ Q ↔ Q (.inl none) bb σ := r_retV (by decide +kernel)
theorem k62_62 : qx sc D 62 62 [vr a, l1, l2, l3] st u bb σ Q ↔ qx sc D 62 63 [vr a, l1, l2, l3] (vr a :: st) u bb σ Q := r_aload_n (k := 0) (by decide +kernel) rfl
theorem k62_63 : qx sc D 62 63 ls (vr 77 :: st) u bb σ Q ↔ qx sc D 62 66 ls (vi (σ 77 9) :: st) u bb σ Q := r_getI (idx := 64) (c := 10) (k := 9) (by decide +kernel)
theorem k62_66 : qx sc D 62 66 ls (vi x :: st) u bb σ Q ↔ (x = 0 → qx sc D 62 83 ls st u bb σ Q) ∧ (¬ (x = 0) → qx sc D 62 69 ls st u bb σ Q) := r_if_eq (off := 17) (t := 83) (by decide +kernel)
theorem k62_69 : qx sc D 62 69 [vr a, l1, l2, l3] st u bb σ Q ↔ qx sc D 62 70 [vr a, l1, l2, l3] (vr a :: st) u bb σ Q := r_aload_n (k := 0) (by decide +kernel) rfl
theorem k62_70 : qx sc D 62 70 ls (vr 77 :: st) u bb σ Q ↔ qx sc D 62 73 ls (vr 66 :: st) u bb σ Q := r_getR (idx := 53) (c := 10) (k := 2) (by decide +kernel)
theorem k62_73 : qx sc D 62 73 ls (vr 66 :: st) u bb σ Q ↔ qx sc D 62 76 ls (vr 69 :: st) u bb σ Q := r_getR (idx := 217) (c := 8) (k := 7) (by decide +kernel)
theorem k62_76 : qx sc D 62 76 ls st u bb σ Q ↔ qx sc D 62 77 ls (vi 0 :: st) u bb σ Q := r_iconst (by decide +kernel)
theorem k62_77 : qx sc D 62 77 ls (vi i :: vr a :: st) u bb σ Q ↔ (q_ty a = 4 ∧ 0 ≤ i ∧ i < q_ln a) ∧ qx sc D 62 78 ls (vr (a + 1 + i.toNat) :: st) u bb σ Q := r_aald (by decide +kernel)
theorem k62_78 : qx sc D 62 78 [l0, vi x, l2, l3] st u bb σ Q ↔ qx sc D 62 79 [l0, vi x, l2, l3] (vi x :: st) u bb σ Q := r_iload_n (k := 1) (by decide +kernel) rfl
theorem k62_79 : qx sc D 62 79 ls (vi i :: vr a :: st) u bb σ Q ↔ (q_ty a = 0 ∧ 0 ≤ i ∧ i < q_ln a) ∧ qx sc D 62 80 ls (vi (σ a i) :: st) u bb σ Q := r_iald (by decide +kernel)
theorem k62_80 : qx sc D 62 80 ls (vi x :: st) u bb σ Q ↔ (x = 0 → qx sc D 62 83 ls st u bb σ Q) ∧ (¬ (x = 0) → qx sc D 62 93 ls st u bb σ Q) := r_if_ne (off := 13) (t := 93) (by decide +kernel)
theorem k62_83 : qx sc D 62 83 [vr a, l1, l2, l3] st u bb σ Q ↔ qx sc D 62 84 [vr a, l1, l2, l3] (vr a :: st) u bb σ Q := r_aload_n (k := 0) (by decide +kernel) rfl
theorem k62_84 : qx sc D 62 84 ls (vr 77 :: st) u bb σ Q ↔ qx sc D 62 87 ls (vr 87 :: st) u bb σ Q := r_getR (idx := 32) (c := 10) (k := 14) (by decide +kernel)
theorem k62_87 : qx sc D 62 87 ls st u bb σ Q ↔ qx sc D 62 88 ls (vi 4 :: st) u bb σ Q := r_iconst (by decide +kernel)
theorem k62_88 : qx sc D 62 88 ls (vi x :: vr a :: st) u bb σ Q ↔ qx sc D 62 89 ls (vi x :: vr a :: vi x :: vr a :: st) u bb σ Q := r_dup2 (by decide +kernel)
theorem k62_89 : qx sc D 62 89 ls (vi i :: vr a :: st) u bb σ Q ↔ (q_ty a = 0 ∧ 0 ≤ i ∧ i < q_ln a) ∧ qx sc D 62 90 ls (vi (σ a i) :: st) u bb σ Q := r_iald (by decide +kernel)
theorem k62_90 : qx sc D 62 90 ls st u bb σ Q ↔ qx sc D 62 91 ls (vi 1 :: st) u bb σ Q := r_iconst (by decide +kernel)
theorem k62_91 : qx sc D 62 91 ls (vi b' :: vi a' :: st) u bb σ Q ↔ q_R (a' + b') ∧ qx sc D 62 92 ls (vi (a' + b') :: st) u bb σ Q := r_iadd (by decide +kernel)
theorem k62_92 : qx sc D 62 92 ls (vi x :: vi i :: vr a :: st) u bb σ Q ↔ (q_ty a = 0 ∧ 0 ≤ i ∧ i < q_ln a) ∧ qx sc D 62 93 ls st u bb (q_up σ a i x) Q := r_iast (by decide +kernel)
theorem k62_93 : qx sc D 62 93 ls [] (0, 0) bb σ Q ↔ Q (.inl none) bb σ := r_retV (by decide +kernel)
-- 63: RowProver$Runner.doSimple(I)V
theorem k63_0 : qx sc D 63 0 [vr a, l1, l2] st u bb σ Q ↔ qx sc D 63 1 [vr a, l1, l2] (vr a :: st) u bb σ Q := r_aload_n (k := 0) (by decide +kernel) rfl
theorem k63_1 : qx sc D 63 1 ls (vr 77 :: st) u bb σ Q ↔ 0 ≤ σ 77 8 ∧ qx sc D 63 4 ls (vr (σ 77 8).toNat :: st) u bb σ Q := r_getM (idx := 60) (c := 10) (k := 8) (by decide +kernel)
theorem k63_4 (hc : q_C c) : qx sc D 63 4 ls (vr c :: st) u bb σ Q ↔ qx sc D 63 7 ls (vr (c + 3) :: st) u bb σ Q := r_getRc (idx := 182) (k := 5) (by decide +kernel) hc
theorem k63_7 : qx sc D 63 7 [l0, vi x, l2] st u bb σ Q ↔ qx sc D 63 8 [l0, vi x, l2] (vi x :: st) u bb σ Q := r_iload_n (k := 1) (by decide +kernel) rfl
theorem k63_8 : qx sc D 63 8 ls (vi i :: vr a :: st) u bb σ Q ↔ (q_ty a = 0 ∧ 0 ≤ i ∧ i < q_ln a) ∧ qx sc D 63 9 ls (vi (σ a i) :: st) u bb σ Q := r_iald (by decide +kernel)
theorem k63_9 : qx sc D 63 9 [l0, l1, l2] (vi x :: st) u bb σ Q ↔ qx sc D 63 10 [l0, l1, vi x] st u bb σ Q := r_istore_n (k := 2) (by decide +kernel) (Nat.le_of_ble_eq_true rfl)
theorem k63_10 : qx sc D 63 10 [vr a, l1, l2] st u bb σ Q ↔ qx sc D 63 11 [vr a, l1, l2] (vr a :: st) u bb σ Q := r_aload_n (k := 0) (by decide +kernel) rfl
theorem k63_11 : qx sc D 63 11 ls (vr 77 :: st) u bb σ Q ↔ 0 ≤ σ 77 8 ∧ qx sc D 63 14 ls (vr (σ 77 8).toNat :: st) u bb σ Q := r_getM (idx := 60) (c := 10) (k := 8) (by decide +kernel)
theorem k63_14 (hc : q_C c) : qx sc D 63 14 ls (vr c :: st) u bb σ Q ↔ qx sc D 63 17 ls (vr (c + 2) :: st) u bb σ Q := r_getRc (idx := 100) (k := 4) (by decide +kernel) hc
theorem k63_17 : qx sc D 63 17 [l0, vi x, l2] st u bb σ Q ↔ qx sc D 63 18 [l0, vi x, l2] (vi x :: st) u bb σ Q := r_iload_n (k := 1) (by decide +kernel) rfl
theorem k63_18 : qx sc D 63 18 ls (vi i :: vr a :: st) u bb σ Q ↔ (q_ty a = 0 ∧ 0 ≤ i ∧ i < q_ln a) ∧ qx sc D 63 19 ls (vi (σ a i) :: st) u bb σ Q := r_iald (by decide +kernel)
theorem k63_19 : qx sc D 63 19 ls (vi x :: st) u bb σ Q ↔ (x = 0 → qx sc D 63 22 ls st u bb σ Q) ∧ (¬ (x = 0) → qx sc D 63 56 ls st u bb σ Q) := r_if_ne (off := 37) (t := 56) (by decide +kernel)
theorem k63_22 : qx sc D 63 22 [vr a, l1, l2] st u bb σ Q ↔ qx sc D 63 23 [vr a, l1, l2] (vr a :: st) u bb σ Q := r_aload_n (k := 0) (by decide +kernel) rfl
theorem k63_23 : qx sc D 63 23 ls (vr 77 :: st) u bb σ Q ↔ qx sc D 63 26 ls (vr 78 :: st) u bb σ Q := r_getR (idx := 9) (c := 10) (k := 6) (by decide +kernel)
theorem k63_26 : qx sc D 63 26 [l0, l1, vi x] st u bb σ Q ↔ qx sc D 63 27 [l0, l1, vi x] (vi x :: st) u bb σ Q := r_iload_n (k := 2) (by decide +kernel) rfl
theorem k63_27 : qx sc D 63 27 [vr a, l1, l2] st u bb σ Q ↔ qx sc D 63 28 [vr a, l1, l2] (vr a :: st) u bb σ Q := r_aload_n (k := 0) (by decide +kernel) rfl
theorem k63_28 : qx sc D 63 28 [l0, vi x, l2] st u bb σ Q ↔ qx sc D 63 29 [l0, vi x, l2] (vi x :: st) u bb σ Q := r_iload_n (k := 1) (by decide +kernel) rfl
theorem k63_29 : qx sc (D + 1) 63 29 ls [vi x0, vr 77, vi x20, vr a21] (0, 0) bb σ Q ↔ qx sc D 75 0 [vr 77, vi x0, vn] [] (0, 0) bb σ (q_kn sc (D + 1) 63 32 ls [vi x20, vr a21] (0, 0) Q) := r_callv (idx := 183) (n := 1) (m := 3) (by decide +kernel) rfl (Nat.le_of_ble_eq_true rfl) ⟨Nat.le_of_ble_eq_true rfl, Nat.le_of_ble_eq_true rfl, rfl⟩ rfl
theorem k63_32 : qx sc D 63 32 ls (vi x :: vi i :: vr a :: st) u bb σ Q ↔ (q_ty a = 0 ∧ 0 ≤ i ∧ i < q_ln a) ∧ qx sc D 63 33 ls st u bb (q_up σ a i x) Q := r_iast (by decide +kernel)
theorem k63_33 : qx sc D 63 33 [vr a, l1, l2] st u bb σ Q ↔ qx sc D 63 34 [vr a, l1, l2] (vr a :: st) u bb σ Q := r_aload_n (k := 0) (by decide +kernel) rfl
theorem k63_34 : qx sc D 63 34 ls (vr 77 :: st) u bb σ Q ↔ qx sc D 63 37 ls (vr 80 :: st) u bb σ Q := r_getR (idx := 18) (c := 10) (k := 10) (by decide +kernel)
theorem k63_37 : qx sc D 63 37 [vr a, l1, l2] st u bb σ Q ↔ qx sc D 63 38 [vr a, l1, l2] (vr a :: st) u bb σ Q := r_aload_n (k := 0) (by decide +kernel) rfl
theorem k63_38 : qx sc D 63 38 ls (vr 77 :: st) u bb σ Q ↔ qx sc D 63 41 ls (vr 27 :: st) u bb σ Q := r_getR (idx := 39) (c := 10) (k := 1) (by decide +kernel)
theorem k63_41 : qx sc D 63 41 ls (vr 27 :: st) u bb σ Q ↔ qx sc D 63 44 ls (vr 30 :: st) u bb σ Q := r_getR (idx := 187) (c := 6) (k := 2) (by decide +kernel)
theorem k63_44 : qx sc D 63 44 [l0, vi x, l2] st u bb σ Q ↔ qx sc D 63 45 [l0, vi x, l2] (vi x :: st) u bb σ Q := r_iload_n (k := 1) (by decide +kernel) rfl
theorem k63_45 : qx sc D 63 45 ls (vi i :: vr a :: st) u bb σ Q ↔ (q_ty a = 0 ∧ 0 ≤ i ∧ i < q_ln a) ∧ qx sc D 63 46 ls (vi (σ a i) :: st) u bb σ Q := r_iald (by decide +kernel)
theorem k63_46 : qx sc D 63 46 [vr a, l1, l2] st u bb σ Q ↔ qx sc D 63 47 [vr a, l1, l2] (vr a :: st) u bb σ Q := r_aload_n (k := 0) (by decide +kernel) rfl
theorem k63_47 : qx sc D 63 47 ls (vr 77 :: st) u bb σ Q ↔ qx sc D 63 50 ls (vr 78 :: st) u bb σ Q := r_getR (idx := 9) (c := 10) (k := 6) (by decide +kernel)
theorem k63_50 : qx sc D 63 50 [l0, l1, vi x] st u bb σ Q ↔ qx sc D 63 51 [l0, l1, vi x] (vi x :: st) u bb σ Q := r_iload_n (k := 2) (by decide +kernel) rfl
theorem k63_51 : qx sc D 63 51 ls (vi i :: vr a :: st) u bb σ Q ↔ (q_ty a = 0 ∧ 0 ≤ i ∧ i < q_ln a) ∧ qx sc D 63 52 ls (vi (σ a i) :: st) u bb σ Q := r_iald (by decide +kernel)
theorem k63_52 : qx sc D 63 52 ls (vi x :: vi i :: vr a :: st) u bb σ Q ↔ (q_ty a = 0 ∧ 0 ≤ i ∧ i < q_ln a) ∧ qx sc D 63 53 ls st u bb (q_up σ a i x) Q := r_iast (by decide +kernel)
theorem k63_53 : qx sc D 63 53 ls st u bb σ Q ↔ qx sc D 63 154 ls st u bb σ Q := r_goto (off := 101) (by decide +kernel)
theorem k63_56 : qx sc D 63 56 [vr a, l1, l2] st u bb σ Q ↔ qx sc D 63 57 [vr a, l1, l2] (vr a :: st) u bb σ Q := r_aload_n (k := 0) (by decide +kernel) rfl
theorem k63_57 : qx sc D 63 57 ls (vr 77 :: st) u bb σ Q ↔ 0 ≤ σ 77 8 ∧ qx sc D 63 60 ls (vr (σ 77 8).toNat :: st) u bb σ Q := r_getM (idx := 60) (c := 10) (k := 8) (by decide +kernel)
theorem k63_60 (hc : q_C c) : qx sc D 63 60 ls (vr c :: st) u bb σ Q ↔ qx sc D 63 63 ls (vr (c + 2) :: st) u bb σ Q := r_getRc (idx := 100) (k := 4) (by decide +kernel) hc
theorem k63_63 : qx sc D 63 63 [l0, vi x, l2] st u bb σ Q ↔ qx sc D 63 64 [l0, vi x, l2] (vi x :: st) u bb σ Q := r_iload_n (k := 1) (by decide +kernel) rfl
theorem k63_64 : qx sc D 63 64 ls (vi i :: vr a :: st) u bb σ Q ↔ (q_ty a = 0 ∧ 0 ≤ i ∧ i < q_ln a) ∧ qx sc D 63 65 ls (vi (σ a i) :: st) u bb σ Q := r_iald (by decide +kernel)
theorem k63_65 : qx sc D 63 65 ls st u bb σ Q ↔ qx sc D 63 66 ls (vi 1 :: st) u bb σ Q := r_iconst (by decide +kernel)
theorem k63_66 : qx sc D 63 66 ls (vi b' :: vi a' :: st) u bb σ Q ↔ (a' = b' → qx sc D 63 69 ls st u bb σ Q) ∧ (¬ (a' = b') → qx sc D 63 115 ls st u bb σ Q) := r_ic_ne (off := 49) (t := 115) (by decide +kernel)
theorem k63_69 : qx sc D 63 69 [vr a, l1, l2] st u bb σ Q ↔ qx sc D 63 70 [vr a, l1, l2] (vr a :: st) u bb σ Q := r_aload_n (k := 0) (by decide +kernel) rfl
theorem k63_70 : qx sc D 63 70 ls (vr 77 :: st) u bb σ Q ↔ qx sc D 63 73 ls (vr 81 :: st) u bb σ Q := r_getR (idx := 23) (c := 10) (k := 11) (by decide +kernel)
theorem k63_73 : qx sc D 63 73 [vr a, l1, l2] st u bb σ Q ↔ qx sc D 63 74 [vr a, l1, l2] (vr a :: st) u bb σ Q := r_aload_n (k := 0) (by decide +kernel) rfl
theorem k63_74 : qx sc D 63 74 ls (vr 77 :: st) u bb σ Q ↔ 0 ≤ σ 77 8 ∧ qx sc D 63 77 ls (vr (σ 77 8).toNat :: st) u bb σ Q := r_getM (idx := 60) (c := 10) (k := 8) (by decide +kernel)
theorem k63_77 (hc : q_C c) : qx sc D 63 77 ls (vr c :: st) u bb σ Q ↔ qx sc D 63 80 ls (vr (c + 13) :: st) u bb σ Q := r_getRc (idx := 190) (k := 15) (by decide +kernel) hc
theorem k63_80 : qx sc D 63 80 [vr a, l1, l2] st u bb σ Q ↔ qx sc D 63 81 [vr a, l1, l2] (vr a :: st) u bb σ Q := r_aload_n (k := 0) (by decide +kernel) rfl
theorem k63_81 : qx sc D 63 81 ls (vr 77 :: st) u bb σ Q ↔ 0 ≤ σ 77 8 ∧ qx sc D 63 84 ls (vr (σ 77 8).toNat :: st) u bb σ Q := r_getM (idx := 60) (c := 10) (k := 8) (by decide +kernel)
theorem k63_84 (hc : q_C c) : qx sc D 63 84 ls (vr c :: st) u bb σ Q ↔ qx sc D 63 87 ls (vr (c + 7) :: st) u bb σ Q := r_getRc (idx := 193) (k := 9) (by decide +kernel) hc
theorem k63_87 : qx sc D 63 87 [l0, vi x, l2] st u bb σ Q ↔ qx sc D 63 88 [l0, vi x, l2] (vi x :: st) u bb σ Q := r_iload_n (k := 1) (by decide +kernel) rfl
theorem k63_88 : qx sc D 63 88 ls (vi i :: vr a :: st) u bb σ Q ↔ (q_ty a = 0 ∧ 0 ≤ i ∧ i < q_ln a) ∧ qx sc D 63 89 ls (vi (σ a i) :: st) u bb σ Q := r_iald (by decide +kernel)
theorem k63_89 : qx sc D 63 89 ls (vi i :: vr a :: st) u bb σ Q ↔ (q_ty a = 0 ∧ 0 ≤ i ∧ i < q_ln a) ∧ qx sc D 63 90 ls (vi (σ a i) :: st) u bb σ Q := r_iald (by decide +kernel)
theorem k63_90 : qx sc D 63 90 ls (vi i :: vr a :: st) u bb σ Q ↔ (q_ty a = 4 ∧ 0 ≤ i ∧ i < q_ln a) ∧ qx sc D 63 91 ls (vr (a + 1 + i.toNat) :: st) u bb σ Q := r_aald (by decide +kernel)
theorem k63_91 : qx sc D 63 91 [vr a, l1, l2] st u bb σ Q ↔ qx sc D 63 92 [vr a, l1, l2] (vr a :: st) u bb σ Q := r_aload_n (k := 0) (by decide +kernel) rfl
theorem k63_92 : qx sc D 63 92 ls (vr 77 :: st) u bb σ Q ↔ qx sc D 63 95 ls (vr 78 :: st) u bb σ Q := r_getR (idx := 9) (c := 10) (k := 6) (by decide +kernel)
theorem k63_95 : qx sc D 63 95 [l0, l1, vi x] st u bb σ Q ↔ qx sc D 63 96 [l0, l1, vi x] (vi x :: st) u bb σ Q := r_iload_n (k := 2) (by decide +kernel) rfl
theorem k63_96 : qx sc D 63 96 ls (vi i :: vr a :: st) u bb σ Q ↔ (q_ty a = 0 ∧ 0 ≤ i ∧ i < q_ln a) ∧ qx sc D 63 97 ls (vi (σ a i) :: st) u bb σ Q := r_iald (by decide +kernel)
theorem k63_97 : qx sc D 63 97 [vr a, l1, l2] st u bb σ Q ↔ qx sc D 63 98 [vr a, l1, l2] (vr a :: st) u bb σ Q := r_aload_n (k := 0) (by decide +kernel) rfl
theorem k63_98 : qx sc D 63 98 ls (vr 77 :: st) u bb σ Q ↔ qx sc D 63 101 ls (vr 78 :: st) u bb σ Q := r_getR (idx := 9) (c := 10) (k := 6) (by decide +kernel)
theorem k63_101 : qx sc D 63 101 [vr a, l1, l2] st u bb σ Q ↔ qx sc D 63 102 [vr a, l1, l2] (vr a :: st) u bb σ Q := r_aload_n (k := 0) (by decide +kernel) rfl
theorem k63_102 : qx sc D 63 102 ls (vr 77 :: st) u bb σ Q ↔ 0 ≤ σ 77 8 ∧ qx sc D 63 105 ls (vr (σ 77 8).toNat :: st) u bb σ Q := r_getM (idx := 60) (c := 10) (k := 8) (by decide +kernel)
theorem k63_105 (hc : q_C c) : qx sc D 63 105 ls (vr c :: st) u bb σ Q ↔ qx sc D 63 108 ls (vr (c + 5) :: st) u bb σ Q := r_getRc (idx := 196) (k := 7) (by decide +kernel) hc
theorem k63_108 : qx sc D 63 108 [l0, vi x, l2] st u bb σ Q ↔ qx sc D 63 109 [l0, vi x, l2] (vi x :: st) u bb σ Q := r_iload_n (k := 1) (by decide +kernel) rfl
theorem k63_109 : qx sc D 63 109 ls (vi i :: vr a :: st) u bb σ Q ↔ (q_ty a = 0 ∧ 0 ≤ i ∧ i < q_ln a) ∧ qx sc D 63 110 ls (vi (σ a i) :: st) u bb σ Q := r_iald (by decide +kernel)
theorem k63_110 : qx sc D 63 110 ls (vi i :: vr a :: st) u bb σ Q ↔ (q_ty a = 0 ∧ 0 ≤ i ∧ i < q_ln a) ∧ qx sc D 63 111 ls (vi (σ a i) :: st) u bb σ Q := r_iald (by decide +kernel)
theorem k63_111 : qx sc D 63 111 ls (vi x :: vi i :: vr a :: st) u bb σ Q ↔ (q_ty a = 0 ∧ 0 ≤ i ∧ i < q_ln a) ∧ qx sc D 63 112 ls st u bb (q_up σ a i x) Q := r_iast (by decide +kernel)
theorem k63_112 : qx sc D 63 112 ls st u bb σ Q ↔ qx sc D 63 154 ls st u bb σ Q := r_goto (off := 42) (by decide +kernel)
theorem k63_115 : qx sc D 63 115 [vr a, l1, l2] st u bb σ Q ↔ qx sc D 63 116 [vr a, l1, l2] (vr a :: st) u bb σ Q := r_aload_n (k := 0) (by decide +kernel) rfl
theorem k63_116 : qx sc D 63 116 ls (vr 77 :: st) u bb σ Q ↔ qx sc D 63 119 ls (vr 87 :: st) u bb σ Q := r_getR (idx := 32) (c := 10) (k := 14) (by decide +kernel)
theorem k63_119 : qx sc D 63 119 ls st u bb σ Q ↔ qx sc D 63 120 ls (vi 3 :: st) u bb σ Q := r_iconst (by decide +kernel)
theorem k63_120 : qx sc D 63 120 ls (vi i :: vr a :: st) u bb σ Q ↔ (q_ty a = 0 ∧ 0 ≤ i ∧ i < q_ln a) ∧ qx sc D 63 121 ls (vi (σ a i) :: st) u bb σ Q := r_iald (by decide +kernel)
theorem k63_121 : qx sc D 63 121 ls st u bb σ Q ↔ qx sc D 63 124 ls (vi 300 :: st) u bb σ Q := r_sipush (by decide +kernel)
theorem k63_124 : qx sc D 63 124 ls (vi b' :: vi a' :: st) u bb σ Q ↔ (a' < b' → qx sc D 63 127 ls st u bb σ Q) ∧ (¬ (a' < b') → qx sc D 63 154 ls st u bb σ Q) := r_ic_ge (off := 30) (t := 154) (by decide +kernel)
theorem k63_127 : qx sc D 63 127 [vr a, l1, l2] st u bb σ Q ↔ qx sc D 63 128 [vr a, l1, l2] (vr a :: st) u bb σ Q := r_aload_n (k := 0) (by decide +kernel) rfl
theorem k63_128 : qx sc D 63 128 ls (vr 77 :: st) u bb σ Q ↔ qx sc D 63 131 ls (vr 86 :: st) u bb σ Q := r_getR (idx := 29) (c := 10) (k := 13) (by decide +kernel)
theorem k63_131 : qx sc D 63 131 [vr a, l1, l2] st u bb σ Q ↔ qx sc D 63 132 [vr a, l1, l2] (vr a :: st) u bb σ Q := r_aload_n (k := 0) (by decide +kernel) rfl
theorem k63_132 : qx sc D 63 132 ls (vr 77 :: st) u bb σ Q ↔ qx sc D 63 135 ls (vr 87 :: st) u bb σ Q := r_getR (idx := 32) (c := 10) (k := 14) (by decide +kernel)
theorem k63_135 : qx sc D 63 135 ls st u bb σ Q ↔ qx sc D 63 136 ls (vi 3 :: st) u bb σ Q := r_iconst (by decide +kernel)
theorem k63_136 : qx sc D 63 136 ls (vi i :: vr a :: st) u bb σ Q ↔ (q_ty a = 0 ∧ 0 ≤ i ∧ i < q_ln a) ∧ qx sc D 63 137 ls (vi (σ a i) :: st) u bb σ Q := r_iald (by decide +kernel)
theorem k63_137 : qx sc D 63 137 [vr a, l1, l2] st u bb σ Q ↔ qx sc D 63 138 [vr a, l1, l2] (vr a :: st) u bb σ Q := r_aload_n (k := 0) (by decide +kernel) rfl
theorem k63_138 : qx sc D 63 138 ls (vr 77 :: st) u bb σ Q ↔ qx sc D 63 141 ls (vr 78 :: st) u bb σ Q := r_getR (idx := 9) (c := 10) (k := 6) (by decide +kernel)
theorem k63_141 : qx sc D 63 141 [l0, l1, vi x] st u bb σ Q ↔ qx sc D 63 142 [l0, l1, vi x] (vi x :: st) u bb σ Q := r_iload_n (k := 2) (by decide +kernel) rfl
theorem k63_142 : qx sc D 63 142 ls (vi i :: vr a :: st) u bb σ Q ↔ (q_ty a = 0 ∧ 0 ≤ i ∧ i < q_ln a) ∧ qx sc D 63 143 ls (vi (σ a i) :: st) u bb σ Q := r_iald (by decide +kernel)
theorem k63_143 : qx sc D 63 143 ls (vi x :: vi i :: vr a :: st) u bb σ Q ↔ (q_ty a = 0 ∧ 0 ≤ i ∧ i < q_ln a) ∧ qx sc D 63 144 ls st u bb (q_up σ a i x) Q := r_iast (by decide +kernel)
theorem k63_144 : qx sc D 63 144 [vr a, l1, l2] st u bb σ Q ↔ qx sc D 63 145 [vr a, l1, l2] (vr a :: st) u bb σ Q := r_aload_n (k := 0) (by decide +kernel) rfl
theorem k63_145 : qx sc D 63 145 ls (vr 77 :: st) u bb σ Q ↔ qx sc D 63 148 ls (vr 87 :: st) u bb σ Q := r_getR (idx := 32) (c := 10) (k := 14) (by decide +kernel)
theorem k63_148 : qx sc D 63 148 ls st u bb σ Q ↔ qx sc D 63 149 ls (vi 3 :: st) u bb σ Q := r_iconst (by decide +kernel)
theorem k63_149 : qx sc D 63 149 ls (vi x :: vr a :: st) u bb σ Q ↔ qx sc D 63 150 ls (vi x :: vr a :: vi x :: vr a :: st) u bb σ Q := r_dup2 (by decide +kernel)
theorem k63_150 : qx sc D 63 150 ls (vi i :: vr a :: st) u bb σ Q ↔ (q_ty a = 0 ∧ 0 ≤ i ∧ i < q_ln a) ∧ qx sc D 63 151 ls (vi (σ a i) :: st) u bb σ Q := r_iald (by decide +kernel)
theorem k63_151 : qx sc D 63 151 ls st u bb σ Q ↔ qx sc D 63 152 ls (vi 1 :: st) u bb σ Q := r_iconst (by decide +kernel)
theorem k63_152 : qx sc D 63 152 ls (vi b' :: vi a' :: st) u bb σ Q ↔ q_R (a' + b') ∧ qx sc D 63 153 ls (vi (a' + b') :: st) u bb σ Q := r_iadd (by decide +kernel)
theorem k63_153 : qx sc D 63 153 ls (vi x :: vi i :: vr a :: st) u bb σ Q ↔ (q_ty a = 0 ∧ 0 ≤ i ∧ i < q_ln a) ∧ qx sc D 63 154 ls st u bb (q_up σ a i x) Q := r_iast (by decide +kernel)
theorem k63_154 : qx sc D 63 154 ls [] (0, 0) bb σ Q ↔ Q (.inl none) bb σ := r_retV (by decide +kernel)
-- 64: RowProver$Runner.go(III)Z
theorem k64_0 : qx sc D 64 0 [l0, l1, l2, vi x, l4, l5] st u bb σ Q ↔ qx sc D 64 1 [l0, l1, l2, vi x, l4, l5] (vi x :: st) u bb σ Q := r_iload_n (k := 3) (by decide +kernel) rfl
theorem k64_1 : qx sc D 64 1 ls st u bb σ Q ↔ qx sc D 64 2 ls (vi 5 :: st) u bb σ Q := r_iconst (by decide +kernel)
theorem k64_2 : qx sc D 64 2 ls (vi b' :: vi a' :: st) u bb σ Q ↔ (b' < a' → qx sc D 64 5 ls st u bb σ Q) ∧ (¬ (b' < a') → qx sc D 64 7 ls st u bb σ Q) := r_ic_le (off := 5) (t := 7) (by decide +kernel)
theorem k64_5 : qx sc D 64 5 ls st u bb σ Q ↔ qx sc D 64 6 ls (vi 0 :: st) u bb σ Q := r_iconst (by decide +kernel)
theorem k64_6 : qx sc D 64 6 ls [vi x] (0, 0) bb σ Q ↔ (x = 0 ∨ x = 1) ∧ Q (.inl (some (vi x))) bb σ := r_retB (by decide +kernel)
theorem k64_7 : qx sc D 64 7 ls st u bb σ Q ↔ qx sc D 64 8 ls (vi 1 :: st) u bb σ Q := r_iconst (by decide +kernel)
theorem k64_8 : qx sc D 64 8 [l0, l1, l2, l3, l4, l5] (vi x :: st) u bb σ Q ↔ qx sc D 64 10 [l0, l1, l2, l3, vi x, l5] st u bb σ Q := r_istore (k := 4) (by decide +kernel) (Nat.le_of_ble_eq_true rfl)
theorem k64_10 : qx sc D 64 10 [l0, vi x, l2, l3, l4, l5] st u bb σ Q ↔ qx sc D 64 11 [l0, vi x, l2, l3, l4, l5] (vi x :: st) u bb σ Q := r_iload_n (k := 1) (by decide +kernel) rfl
theorem k64_11 : qx sc D 64 11 [l0, l1, l2, l3, l4, l5] (vi x :: st) u bb σ Q ↔ qx sc D 64 13 [l0, l1, l2, l3, l4, vi x] st u bb σ Q := r_istore (k := 5) (by decide +kernel) (Nat.le_of_ble_eq_true rfl)
theorem k64_13 : qx sc D 64 13 [l0, l1, l2, l3, vi x, l5] st u bb σ Q ↔ qx sc D 64 15 [l0, l1, l2, l3, vi x, l5] (vi x :: st) u bb σ Q := r_iload (k := 4) (by decide +kernel) rfl
theorem k64_15 : qx sc D 64 15 ls (vi x :: st) u bb σ Q ↔ (x = 0 → qx sc D 64 126 ls st u bb σ Q) ∧ (¬ (x = 0) → qx sc D 64 18 ls st u bb σ Q) := r_if_eq (off := 111) (t := 126) (by decide +kernel)
theorem k64_18 : qx sc D 64 18 [l0, l1, l2, l3, l4, vi x] st u bb σ Q ↔ qx sc D 64 20 [l0, l1, l2, l3, l4, vi x] (vi x :: st) u bb σ Q := r_iload (k := 5) (by decide +kernel) rfl
theorem k64_20 : qx sc D 64 20 [l0, l1, vi x, l3, l4, l5] st u bb σ Q ↔ qx sc D 64 21 [l0, l1, vi x, l3, l4, l5] (vi x :: st) u bb σ Q := r_iload_n (k := 2) (by decide +kernel) rfl
theorem k64_21 : qx sc D 64 21 ls (vi b' :: vi a' :: st) u bb σ Q ↔ (a' < b' → qx sc D 64 24 ls st u bb σ Q) ∧ (¬ (a' < b') → qx sc D 64 126 ls st u bb σ Q) := r_ic_ge (off := 105) (t := 126) (by decide +kernel)
theorem k64_24 : qx sc D 64 24 [vr a, l1, l2, l3, l4, l5] st u bb σ Q ↔ qx sc D 64 25 [vr a, l1, l2, l3, l4, l5] (vr a :: st) u bb σ Q := r_aload_n (k := 0) (by decide +kernel) rfl
theorem k64_25 : qx sc D 64 25 ls (vr 77 :: st) u bb σ Q ↔ 0 ≤ σ 77 8 ∧ qx sc D 64 28 ls (vr (σ 77 8).toNat :: st) u bb σ Q := r_getM (idx := 60) (c := 10) (k := 8) (by decide +kernel)
theorem k64_28 (hc : q_C c) : qx sc D 64 28 ls (vr c :: st) u bb σ Q ↔ qx sc D 64 31 ls (vr (c + 2) :: st) u bb σ Q := r_getRc (idx := 100) (k := 4) (by decide +kernel) hc
theorem k64_31 : qx sc D 64 31 [l0, l1, l2, l3, l4, vi x] st u bb σ Q ↔ qx sc D 64 33 [l0, l1, l2, l3, l4, vi x] (vi x :: st) u bb σ Q := r_iload (k := 5) (by decide +kernel) rfl
theorem k64_33 : qx sc D 64 33 ls (vi i :: vr a :: st) u bb σ Q ↔ (q_ty a = 0 ∧ 0 ≤ i ∧ i < q_ln a) ∧ qx sc D 64 34 ls (vi (σ a i) :: st) u bb σ Q := r_iald (by decide +kernel)
theorem k64_34 : qx sc D 64 34 ls st u bb σ Q ↔ qx sc D 64 35 ls (vi 4 :: st) u bb σ Q := r_iconst (by decide +kernel)
theorem k64_35 : qx sc D 64 35 ls (vi b' :: vi a' :: st) u bb σ Q ↔ (a' = b' → qx sc D 64 38 ls st u bb σ Q) ∧ (¬ (a' = b') → qx sc D 64 50 ls st u bb σ Q) := r_ic_ne (off := 15) (t := 50) (by decide +kernel)
theorem k64_38 : qx sc D 64 38 [vr a, l1, l2, l3, l4, l5] st u bb σ Q ↔ qx sc D 64 39 [vr a, l1, l2, l3, l4, l5] (vr a :: st) u bb σ Q := r_aload_n (k := 0) (by decide +kernel) rfl
theorem k64_39 : qx sc D 64 39 [l0, l1, l2, l3, l4, vi x] st u bb σ Q ↔ qx sc D 64 41 [l0, l1, l2, l3, l4, vi x] (vi x :: st) u bb σ Q := r_iload (k := 5) (by decide +kernel) rfl
theorem k64_41 : qx sc D 64 41 [l0, l1, l2, vi x, l4, l5] st u bb σ Q ↔ qx sc D 64 42 [l0, l1, l2, vi x, l4, l5] (vi x :: st) u bb σ Q := r_iload_n (k := 3) (by decide +kernel) rfl
theorem k64_42 : qx sc (D + 1) 64 42 ls [vi x1, vi x0, vr 77] (0, 0) bb σ Q ↔ qx sc D 66 0 [vr 77, vi x0, vi x1, vn, vn] [] (0, 0) bb σ (q_kn sc (D + 1) 64 45 ls [] (0, 0) Q) := r_callv (idx := 103) (n := 2) (m := 5) (by decide +kernel) rfl (Nat.le_of_ble_eq_true rfl) ⟨Nat.le_of_ble_eq_true rfl, Nat.le_of_ble_eq_true rfl, rfl⟩ rfl
theorem k64_45 : qx sc D 64 45 [l0, l1, l2, l3, l4, l5] (vi x :: st) u bb σ Q ↔ qx sc D 64 47 [l0, l1, l2, l3, vi x, l5] st u bb σ Q := r_istore (k := 4) (by decide +kernel) (Nat.le_of_ble_eq_true rfl)
theorem k64_47 : qx sc D 64 47 ls st u bb σ Q ↔ qx sc D 64 104 ls st u bb σ Q := r_goto (off := 57) (by decide +kernel)
theorem k64_50 : qx sc D 64 50 [vr a, l1, l2, l3, l4, l5] st u bb σ Q ↔ qx sc D 64 51 [vr a, l1, l2, l3, l4, l5] (vr a :: st) u bb σ Q := r_aload_n (k := 0) (by decide +kernel) rfl
theorem k64_51 : qx sc (D + 1) 64 51 ls [vr 77] (0, 0) bb σ Q ↔ qx sc D 74 0 [vr 77] [] (0, 0) bb σ (q_kn sc (D + 1) 64 54 ls [] (0, 0) Q) := r_callv (idx := 107) (n := 0) (m := 1) (by decide +kernel) rfl (Nat.le_of_ble_eq_true rfl) ⟨Nat.le_of_ble_eq_true rfl, Nat.le_of_ble_eq_true rfl, rfl⟩ rfl
theorem k64_54 : qx sc D 64 54 ls (vi x :: st) u bb σ Q ↔ (x = 0 → qx sc D 64 66 ls st u bb σ Q) ∧ (¬ (x = 0) → qx sc D 64 57 ls st u bb σ Q) := r_if_eq (off := 12) (t := 66) (by decide +kernel)
theorem k64_57 : qx sc D 64 57 [vr a, l1, l2, l3, l4, l5] st u bb σ Q ↔ qx sc D 64 58 [vr a, l1, l2, l3, l4, l5] (vr a :: st) u bb σ Q := r_aload_n (k := 0) (by decide +kernel) rfl
theorem k64_58 : qx sc D 64 58 [l0, l1, l2, l3, l4, vi x] st u bb σ Q ↔ qx sc D 64 60 [l0, l1, l2, l3, l4, vi x] (vi x :: st) u bb σ Q := r_iload (k := 5) (by decide +kernel) rfl
theorem k64_60 : qx sc (D + 1) 64 60 ls [vi x0, vr 77] (0, 0) bb σ Q ↔ qx sc D 71 0 [vr 77, vi x0, vn, vn, vn] [] (0, 0) bb σ (q_kn sc (D + 1) 64 63 ls [] (0, 0) Q) := r_callv (idx := 111) (n := 1) (m := 5) (by decide +kernel) rfl (Nat.le_of_ble_eq_true rfl) ⟨Nat.le_of_ble_eq_true rfl, Nat.le_of_ble_eq_true rfl, rfl⟩ rfl
theorem k64_63 : qx sc D 64 63 ls (vi x :: st) u bb σ Q ↔ (x = 0 → qx sc D 64 66 ls st u bb σ Q) ∧ (¬ (x = 0) → qx sc D 64 72 ls st u bb σ Q) := r_if_ne (off := 9) (t := 72) (by decide +kernel)
theorem k64_66 : qx sc D 64 66 ls st u bb σ Q ↔ qx sc D 64 67 ls (vi 0 :: st) u bb σ Q := r_iconst (by decide +kernel)
theorem k64_67 : qx sc D 64 67 [l0, l1, l2, l3, l4, l5] (vi x :: st) u bb σ Q ↔ qx sc D 64 69 [l0, l1, l2, l3, vi x, l5] st u bb σ Q := r_istore (k := 4) (by decide +kernel) (Nat.le_of_ble_eq_true rfl)
theorem k64_69 : qx sc D 64 69 ls st u bb σ Q ↔ qx sc D 64 104 ls st u bb σ Q := r_goto (off := 35) (by decide +kernel)
theorem k64_72 : qx sc D 64 72 [vr a, l1, l2, l3, l4, l5] st u bb σ Q ↔ qx sc D 64 73 [vr a, l1, l2, l3, l4, l5] (vr a :: st) u bb σ Q := r_aload_n (k := 0) (by decide +kernel) rfl
theorem k64_73 : qx sc D 64 73 ls (vr 77 :: st) u bb σ Q ↔ 0 ≤ σ 77 8 ∧ qx sc D 64 76 ls (vr (σ 77 8).toNat :: st) u bb σ Q := r_getM (idx := 60) (c := 10) (k := 8) (by decide +kernel)
theorem k64_76 (hc : q_C c) : qx sc D 64 76 ls (vr c :: st) u bb σ Q ↔ qx sc D 64 79 ls (vr (c + 2) :: st) u bb σ Q := r_getRc (idx := 100) (k := 4) (by decide +kernel) hc
theorem k64_79 : qx sc D 64 79 [l0, l1, l2, l3, l4, vi x] st u bb σ Q ↔ qx sc D 64 81 [l0, l1, l2, l3, l4, vi x] (vi x :: st) u bb σ Q := r_iload (k := 5) (by decide +kernel) rfl
theorem k64_81 : qx sc D 64 81 ls (vi i :: vr a :: st) u bb σ Q ↔ (q_ty a = 0 ∧ 0 ≤ i ∧ i < q_ln a) ∧ qx sc D 64 82 ls (vi (σ a i) :: st) u bb σ Q := r_iald (by decide +kernel)
theorem k64_82 : qx sc D 64 82 ls st u bb σ Q ↔ qx sc D 64 83 ls (vi 3 :: st) u bb σ Q := r_iconst (by decide +kernel)
theorem k64_83 : qx sc D 64 83 ls (vi b' :: vi a' :: st) u bb σ Q ↔ (a' = b' → qx sc D 64 86 ls st u bb σ Q) ∧ (¬ (a' = b') → qx sc D 64 98 ls st u bb σ Q) := r_ic_ne (off := 15) (t := 98) (by decide +kernel)
theorem k64_86 : qx sc D 64 86 [vr a, l1, l2, l3, l4, l5] st u bb σ Q ↔ qx sc D 64 87 [vr a, l1, l2, l3, l4, l5] (vr a :: st) u bb σ Q := r_aload_n (k := 0) (by decide +kernel) rfl
theorem k64_87 : qx sc D 64 87 [l0, l1, l2, l3, l4, vi x] st u bb σ Q ↔ qx sc D 64 89 [l0, l1, l2, l3, l4, vi x] (vi x :: st) u bb σ Q := r_iload (k := 5) (by decide +kernel) rfl
theorem k64_89 : qx sc D 64 89 [l0, l1, l2, vi x, l4, l5] st u bb σ Q ↔ qx sc D 64 90 [l0, l1, l2, vi x, l4, l5] (vi x :: st) u bb σ Q := r_iload_n (k := 3) (by decide +kernel) rfl
theorem k64_90 : qx sc (D + 1) 64 90 ls [vi x1, vi x0, vr 77] (0, 0) bb σ Q ↔ qx sc D 65 0 [vr 77, vi x0, vi x1, vn] [] (0, 0) bb σ (q_kn sc (D + 1) 64 93 ls [] (0, 0) Q) := r_callv (idx := 115) (n := 2) (m := 4) (by decide +kernel) rfl (Nat.le_of_ble_eq_true rfl) ⟨Nat.le_of_ble_eq_true rfl, Nat.le_of_ble_eq_true rfl, rfl⟩ rfl
theorem k64_93 : qx sc D 64 93 [l0, l1, l2, l3, l4, l5] (vi x :: st) u bb σ Q ↔ qx sc D 64 95 [l0, l1, l2, l3, vi x, l5] st u bb σ Q := r_istore (k := 4) (by decide +kernel) (Nat.le_of_ble_eq_true rfl)
theorem k64_95 : qx sc D 64 95 ls st u bb σ Q ↔ qx sc D 64 104 ls st u bb σ Q := r_goto (off := 9) (by decide +kernel)
theorem k64_98 : qx sc D 64 98 [vr a, l1, l2, l3, l4, l5] st u bb σ Q ↔ qx sc D 64 99 [vr a, l1, l2, l3, l4, l5] (vr a :: st) u bb σ Q := r_aload_n (k := 0) (by decide +kernel) rfl
theorem k64_99 : qx sc D 64 99 [l0, l1, l2, l3, l4, vi x] st u bb σ Q ↔ qx sc D 64 101 [l0, l1, l2, l3, l4, vi x] (vi x :: st) u bb σ Q := r_iload (k := 5) (by decide +kernel) rfl
theorem k64_101 : qx sc (D + 1) 64 101 ls [vi x0, vr 77] (0, 0) bb σ Q ↔ qx sc D 63 0 [vr 77, vi x0, vn] [] (0, 0) bb σ (q_kn sc (D + 1) 64 104 ls [] (0, 0) Q) := r_callv (idx := 118) (n := 1) (m := 3) (by decide +kernel) rfl (Nat.le_of_ble_eq_true rfl) ⟨Nat.le_of_ble_eq_true rfl, Nat.le_of_ble_eq_true rfl, rfl⟩ rfl
theorem k64_104 : qx sc D 64 104 [l0, l1, l2, l3, l4, vi x] st u bb σ Q ↔ qx sc D 64 106 [l0, l1, l2, l3, l4, vi x] (vi x :: st) u bb σ Q := r_iload (k := 5) (by decide +kernel) rfl
theorem k64_106 : qx sc D 64 106 ls st u bb σ Q ↔ qx sc D 64 107 ls (vi 1 :: st) u bb σ Q := r_iconst (by decide +kernel)
theorem k64_107 : qx sc D 64 107 ls (vi b' :: vi a' :: st) u bb σ Q ↔ q_R (a' + b') ∧ qx sc D 64 108 ls (vi (a' + b') :: st) u bb σ Q := r_iadd (by decide +kernel)
theorem k64_108 : qx sc D 64 108 [vr a, l1, l2, l3, l4, l5] st u bb σ Q ↔ qx sc D 64 109 [vr a, l1, l2, l3, l4, l5] (vr a :: st) u bb σ Q := r_aload_n (k := 0) (by decide +kernel) rfl
theorem k64_109 : qx sc D 64 109 ls (vr 77 :: st) u bb σ Q ↔ 0 ≤ σ 77 8 ∧ qx sc D 64 112 ls (vr (σ 77 8).toNat :: st) u bb σ Q := r_getM (idx := 60) (c := 10) (k := 8) (by decide +kernel)
theorem k64_112 (hc : q_C c) : qx sc D 64 112 ls (vr c :: st) u bb σ Q ↔ qx sc D 64 115 ls (vr (c + 11) :: st) u bb σ Q := r_getRc (idx := 122) (k := 13) (by decide +kernel) hc
theorem k64_115 : qx sc D 64 115 [l0, l1, l2, l3, l4, vi x] st u bb σ Q ↔ qx sc D 64 117 [l0, l1, l2, l3, l4, vi x] (vi x :: st) u bb σ Q := r_iload (k := 5) (by decide +kernel) rfl
theorem k64_117 : qx sc D 64 117 ls (vi i :: vr a :: st) u bb σ Q ↔ (q_ty a = 0 ∧ 0 ≤ i ∧ i < q_ln a) ∧ qx sc D 64 118 ls (vi (σ a i) :: st) u bb σ Q := r_iald (by decide +kernel)
theorem k64_118 : qx sc D 64 118 ls [vi b', vi a'] (0, 0) bb σ Q ↔ qx sc D 64 121 ls [vi (max a' b')] (0, 0) bb σ Q := r_max (idx := 87) (y' := 0) (by decide +kernel) (Nat.le_of_ble_eq_true rfl)
theorem k64_121 : qx sc D 64 121 [l0, l1, l2, l3, l4, l5] (vi x :: st) u bb σ Q ↔ qx sc D 64 123 [l0, l1, l2, l3, l4, vi x] st u bb σ Q := r_istore (k := 5) (by decide +kernel) (Nat.le_of_ble_eq_true rfl)
theorem k64_123 : qx sc D 64 123 ls st u bb σ Q ↔ qx sc D 64 13 ls st u bb σ Q := r_goto (off := (-110)) (by decide +kernel)
theorem k64_126 : qx sc D 64 126 [l0, l1, l2, l3, vi x, l5] st u bb σ Q ↔ qx sc D 64 128 [l0, l1, l2, l3, vi x, l5] (vi x :: st) u bb σ Q := r_iload (k := 4) (by decide +kernel) rfl
theorem k64_128 : qx sc D 64 128 ls [vi x] (0, 0) bb σ Q ↔ (x = 0 ∨ x = 1) ∧ Q (.inl (some (vi x))) bb σ := r_retB (by decide +kernel)
-- 65: RowProver$Runner.goBranch(II)Z
theorem k65_0 : qx sc D 65 0 [vr a, l1, l2, l3] st u bb σ Q ↔ qx sc D 65 1 [vr a, l1, l2, l3] (vr a :: st) u bb σ Q := r_aload_n (k := 0) (by decide +kernel) rfl
theorem k65_1 : qx sc D 65 1 [l0, vi x, l2, l3] st u bb σ Q ↔ qx sc D 65 2 [l0, vi x, l2, l3] (vi x :: st) u bb σ Q := r_iload_n (k := 1) (by decide +kernel) rfl
theorem k65_2 : qx sc (D + 1) 65 2 ls [vi x0, vr 77] (0, 0) bb σ Q ↔ qx sc D 60 0 [vr 77, vi x0, vn, vn, vn] [] (0, 0) bb σ (q_kn sc (D + 1) 65 5 ls [] (0, 0) Q) := r_callv (idx := 125) (n := 1) (m := 5) (by decide +kernel) rfl (Nat.le_of_ble_eq_true rfl) ⟨Nat.le_of_ble_eq_true rfl, Nat.le_of_ble_eq_true rfl, rfl⟩ rfl
theorem k65_5 : qx sc D 65 5 ls (vi x :: st) u bb σ Q ↔ (x = 0 → qx sc D 65 31 ls st u bb σ Q) ∧ (¬ (x = 0) → qx sc D 65 8 ls st u bb σ Q) := r_if_eq (off := 26) (t := 31) (by decide +kernel)
theorem k65_8 : qx sc D 65 8 [vr a, l1, l2, l3] st u bb σ Q ↔ qx sc D 65 9 [vr a, l1, l2, l3] (vr a :: st) u bb σ Q := r_aload_n (k := 0) (by decide +kernel) rfl
theorem k65_9 : qx sc D 65 9 [l0, vi x, l2, l3] st u bb σ Q ↔ qx sc D 65 10 [l0, vi x, l2, l3] (vi x :: st) u bb σ Q := r_iload_n (k := 1) (by decide +kernel) rfl
theorem k65_10 : qx sc D 65 10 ls st u bb σ Q ↔ qx sc D 65 11 ls (vi 1 :: st) u bb σ Q := r_iconst (by decide +kernel)
theorem k65_11 : qx sc D 65 11 ls (vi b' :: vi a' :: st) u bb σ Q ↔ q_R (a' + b') ∧ qx sc D 65 12 ls (vi (a' + b') :: st) u bb σ Q := r_iadd (by decide +kernel)
theorem k65_12 : qx sc D 65 12 [vr a, l1, l2, l3] st u bb σ Q ↔ qx sc D 65 13 [vr a, l1, l2, l3] (vr a :: st) u bb σ Q := r_aload_n (k := 0) (by decide +kernel) rfl
theorem k65_13 : qx sc D 65 13 ls (vr 77 :: st) u bb σ Q ↔ 0 ≤ σ 77 8 ∧ qx sc D 65 16 ls (vr (σ 77 8).toNat :: st) u bb σ Q := r_getM (idx := 60) (c := 10) (k := 8) (by decide +kernel)
theorem k65_16 (hc : q_C c) : qx sc D 65 16 ls (vr c :: st) u bb σ Q ↔ qx sc D 65 19 ls (vr (c + 10) :: st) u bb σ Q := r_getRc (idx := 128) (k := 12) (by decide +kernel) hc
theorem k65_19 : qx sc D 65 19 [l0, vi x, l2, l3] st u bb σ Q ↔ qx sc D 65 20 [l0, vi x, l2, l3] (vi x :: st) u bb σ Q := r_iload_n (k := 1) (by decide +kernel) rfl
theorem k65_20 : qx sc D 65 20 ls (vi i :: vr a :: st) u bb σ Q ↔ (q_ty a = 0 ∧ 0 ≤ i ∧ i < q_ln a) ∧ qx sc D 65 21 ls (vi (σ a i) :: st) u bb σ Q := r_iald (by decide +kernel)
theorem k65_21 : qx sc D 65 21 [l0, l1, vi x, l3] st u bb σ Q ↔ qx sc D 65 22 [l0, l1, vi x, l3] (vi x :: st) u bb σ Q := r_iload_n (k := 2) (by decide +kernel) rfl
theorem k65_22 : qx sc D 65 22 ls st u bb σ Q ↔ qx sc D 65 23 ls (vi 1 :: st) u bb σ Q := r_iconst (by decide +kernel)
theorem k65_23 : qx sc D 65 23 ls (vi b' :: vi a' :: st) u bb σ Q ↔ q_R (a' + b') ∧ qx sc D 65 24 ls (vi (a' + b') :: st) u bb σ Q := r_iadd (by decide +kernel)
theorem k65_24 : qx sc (D + 1) 65 24 ls [vi x2, vi x1, vi x0, vr 77] (0, 0) bb σ Q ↔ qx sc D 64 0 [vr 77, vi x0, vi x1, vi x2, vn, vn] [] (0, 0) bb σ (q_kn sc (D + 1) 65 27 ls [] (0, 0) Q) := r_callv (idx := 96) (n := 3) (m := 6) (by decide +kernel) rfl (Nat.le_of_ble_eq_true rfl) ⟨Nat.le_of_ble_eq_true rfl, Nat.le_of_ble_eq_true rfl, rfl⟩ rfl
theorem k65_27 : qx sc D 65 27 [l0, l1, l2, l3] (vi x :: st) u bb σ Q ↔ qx sc D 65 28 [l0, l1, l2, vi x] st u bb σ Q := r_istore_n (k := 3) (by decide +kernel) (Nat.le_of_ble_eq_true rfl)
theorem k65_28 : qx sc D 65 28 ls st u bb σ Q ↔ qx sc D 65 57 ls st u bb σ Q := r_goto (off := 29) (by decide +kernel)
theorem k65_31 : qx sc D 65 31 [vr a, l1, l2, l3] st u bb σ Q ↔ qx sc D 65 32 [vr a, l1, l2, l3] (vr a :: st) u bb σ Q := r_aload_n (k := 0) (by decide +kernel) rfl
theorem k65_32 : qx sc D 65 32 [vr a, l1, l2, l3] st u bb σ Q ↔ qx sc D 65 33 [vr a, l1, l2, l3] (vr a :: st) u bb σ Q := r_aload_n (k := 0) (by decide +kernel) rfl
theorem k65_33 : qx sc D 65 33 ls (vr 77 :: st) u bb σ Q ↔ 0 ≤ σ 77 8 ∧ qx sc D 65 36 ls (vr (σ 77 8).toNat :: st) u bb σ Q := r_getM (idx := 60) (c := 10) (k := 8) (by decide +kernel)
theorem k65_36 (hc : q_C c) : qx sc D 65 36 ls (vr c :: st) u bb σ Q ↔ qx sc D 65 39 ls (vr (c + 10) :: st) u bb σ Q := r_getRc (idx := 128) (k := 12) (by decide +kernel) hc
theorem k65_39 : qx sc D 65 39 [l0, vi x, l2, l3] st u bb σ Q ↔ qx sc D 65 40 [l0, vi x, l2, l3] (vi x :: st) u bb σ Q := r_iload_n (k := 1) (by decide +kernel) rfl
theorem k65_40 : qx sc D 65 40 ls (vi i :: vr a :: st) u bb σ Q ↔ (q_ty a = 0 ∧ 0 ≤ i ∧ i < q_ln a) ∧ qx sc D 65 41 ls (vi (σ a i) :: st) u bb σ Q := r_iald (by decide +kernel)
theorem k65_41 : qx sc D 65 41 [vr a, l1, l2, l3] st u bb σ Q ↔ qx sc D 65 42 [vr a, l1, l2, l3] (vr a :: st) u bb σ Q := r_aload_n (k := 0) (by decide +kernel) rfl
theorem k65_42 : qx sc D 65 42 ls (vr 77 :: st) u bb σ Q ↔ 0 ≤ σ 77 8 ∧ qx sc D 65 45 ls (vr (σ 77 8).toNat :: st) u bb σ Q := r_getM (idx := 60) (c := 10) (k := 8) (by decide +kernel)
theorem k65_45 (hc : q_C c) : qx sc D 65 45 ls (vr c :: st) u bb σ Q ↔ qx sc D 65 48 ls (vr (c + 11) :: st) u bb σ Q := r_getRc (idx := 122) (k := 13) (by decide +kernel) hc
theorem k65_48 : qx sc D 65 48 [l0, vi x, l2, l3] st u bb σ Q ↔ qx sc D 65 49 [l0, vi x, l2, l3] (vi x :: st) u bb σ Q := r_iload_n (k := 1) (by decide +kernel) rfl
theorem k65_49 : qx sc D 65 49 ls (vi i :: vr a :: st) u bb σ Q ↔ (q_ty a = 0 ∧ 0 ≤ i ∧ i < q_ln a) ∧ qx sc D 65 50 ls (vi (σ a i) :: st) u bb σ Q := r_iald (by decide +kernel)
theorem k65_50 : qx sc D 65 50 [l0, l1, vi x, l3] st u bb σ Q ↔ qx sc D 65 51 [l0, l1, vi x, l3] (vi x :: st) u bb σ Q := r_iload_n (k := 2) (by decide +kernel) rfl
theorem k65_51 : qx sc D 65 51 ls st u bb σ Q ↔ qx sc D 65 52 ls (vi 1 :: st) u bb σ Q := r_iconst (by decide +kernel)
theorem k65_52 : qx sc D 65 52 ls (vi b' :: vi a' :: st) u bb σ Q ↔ q_R (a' + b') ∧ qx sc D 65 53 ls (vi (a' + b') :: st) u bb σ Q := r_iadd (by decide +kernel)
theorem k65_53 : qx sc (D + 1) 65 53 ls [vi x2, vi x1, vi x0, vr 77] (0, 0) bb σ Q ↔ qx sc D 64 0 [vr 77, vi x0, vi x1, vi x2, vn, vn] [] (0, 0) bb σ (q_kn sc (D + 1) 65 56 ls [] (0, 0) Q) := r_callv (idx := 96) (n := 3) (m := 6) (by decide +kernel) rfl (Nat.le_of_ble_eq_true rfl) ⟨Nat.le_of_ble_eq_true rfl, Nat.le_of_ble_eq_true rfl, rfl⟩ rfl
theorem k65_56 : qx sc D 65 56 [l0, l1, l2, l3] (vi x :: st) u bb σ Q ↔ qx sc D 65 57 [l0, l1, l2, vi x] st u bb σ Q := r_istore_n (k := 3) (by decide +kernel) (Nat.le_of_ble_eq_true rfl)
theorem k65_57 : qx sc D 65 57 [l0, l1, l2, vi x] st u bb σ Q ↔ qx sc D 65 58 [l0, l1, l2, vi x] (vi x :: st) u bb σ Q := r_iload_n (k := 3) (by decide +kernel) rfl
theorem k65_58 : qx sc D 65 58 ls (vi x :: st) u bb σ Q ↔ (x = 0 → qx sc D 65 83 ls st u bb σ Q) ∧ (¬ (x = 0) → qx sc D 65 61 ls st u bb σ Q) := r_if_eq (off := 25) (t := 83) (by decide +kernel)
theorem k65_61 : qx sc D 65 61 [vr a, l1, l2, l3] st u bb σ Q ↔ qx sc D 65 62 [vr a, l1, l2, l3] (vr a :: st) u bb σ Q := r_aload_n (k := 0) (by decide +kernel) rfl
theorem k65_62 : qx sc D 65 62 [vr a, l1, l2, l3] st u bb σ Q ↔ qx sc D 65 63 [vr a, l1, l2, l3] (vr a :: st) u bb σ Q := r_aload_n (k := 0) (by decide +kernel) rfl
theorem k65_63 : qx sc D 65 63 ls (vr 77 :: st) u bb σ Q ↔ qx sc D 65 66 ls (vr 27 :: st) u bb σ Q := r_getR (idx := 39) (c := 10) (k := 1) (by decide +kernel)
theorem k65_66 : qx sc D 65 66 ls (vr 27 :: st) u bb σ Q ↔ qx sc D 65 69 ls (vr 31 :: st) u bb σ Q := r_getR (idx := 131) (c := 6) (k := 3) (by decide +kernel)
theorem k65_69 : qx sc D 65 69 [l0, vi x, l2, l3] st u bb σ Q ↔ qx sc D 65 70 [l0, vi x, l2, l3] (vi x :: st) u bb σ Q := r_iload_n (k := 1) (by decide +kernel) rfl
theorem k65_70 : qx sc D 65 70 ls (vi i :: vr a :: st) u bb σ Q ↔ (q_ty a = 0 ∧ 0 ≤ i ∧ i < q_ln a) ∧ qx sc D 65 71 ls (vi (σ a i) :: st) u bb σ Q := r_iald (by decide +kernel)
theorem k65_71 : qx sc D 65 71 [vr a, l1, l2, l3] st u bb σ Q ↔ qx sc D 65 72 [vr a, l1, l2, l3] (vr a :: st) u bb σ Q := r_aload_n (k := 0) (by decide +kernel) rfl
theorem k65_72 : qx sc D 65 72 ls (vr 77 :: st) u bb σ Q ↔ qx sc D 65 75 ls (vr 27 :: st) u bb σ Q := r_getR (idx := 39) (c := 10) (k := 1) (by decide +kernel)
theorem k65_75 : qx sc D 65 75 ls (vr 27 :: st) u bb σ Q ↔ qx sc D 65 78 ls (vr 32 :: st) u bb σ Q := r_getR (idx := 136) (c := 6) (k := 4) (by decide +kernel)
theorem k65_78 : qx sc D 65 78 [l0, vi x, l2, l3] st u bb σ Q ↔ qx sc D 65 79 [l0, vi x, l2, l3] (vi x :: st) u bb σ Q := r_iload_n (k := 1) (by decide +kernel) rfl
theorem k65_79 : qx sc D 65 79 ls (vi i :: vr a :: st) u bb σ Q ↔ (q_ty a = 0 ∧ 0 ≤ i ∧ i < q_ln a) ∧ qx sc D 65 80 ls (vi (σ a i) :: st) u bb σ Q := r_iald (by decide +kernel)
theorem k65_80 : qx sc (D + 1) 65 80 ls [vi x1, vi x0, vr 77] (0, 0) bb σ Q ↔ qx sc D 70 0 [vr 77, vi x0, vi x1, vn] [] (0, 0) bb σ (q_kn sc (D + 1) 65 83 ls [] (0, 0) Q) := r_callv (idx := 139) (n := 2) (m := 4) (by decide +kernel) rfl (Nat.le_of_ble_eq_true rfl) ⟨Nat.le_of_ble_eq_true rfl, Nat.le_of_ble_eq_true rfl, rfl⟩ rfl
theorem k65_83 : qx sc D 65 83 [l0, l1, l2, vi x] st u bb σ Q ↔ qx sc D 65 84 [l0, l1, l2, vi x] (vi x :: st) u bb σ Q := r_iload_n (k := 3) (by decide +kernel) rfl
theorem k65_84 : qx sc D 65 84 ls [vi x] (0, 0) bb σ Q ↔ (x = 0 ∨ x = 1) ∧ Q (.inl (some (vi x))) bb σ := r_retB (by decide +kernel)
-- 66: RowProver$Runner.goRound(II)Z
theorem k66_0 : qx sc D 66 0 [vr a, l1, l2, l3, l4] st u bb σ Q ↔ qx sc D 66 1 [vr a, l1, l2, l3, l4] (vr a :: st) u bb σ Q := r_aload_n (k := 0) (by decide +kernel) rfl
theorem k66_1 : qx sc D 66 1 ls (vr 77 :: st) u bb σ Q ↔ 0 ≤ σ 77 8 ∧ qx sc D 66 4 ls (vr (σ 77 8).toNat :: st) u bb σ Q := r_getM (idx := 60) (c := 10) (k := 8) (by decide +kernel)
theorem k66_4 (hc : q_C c) : qx sc D 66 4 ls (vr c :: st) u bb σ Q ↔ qx sc D 66 7 ls (vr (c + 8) :: st) u bb σ Q := r_getRc (idx := 143) (k := 10) (by decide +kernel) hc
theorem k66_7 : qx sc D 66 7 [l0, vi x, l2, l3, l4] st u bb σ Q ↔ qx sc D 66 8 [l0, vi x, l2, l3, l4] (vi x :: st) u bb σ Q := r_iload_n (k := 1) (by decide +kernel) rfl
theorem k66_8 : qx sc D 66 8 ls (vi i :: vr a :: st) u bb σ Q ↔ (q_ty a = 0 ∧ 0 ≤ i ∧ i < q_ln a) ∧ qx sc D 66 9 ls (vi (σ a i) :: st) u bb σ Q := r_iald (by decide +kernel)
theorem k66_9 : qx sc D 66 9 [l0, l1, l2, l3, l4] (vi x :: st) u bb σ Q ↔ qx sc D 66 10 [l0, l1, l2, vi x, l4] st u bb σ Q := r_istore_n (k := 3) (by decide +kernel) (Nat.le_of_ble_eq_true rfl)
theorem k66_10 : qx sc D 66 10 [vr a, l1, l2, l3, l4] st u bb σ Q ↔ qx sc D 66 11 [vr a, l1, l2, l3, l4] (vr a :: st) u bb σ Q := r_aload_n (k := 0) (by decide +kernel) rfl
theorem k66_11 : qx sc D 66 11 [vr a, l1, l2, l3, l4] st u bb σ Q ↔ qx sc D 66 12 [vr a, l1, l2, l3, l4] (vr a :: st) u bb σ Q := r_aload_n (k := 0) (by decide +kernel) rfl
theorem k66_12 : qx sc D 66 12 ls (vr 77 :: st) u bb σ Q ↔ qx sc D 66 15 ls (vr 27 :: st) u bb σ Q := r_getR (idx := 39) (c := 10) (k := 1) (by decide +kernel)
theorem k66_15 : qx sc D 66 15 ls (vr 27 :: st) u bb σ Q ↔ qx sc D 66 18 ls (vr 31 :: st) u bb σ Q := r_getR (idx := 131) (c := 6) (k := 3) (by decide +kernel)
theorem k66_18 : qx sc D 66 18 [l0, vi x, l2, l3, l4] st u bb σ Q ↔ qx sc D 66 19 [l0, vi x, l2, l3, l4] (vi x :: st) u bb σ Q := r_iload_n (k := 1) (by decide +kernel) rfl
theorem k66_19 : qx sc D 66 19 ls (vi i :: vr a :: st) u bb σ Q ↔ (q_ty a = 0 ∧ 0 ≤ i ∧ i < q_ln a) ∧ qx sc D 66 20 ls (vi (σ a i) :: st) u bb σ Q := r_iald (by decide +kernel)
theorem k66_20 : qx sc D 66 20 [vr a, l1, l2, l3, l4] st u bb σ Q ↔ qx sc D 66 21 [vr a, l1, l2, l3, l4] (vr a :: st) u bb σ Q := r_aload_n (k := 0) (by decide +kernel) rfl
theorem k66_21 : qx sc D 66 21 ls (vr 77 :: st) u bb σ Q ↔ qx sc D 66 24 ls (vr 27 :: st) u bb σ Q := r_getR (idx := 39) (c := 10) (k := 1) (by decide +kernel)
theorem k66_24 : qx sc D 66 24 ls (vr 27 :: st) u bb σ Q ↔ qx sc D 66 27 ls (vr 32 :: st) u bb σ Q := r_getR (idx := 136) (c := 6) (k := 4) (by decide +kernel)
theorem k66_27 : qx sc D 66 27 [l0, vi x, l2, l3, l4] st u bb σ Q ↔ qx sc D 66 28 [l0, vi x, l2, l3, l4] (vi x :: st) u bb σ Q := r_iload_n (k := 1) (by decide +kernel) rfl
theorem k66_28 : qx sc D 66 28 ls (vi i :: vr a :: st) u bb σ Q ↔ (q_ty a = 0 ∧ 0 ≤ i ∧ i < q_ln a) ∧ qx sc D 66 29 ls (vi (σ a i) :: st) u bb σ Q := r_iald (by decide +kernel)
theorem k66_29 : qx sc (D + 1) 66 29 ls [vi x1, vi x0, vr 77] (0, 0) bb σ Q ↔ qx sc D 70 0 [vr 77, vi x0, vi x1, vn] [] (0, 0) bb σ (q_kn sc (D + 1) 66 32 ls [] (0, 0) Q) := r_callv (idx := 139) (n := 2) (m := 4) (by decide +kernel) rfl (Nat.le_of_ble_eq_true rfl) ⟨Nat.le_of_ble_eq_true rfl, Nat.le_of_ble_eq_true rfl, rfl⟩ rfl
theorem k66_32 : qx sc D 66 32 [vr a, l1, l2, l3, l4] st u bb σ Q ↔ qx sc D 66 33 [vr a, l1, l2, l3, l4] (vr a :: st) u bb σ Q := r_aload_n (k := 0) (by decide +kernel) rfl
theorem k66_33 : qx sc D 66 33 ls (vr 77 :: st) u bb σ Q ↔ qx sc D 66 36 ls (vi (σ 77 9) :: st) u bb σ Q := r_getI (idx := 64) (c := 10) (k := 9) (by decide +kernel)
theorem k66_36 : qx sc D 66 36 ls st u bb σ Q ↔ qx sc D 66 37 ls (vi 2 :: st) u bb σ Q := r_iconst (by decide +kernel)
theorem k66_37 : qx sc D 66 37 ls (vi b' :: vi a' :: st) u bb σ Q ↔ (a' = b' → qx sc D 66 40 ls st u bb σ Q) ∧ (¬ (a' = b') → qx sc D 66 77 ls st u bb σ Q) := r_ic_ne (off := 40) (t := 77) (by decide +kernel)
theorem k66_40 : qx sc D 66 40 [vr a, l1, l2, l3, l4] st u bb σ Q ↔ qx sc D 66 41 [vr a, l1, l2, l3, l4] (vr a :: st) u bb σ Q := r_aload_n (k := 0) (by decide +kernel) rfl
theorem k66_41 : qx sc D 66 41 ls (vr 77 :: st) u bb σ Q ↔ qx sc D 66 44 ls (vr 72 :: st) u bb σ Q := r_getR (idx := 43) (c := 10) (k := 3) (by decide +kernel)
theorem k66_44 : qx sc D 66 44 ls (vr 72 :: st) u bb σ Q ↔ qx sc D 66 47 ls (vr 75 :: st) u bb σ Q := r_getR (idx := 146) (c := 5) (k := 6) (by decide +kernel)
theorem k66_47 : qx sc D 66 47 [l0, l1, l2, vi x, l4] st u bb σ Q ↔ qx sc D 66 48 [l0, l1, l2, vi x, l4] (vi x :: st) u bb σ Q := r_iload_n (k := 3) (by decide +kernel) rfl
theorem k66_48 : qx sc D 66 48 ls (vi i :: vr a :: st) u bb σ Q ↔ (q_ty a = 0 ∧ 0 ≤ i ∧ i < q_ln a) ∧ qx sc D 66 49 ls (vi (σ a i) :: st) u bb σ Q := r_iald (by decide +kernel)
theorem k66_49 : qx sc D 66 49 ls (vi x :: st) u bb σ Q ↔ (0 < x → qx sc D 66 52 ls st u bb σ Q) ∧ (¬ (0 < x) → qx sc D 66 77 ls st u bb σ Q) := r_if_le (off := 28) (t := 77) (by decide +kernel)
theorem k66_52 : qx sc D 66 52 [vr a, l1, l2, l3, l4] st u bb σ Q ↔ qx sc D 66 53 [vr a, l1, l2, l3, l4] (vr a :: st) u bb σ Q := r_aload_n (k := 0) (by decide +kernel) rfl
theorem k66_53 : qx sc D 66 53 [l0, l1, l2, vi x, l4] st u bb σ Q ↔ qx sc D 66 54 [l0, l1, l2, vi x, l4] (vi x :: st) u bb σ Q := r_iload_n (k := 3) (by decide +kernel) rfl
theorem k66_54 : qx sc (D + 1) 66 54 ls [vi x0, vr 77] (0, 0) bb σ Q ↔ qx sc D 68 0 [vr 77, vi x0, vn] [] (0, 0) bb σ (q_kn sc (D + 1) 66 57 ls [] (0, 0) Q) := r_callv (idx := 149) (n := 1) (m := 3) (by decide +kernel) rfl (Nat.le_of_ble_eq_true rfl) ⟨Nat.le_of_ble_eq_true rfl, Nat.le_of_ble_eq_true rfl, rfl⟩ rfl
theorem k66_57 : qx sc D 66 57 ls (vi x :: st) u bb σ Q ↔ (x = 0 → qx sc D 66 77 ls st u bb σ Q) ∧ (¬ (x = 0) → qx sc D 66 60 ls st u bb σ Q) := r_if_eq (off := 20) (t := 77) (by decide +kernel)
theorem k66_60 : qx sc D 66 60 [vr a, l1, l2, l3, l4] st u bb σ Q ↔ qx sc D 66 61 [vr a, l1, l2, l3, l4] (vr a :: st) u bb σ Q := r_aload_n (k := 0) (by decide +kernel) rfl
theorem k66_61 : qx sc D 66 61 ls (vr 77 :: st) u bb σ Q ↔ qx sc D 66 64 ls (vr 79 :: st) u bb σ Q := r_getR (idx := 15) (c := 10) (k := 7) (by decide +kernel)
theorem k66_64 : qx sc D 66 64 [l0, l1, l2, vi x, l4] st u bb σ Q ↔ qx sc D 66 65 [l0, l1, l2, vi x, l4] (vi x :: st) u bb σ Q := r_iload_n (k := 3) (by decide +kernel) rfl
theorem k66_65 : qx sc D 66 65 ls st u bb σ Q ↔ qx sc D 66 66 ls (vi 1 :: st) u bb σ Q := r_iconst (by decide +kernel)
theorem k66_66 : qx sc D 66 66 ls (vi x :: vi i :: vr a :: st) u bb σ Q ↔ (q_ty a = 0 ∧ 0 ≤ i ∧ i < q_ln a) ∧ qx sc D 66 67 ls st u bb (q_up σ a i x) Q := r_iast (by decide +kernel)
theorem k66_67 : qx sc D 66 67 [vr a, l1, l2, l3, l4] st u bb σ Q ↔ qx sc D 66 68 [vr a, l1, l2, l3, l4] (vr a :: st) u bb σ Q := r_aload_n (k := 0) (by decide +kernel) rfl
theorem k66_68 : qx sc D 66 68 ls (vr 77 :: st) u bb σ Q ↔ qx sc D 66 71 ls (vr 87 :: st) u bb σ Q := r_getR (idx := 32) (c := 10) (k := 14) (by decide +kernel)
theorem k66_71 : qx sc D 66 71 ls st u bb σ Q ↔ qx sc D 66 72 ls (vi 5 :: st) u bb σ Q := r_iconst (by decide +kernel)
theorem k66_72 : qx sc D 66 72 ls (vi x :: vr a :: st) u bb σ Q ↔ qx sc D 66 73 ls (vi x :: vr a :: vi x :: vr a :: st) u bb σ Q := r_dup2 (by decide +kernel)
theorem k66_73 : qx sc D 66 73 ls (vi i :: vr a :: st) u bb σ Q ↔ (q_ty a = 0 ∧ 0 ≤ i ∧ i < q_ln a) ∧ qx sc D 66 74 ls (vi (σ a i) :: st) u bb σ Q := r_iald (by decide +kernel)
theorem k66_74 : qx sc D 66 74 ls st u bb σ Q ↔ qx sc D 66 75 ls (vi 1 :: st) u bb σ Q := r_iconst (by decide +kernel)
theorem k66_75 : qx sc D 66 75 ls (vi b' :: vi a' :: st) u bb σ Q ↔ q_R (a' + b') ∧ qx sc D 66 76 ls (vi (a' + b') :: st) u bb σ Q := r_iadd (by decide +kernel)
theorem k66_76 : qx sc D 66 76 ls (vi x :: vi i :: vr a :: st) u bb σ Q ↔ (q_ty a = 0 ∧ 0 ≤ i ∧ i < q_ln a) ∧ qx sc D 66 77 ls st u bb (q_up σ a i x) Q := r_iast (by decide +kernel)
theorem k66_77 : qx sc D 66 77 ls st u bb σ Q ↔ qx sc D 66 78 ls (vi 0 :: st) u bb σ Q := r_iconst (by decide +kernel)
theorem k66_78 : qx sc D 66 78 [l0, l1, l2, l3, l4] (vi x :: st) u bb σ Q ↔ qx sc D 66 80 [l0, l1, l2, l3, vi x] st u bb σ Q := r_istore (k := 4) (by decide +kernel) (Nat.le_of_ble_eq_true rfl)
theorem k66_80 : qx sc D 66 80 [l0, l1, l2, l3, vi x] st u bb σ Q ↔ qx sc D 66 82 [l0, l1, l2, l3, vi x] (vi x :: st) u bb σ Q := r_iload (k := 4) (by decide +kernel) rfl
theorem k66_82 : qx sc D 66 82 ls st u bb σ Q ↔ qx sc D 66 85 ls (vi 300 :: st) u bb σ Q := r_sipush (by decide +kernel)
theorem k66_85 : qx sc D 66 85 ls (vi b' :: vi a' :: st) u bb σ Q ↔ (b' < a' → qx sc D 66 164 ls st u bb σ Q) ∧ (¬ (b' < a') → qx sc D 66 88 ls st u bb σ Q) := r_ic_gt (off := 79) (t := 164) (by decide +kernel)
theorem k66_88 : qx sc D 66 88 [vr a, l1, l2, l3, l4] st u bb σ Q ↔ qx sc D 66 89 [vr a, l1, l2, l3, l4] (vr a :: st) u bb σ Q := r_aload_n (k := 0) (by decide +kernel) rfl
theorem k66_89 : qx sc (D + 1) 66 89 ls [vr 77] (0, 0) bb σ Q ↔ qx sc D 74 0 [vr 77] [] (0, 0) bb σ (q_kn sc (D + 1) 66 92 ls [] (0, 0) Q) := r_callv (idx := 107) (n := 0) (m := 1) (by decide +kernel) rfl (Nat.le_of_ble_eq_true rfl) ⟨Nat.le_of_ble_eq_true rfl, Nat.le_of_ble_eq_true rfl, rfl⟩ rfl
theorem k66_92 : qx sc D 66 92 ls (vi x :: st) u bb σ Q ↔ (x = 0 → qx sc D 66 164 ls st u bb σ Q) ∧ (¬ (x = 0) → qx sc D 66 95 ls st u bb σ Q) := r_if_eq (off := 72) (t := 164) (by decide +kernel)
theorem k66_95 : qx sc D 66 95 [vr a, l1, l2, l3, l4] st u bb σ Q ↔ qx sc D 66 96 [vr a, l1, l2, l3, l4] (vr a :: st) u bb σ Q := r_aload_n (k := 0) (by decide +kernel) rfl
theorem k66_96 : qx sc D 66 96 [l0, vi x, l2, l3, l4] st u bb σ Q ↔ qx sc D 66 97 [l0, vi x, l2, l3, l4] (vi x :: st) u bb σ Q := r_iload_n (k := 1) (by decide +kernel) rfl
theorem k66_97 : qx sc (D + 1) 66 97 ls [vi x0, vr 77] (0, 0) bb σ Q ↔ qx sc D 60 0 [vr 77, vi x0, vn, vn, vn] [] (0, 0) bb σ (q_kn sc (D + 1) 66 100 ls [] (0, 0) Q) := r_callv (idx := 125) (n := 1) (m := 5) (by decide +kernel) rfl (Nat.le_of_ble_eq_true rfl) ⟨Nat.le_of_ble_eq_true rfl, Nat.le_of_ble_eq_true rfl, rfl⟩ rfl
theorem k66_100 : qx sc D 66 100 ls (vi x :: st) u bb σ Q ↔ (x = 0 → qx sc D 66 103 ls st u bb σ Q) ∧ (¬ (x = 0) → qx sc D 66 112 ls st u bb σ Q) := r_if_ne (off := 12) (t := 112) (by decide +kernel)
theorem k66_103 : qx sc D 66 103 [vr a, l1, l2, l3, l4] st u bb σ Q ↔ qx sc D 66 104 [vr a, l1, l2, l3, l4] (vr a :: st) u bb σ Q := r_aload_n (k := 0) (by decide +kernel) rfl
theorem k66_104 : qx sc D 66 104 ls (vr 77 :: st) u bb σ Q ↔ qx sc D 66 107 ls (vr 79 :: st) u bb σ Q := r_getR (idx := 15) (c := 10) (k := 7) (by decide +kernel)
theorem k66_107 : qx sc D 66 107 [l0, l1, l2, vi x, l4] st u bb σ Q ↔ qx sc D 66 108 [l0, l1, l2, vi x, l4] (vi x :: st) u bb σ Q := r_iload_n (k := 3) (by decide +kernel) rfl
theorem k66_108 : qx sc D 66 108 ls st u bb σ Q ↔ qx sc D 66 109 ls (vi 0 :: st) u bb σ Q := r_iconst (by decide +kernel)
theorem k66_109 : qx sc D 66 109 ls (vi x :: vi i :: vr a :: st) u bb σ Q ↔ (q_ty a = 0 ∧ 0 ≤ i ∧ i < q_ln a) ∧ qx sc D 66 110 ls st u bb (q_up σ a i x) Q := r_iast (by decide +kernel)
theorem k66_110 : qx sc D 66 110 ls st u bb σ Q ↔ qx sc D 66 111 ls (vi 1 :: st) u bb σ Q := r_iconst (by decide +kernel)
theorem k66_111 : qx sc D 66 111 ls [vi x] (0, 0) bb σ Q ↔ (x = 0 ∨ x = 1) ∧ Q (.inl (some (vi x))) bb σ := r_retB (by decide +kernel)
theorem k66_112 : qx sc D 66 112 [vr a, l1, l2, l3, l4] st u bb σ Q ↔ qx sc D 66 113 [vr a, l1, l2, l3, l4] (vr a :: st) u bb σ Q := r_aload_n (k := 0) (by decide +kernel) rfl
theorem k66_113 : qx sc D 66 113 [l0, vi x, l2, l3, l4] st u bb σ Q ↔ qx sc D 66 114 [l0, vi x, l2, l3, l4] (vi x :: st) u bb σ Q := r_iload_n (k := 1) (by decide +kernel) rfl
theorem k66_114 : qx sc D 66 114 ls st u bb σ Q ↔ qx sc D 66 115 ls (vi 1 :: st) u bb σ Q := r_iconst (by decide +kernel)
theorem k66_115 : qx sc D 66 115 ls (vi b' :: vi a' :: st) u bb σ Q ↔ q_R (a' + b') ∧ qx sc D 66 116 ls (vi (a' + b') :: st) u bb σ Q := r_iadd (by decide +kernel)
theorem k66_116 : qx sc D 66 116 [vr a, l1, l2, l3, l4] st u bb σ Q ↔ qx sc D 66 117 [vr a, l1, l2, l3, l4] (vr a :: st) u bb σ Q := r_aload_n (k := 0) (by decide +kernel) rfl
theorem k66_117 : qx sc D 66 117 ls (vr 77 :: st) u bb σ Q ↔ 0 ≤ σ 77 8 ∧ qx sc D 66 120 ls (vr (σ 77 8).toNat :: st) u bb σ Q := r_getM (idx := 60) (c := 10) (k := 8) (by decide +kernel)
theorem k66_120 (hc : q_C c) : qx sc D 66 120 ls (vr c :: st) u bb σ Q ↔ qx sc D 66 123 ls (vr (c + 11) :: st) u bb σ Q := r_getRc (idx := 122) (k := 13) (by decide +kernel) hc
theorem k66_123 : qx sc D 66 123 [l0, vi x, l2, l3, l4] st u bb σ Q ↔ qx sc D 66 124 [l0, vi x, l2, l3, l4] (vi x :: st) u bb σ Q := r_iload_n (k := 1) (by decide +kernel) rfl
theorem k66_124 : qx sc D 66 124 ls (vi i :: vr a :: st) u bb σ Q ↔ (q_ty a = 0 ∧ 0 ≤ i ∧ i < q_ln a) ∧ qx sc D 66 125 ls (vi (σ a i) :: st) u bb σ Q := r_iald (by decide +kernel)
theorem k66_125 : qx sc D 66 125 [l0, l1, vi x, l3, l4] st u bb σ Q ↔ qx sc D 66 126 [l0, l1, vi x, l3, l4] (vi x :: st) u bb σ Q := r_iload_n (k := 2) (by decide +kernel) rfl
theorem k66_126 : qx sc D 66 126 ls st u bb σ Q ↔ qx sc D 66 127 ls (vi 1 :: st) u bb σ Q := r_iconst (by decide +kernel)
theorem k66_127 : qx sc D 66 127 ls (vi b' :: vi a' :: st) u bb σ Q ↔ q_R (a' + b') ∧ qx sc D 66 128 ls (vi (a' + b') :: st) u bb σ Q := r_iadd (by decide +kernel)
theorem k66_128 : qx sc (D + 1) 66 128 ls [vi x2, vi x1, vi x0, vr 77] (0, 0) bb σ Q ↔ qx sc D 64 0 [vr 77, vi x0, vi x1, vi x2, vn, vn] [] (0, 0) bb σ (q_kn sc (D + 1) 66 131 ls [] (0, 0) Q) := r_callv (idx := 96) (n := 3) (m := 6) (by decide +kernel) rfl (Nat.le_of_ble_eq_true rfl) ⟨Nat.le_of_ble_eq_true rfl, Nat.le_of_ble_eq_true rfl, rfl⟩ rfl
theorem k66_131 : qx sc D 66 131 ls (vi x :: st) u bb σ Q ↔ (x = 0 → qx sc D 66 134 ls st u bb σ Q) ∧ (¬ (x = 0) → qx sc D 66 136 ls st u bb σ Q) := r_if_ne (off := 5) (t := 136) (by decide +kernel)
theorem k66_134 : qx sc D 66 134 ls st u bb σ Q ↔ qx sc D 66 135 ls (vi 0 :: st) u bb σ Q := r_iconst (by decide +kernel)
theorem k66_135 : qx sc D 66 135 ls [vi x] (0, 0) bb σ Q ↔ (x = 0 ∨ x = 1) ∧ Q (.inl (some (vi x))) bb σ := r_retB (by decide +kernel)
theorem k66_136 : qx sc D 66 136 [vr a, l1, l2, l3, l4] st u bb σ Q ↔ qx sc D 66 137 [vr a, l1, l2, l3, l4] (vr a :: st) u bb σ Q := r_aload_n (k := 0) (by decide +kernel) rfl
theorem k66_137 : qx sc D 66 137 [vr a, l1, l2, l3, l4] st u bb σ Q ↔ qx sc D 66 138 [vr a, l1, l2, l3, l4] (vr a :: st) u bb σ Q := r_aload_n (k := 0) (by decide +kernel) rfl
theorem k66_138 : qx sc D 66 138 ls (vr 77 :: st) u bb σ Q ↔ qx sc D 66 141 ls (vr 27 :: st) u bb σ Q := r_getR (idx := 39) (c := 10) (k := 1) (by decide +kernel)
theorem k66_141 : qx sc D 66 141 ls (vr 27 :: st) u bb σ Q ↔ qx sc D 66 144 ls (vr 31 :: st) u bb σ Q := r_getR (idx := 131) (c := 6) (k := 3) (by decide +kernel)
theorem k66_144 : qx sc D 66 144 [l0, vi x, l2, l3, l4] st u bb σ Q ↔ qx sc D 66 145 [l0, vi x, l2, l3, l4] (vi x :: st) u bb σ Q := r_iload_n (k := 1) (by decide +kernel) rfl
theorem k66_145 : qx sc D 66 145 ls (vi i :: vr a :: st) u bb σ Q ↔ (q_ty a = 0 ∧ 0 ≤ i ∧ i < q_ln a) ∧ qx sc D 66 146 ls (vi (σ a i) :: st) u bb σ Q := r_iald (by decide +kernel)
theorem k66_146 : qx sc D 66 146 [vr a, l1, l2, l3, l4] st u bb σ Q ↔ qx sc D 66 147 [vr a, l1, l2, l3, l4] (vr a :: st) u bb σ Q := r_aload_n (k := 0) (by decide +kernel) rfl
theorem k66_147 : qx sc D 66 147 ls (vr 77 :: st) u bb σ Q ↔ qx sc D 66 150 ls (vr 27 :: st) u bb σ Q := r_getR (idx := 39) (c := 10) (k := 1) (by decide +kernel)
theorem k66_150 : qx sc D 66 150 ls (vr 27 :: st) u bb σ Q ↔ qx sc D 66 153 ls (vr 32 :: st) u bb σ Q := r_getR (idx := 136) (c := 6) (k := 4) (by decide +kernel)
theorem k66_153 : qx sc D 66 153 [l0, vi x, l2, l3, l4] st u bb σ Q ↔ qx sc D 66 154 [l0, vi x, l2, l3, l4] (vi x :: st) u bb σ Q := r_iload_n (k := 1) (by decide +kernel) rfl
theorem k66_154 : qx sc D 66 154 ls (vi i :: vr a :: st) u bb σ Q ↔ (q_ty a = 0 ∧ 0 ≤ i ∧ i < q_ln a) ∧ qx sc D 66 155 ls (vi (σ a i) :: st) u bb σ Q := r_iald (by decide +kernel)
theorem k66_155 : qx sc (D + 1) 66 155 ls [vi x1, vi x0, vr 77] (0, 0) bb σ Q ↔ qx sc D 70 0 [vr 77, vi x0, vi x1, vn] [] (0, 0) bb σ (q_kn sc (D + 1) 66 158 ls [] (0, 0) Q) := r_callv (idx := 139) (n := 2) (m := 4) (by decide +kernel) rfl (Nat.le_of_ble_eq_true rfl) ⟨Nat.le_of_ble_eq_true rfl, Nat.le_of_ble_eq_true rfl, rfl⟩ rfl
theorem k66_158 : qx sc D 66 158 [l0, l1, l2, l3, vi x] st u bb σ Q ↔ q_R (x + 1) ∧ qx sc D 66 161 [l0, l1, l2, l3, vi (x + 1)] st u bb σ Q := r_iinc (k := 4) (n := 1) (by decide +kernel) rfl
theorem k66_161 : qx sc D 66 161 ls st u bb σ Q ↔ qx sc D 66 80 ls st u bb σ Q := r_goto (off := (-81)) (by decide +kernel)
theorem k66_164 : qx sc D 66 164 ls st u bb σ Q ↔ qx sc D 66 165 ls (vi 0 :: st) u bb σ Q := r_iconst (by decide +kernel)
theorem k66_165 : qx sc D 66 165 ls [vi x] (0, 0) bb σ Q ↔ (x = 0 ∨ x = 1) ∧ Q (.inl (some (vi x))) bb σ := r_retB (by decide +kernel)
-- 67: RowProver$Runner.highest(II)I
theorem k67_0 : qx sc D 67 0 [vr a, l1, l2, l3] st u bb σ Q ↔ qx sc D 67 1 [vr a, l1, l2, l3] (vr a :: st) u bb σ Q := r_aload_n (k := 0) (by decide +kernel) rfl
theorem k67_1 : qx sc D 67 1 ls (vr 77 :: st) u bb σ Q ↔ qx sc D 67 4 ls (vr 72 :: st) u bb σ Q := r_getR (idx := 43) (c := 10) (k := 3) (by decide +kernel)
theorem k67_4 : qx sc D 67 4 ls (vr 72 :: st) u bb σ Q ↔ qx sc D 67 7 ls (vr 74 :: st) u bb σ Q := r_getR (idx := 246) (c := 5) (k := 5) (by decide +kernel)
theorem k67_7 : qx sc D 67 7 [l0, vi x, l2, l3] st u bb σ Q ↔ qx sc D 67 8 [l0, vi x, l2, l3] (vi x :: st) u bb σ Q := r_iload_n (k := 1) (by decide +kernel) rfl
theorem k67_8 : qx sc D 67 8 ls (vi i :: vr a :: st) u bb σ Q ↔ (q_ty a = 0 ∧ 0 ≤ i ∧ i < q_ln a) ∧ qx sc D 67 9 ls (vi (σ a i) :: st) u bb σ Q := r_iald (by decide +kernel)
theorem k67_9 : qx sc D 67 9 ls (vi x :: st) u bb σ Q ↔ (x = 0 → qx sc D 67 12 ls st u bb σ Q) ∧ (¬ (x = 0) → qx sc D 67 18 ls st u bb σ Q) := r_if_ne (off := 9) (t := 18) (by decide +kernel)
theorem k67_12 : qx sc D 67 12 [vr a, l1, l2, l3] st u bb σ Q ↔ qx sc D 67 13 [vr a, l1, l2, l3] (vr a :: st) u bb σ Q := r_aload_n (k := 0) (by decide +kernel) rfl
theorem k67_13 : qx sc D 67 13 [l0, vi x, l2, l3] st u bb σ Q ↔ qx sc D 67 14 [l0, vi x, l2, l3] (vi x :: st) u bb σ Q := r_iload_n (k := 1) (by decide +kernel) rfl
theorem k67_14 : qx sc (D + 1) 67 14 ls [vi x0, vr 77] (0, 0) bb σ Q ↔ qx sc D 69 0 [vr 77, vi x0, vn] [] (0, 0) bb σ (q_kn sc (D + 1) 67 17 ls [] (0, 0) Q) := r_callv (idx := 228) (n := 1) (m := 3) (by decide +kernel) rfl (Nat.le_of_ble_eq_true rfl) ⟨Nat.le_of_ble_eq_true rfl, Nat.le_of_ble_eq_true rfl, rfl⟩ rfl
theorem k67_17 : qx sc D 67 17 ls [vi x] (0, 0) bb σ Q ↔ Q (.inl (some (vi x))) bb σ := r_ret (by decide +kernel)
theorem k67_18 : qx sc D 67 18 [vr a, l1, l2, l3] st u bb σ Q ↔ qx sc D 67 19 [vr a, l1, l2, l3] (vr a :: st) u bb σ Q := r_aload_n (k := 0) (by decide +kernel) rfl
theorem k67_19 : qx sc D 67 19 [l0, l1, vi x, l3] st u bb σ Q ↔ qx sc D 67 20 [l0, l1, vi x, l3] (vi x :: st) u bb σ Q := r_iload_n (k := 2) (by decide +kernel) rfl
theorem k67_20 : qx sc D 67 20 ls st u bb σ Q ↔ qx sc D 67 21 ls (vi 1 :: st) u bb σ Q := r_iconst (by decide +kernel)
theorem k67_21 : qx sc (D + 1) 67 21 ls [vi x1, vi x0, vr 77] (0, 0) bb σ Q ↔ qx sc D 73 0 [vr 77, vi x0, vi x1, vn] [] (0, 0) bb σ (q_kn sc (D + 1) 67 24 ls [] (0, 0) Q) := r_callv (idx := 155) (n := 2) (m := 4) (by decide +kernel) rfl (Nat.le_of_ble_eq_true rfl) ⟨Nat.le_of_ble_eq_true rfl, Nat.le_of_ble_eq_true rfl, rfl⟩ rfl
theorem k67_24 : qx sc D 67 24 [vr a, l1, l2, l3] st u bb σ Q ↔ qx sc D 67 25 [vr a, l1, l2, l3] (vr a :: st) u bb σ Q := r_aload_n (k := 0) (by decide +kernel) rfl
theorem k67_25 : qx sc D 67 25 ls (vr 77 :: st) u bb σ Q ↔ 0 ≤ σ 77 8 ∧ qx sc D 67 28 ls (vr (σ 77 8).toNat :: st) u bb σ Q := r_getM (idx := 60) (c := 10) (k := 8) (by decide +kernel)
theorem k67_28 (hc : q_C c) : qx sc D 67 28 ls (vr c :: st) u bb σ Q ↔ qx sc D 67 31 ls (vr (c + 16) :: st) u bb σ Q := r_getRc (idx := 158) (k := 18) (by decide +kernel) hc
theorem k67_31 (hc : q_C c) : qx sc D 67 31 ls (vr (c + 16) :: st) u bb σ Q ↔ qx sc D 67 34 ls (vr (c + 17) :: st) u bb σ Q := r_getRt (idx := 162) (k := 0) (j := 1) (by decide +kernel) hc
theorem k67_34 : qx sc D 67 34 [l0, l1, vi x, l3] st u bb σ Q ↔ qx sc D 67 35 [l0, l1, vi x, l3] (vi x :: st) u bb σ Q := r_iload_n (k := 2) (by decide +kernel) rfl
theorem k67_35 : qx sc D 67 35 ls (vi i :: vr a :: st) u bb σ Q ↔ (q_ty a = 0 ∧ 0 ≤ i ∧ i < q_ln a) ∧ qx sc D 67 36 ls (vi (σ a i) :: st) u bb σ Q := r_iald (by decide +kernel)
theorem k67_36 : qx sc D 67 36 ls (vi x :: st) u bb σ Q ↔ (x = 0 → qx sc D 67 39 ls st u bb σ Q) ∧ (¬ (x = 0) → qx sc D 67 43 ls st u bb σ Q) := r_if_ne (off := 7) (t := 43) (by decide +kernel)
theorem k67_39 : qx sc D 67 39 ls st u bb σ Q ↔ qx sc D 67 40 ls (vi 1 :: st) u bb σ Q := r_iconst (by decide +kernel)
theorem k67_40 : qx sc D 67 40 ls st u bb σ Q ↔ qx sc D 67 44 ls st u bb σ Q := r_goto (off := 4) (by decide +kernel)
theorem k67_43 : qx sc D 67 43 ls st u bb σ Q ↔ qx sc D 67 44 ls (vi 0 :: st) u bb σ Q := r_iconst (by decide +kernel)
theorem k67_44 : qx sc D 67 44 ls (vi b' :: vi a' :: st) u bb σ Q ↔ q_R (a' - b') ∧ qx sc D 67 45 ls (vi (a' - b') :: st) u bb σ Q := r_isub (by decide +kernel)
theorem k67_45 : qx sc D 67 45 [l0, l1, l2, l3] (vi x :: st) u bb σ Q ↔ qx sc D 67 46 [l0, l1, l2, vi x] st u bb σ Q := r_istore_n (k := 3) (by decide +kernel) (Nat.le_of_ble_eq_true rfl)
theorem k67_46 : qx sc D 67 46 [l0, l1, l2, vi x] st u bb σ Q ↔ qx sc D 67 47 [l0, l1, l2, vi x] (vi x :: st) u bb σ Q := r_iload_n (k := 3) (by decide +kernel) rfl
theorem k67_47 : qx sc D 67 47 [vr a, l1, l2, l3] st u bb σ Q ↔ qx sc D 67 48 [vr a, l1, l2, l3] (vr a :: st) u bb σ Q := r_aload_n (k := 0) (by decide +kernel) rfl
theorem k67_48 : qx sc D 67 48 ls (vr 77 :: st) u bb σ Q ↔ qx sc D 67 51 ls (vr 9 :: st) u bb σ Q := r_getR (idx := 35) (c := 10) (k := 0) (by decide +kernel)
theorem k67_51 : qx sc D 67 51 ls (vr 9 :: st) u bb σ Q ↔ qx sc D 67 54 ls (vr 17 :: st) u bb σ Q := r_getR (idx := 243) (c := 13) (k := 8) (by decide +kernel)
theorem k67_54 : qx sc D 67 54 [vr a, l1, l2, l3] st u bb σ Q ↔ qx sc D 67 55 [vr a, l1, l2, l3] (vr a :: st) u bb σ Q := r_aload_n (k := 0) (by decide +kernel) rfl
theorem k67_55 : qx sc D 67 55 ls (vr 77 :: st) u bb σ Q ↔ qx sc D 67 58 ls (vr 27 :: st) u bb σ Q := r_getR (idx := 39) (c := 10) (k := 1) (by decide +kernel)
theorem k67_58 : qx sc D 67 58 ls (vr 27 :: st) u bb σ Q ↔ qx sc D 67 61 ls (vr 28 :: st) u bb σ Q := r_getR (idx := 237) (c := 6) (k := 0) (by decide +kernel)
theorem k67_61 : qx sc D 67 61 [l0, vi x, l2, l3] st u bb σ Q ↔ qx sc D 67 62 [l0, vi x, l2, l3] (vi x :: st) u bb σ Q := r_iload_n (k := 1) (by decide +kernel) rfl
theorem k67_62 : qx sc D 67 62 ls (vi i :: vr a :: st) u bb σ Q ↔ (q_ty a = 0 ∧ 0 ≤ i ∧ i < q_ln a) ∧ qx sc D 67 63 ls (vi (σ a i) :: st) u bb σ Q := r_iald (by decide +kernel)
theorem k67_63 : qx sc D 67 63 ls (vi i :: vr a :: st) u bb σ Q ↔ (q_ty a = 0 ∧ 0 ≤ i ∧ i < q_ln a) ∧ qx sc D 67 64 ls (vi (σ a i) :: st) u bb σ Q := r_iald (by decide +kernel)
theorem k67_64 : qx sc D 67 64 ls (vi b' :: vi a' :: st) u bb σ Q ↔ q_R (a' + b') ∧ qx sc D 67 65 ls (vi (a' + b') :: st) u bb σ Q := r_iadd (by decide +kernel)
theorem k67_65 : qx sc D 67 65 ls [vi x] (0, 0) bb σ Q ↔ Q (.inl (some (vi x))) bb σ := r_ret (by decide +kernel)
-- 68: RowProver$Runner.holdsAhead(I)Z
theorem k68_0 : qx sc D 68 0 ls st u bb σ Q ↔ qx sc D 68 1 ls (vi 0 :: st) u bb σ Q := r_iconst (by decide +kernel)
theorem k68_1 : qx sc D 68 1 [l0, l1, l2] (vi x :: st) u bb σ Q ↔ qx sc D 68 2 [l0, l1, vi x] st u bb σ Q := r_istore_n (k := 2) (by decide +kernel) (Nat.le_of_ble_eq_true rfl)
theorem k68_2 : qx sc D 68 2 [l0, l1, vi x] st u bb σ Q ↔ qx sc D 68 3 [l0, l1, vi x] (vi x :: st) u bb σ Q := r_iload_n (k := 2) (by decide +kernel) rfl
theorem k68_3 : qx sc D 68 3 [vr a, l1, l2] st u bb σ Q ↔ qx sc D 68 4 [vr a, l1, l2] (vr a :: st) u bb σ Q := r_aload_n (k := 0) (by decide +kernel) rfl
theorem k68_4 : qx sc D 68 4 ls (vr 77 :: st) u bb σ Q ↔ 0 ≤ σ 77 8 ∧ qx sc D 68 7 ls (vr (σ 77 8).toNat :: st) u bb σ Q := r_getM (idx := 60) (c := 10) (k := 8) (by decide +kernel)
theorem k68_7 (hc : q_C c) : qx sc D 68 7 ls (vr c :: st) u bb σ Q ↔ qx sc D 68 10 ls (vi (σ c 1) :: st) u bb σ Q := r_getIc (idx := 222) (k := 1) (by decide +kernel) hc
theorem k68_10 : qx sc D 68 10 ls (vi b' :: vi a' :: st) u bb σ Q ↔ (a' < b' → qx sc D 68 13 ls st u bb σ Q) ∧ (¬ (a' < b') → qx sc D 68 114 ls st u bb σ Q) := r_ic_ge (off := 104) (t := 114) (by decide +kernel)
theorem k68_13 : qx sc D 68 13 [vr a, l1, l2] st u bb σ Q ↔ qx sc D 68 14 [vr a, l1, l2] (vr a :: st) u bb σ Q := r_aload_n (k := 0) (by decide +kernel) rfl
theorem k68_14 : qx sc D 68 14 ls (vr 77 :: st) u bb σ Q ↔ qx sc D 68 17 ls (vr 72 :: st) u bb σ Q := r_getR (idx := 43) (c := 10) (k := 3) (by decide +kernel)
theorem k68_17 : qx sc D 68 17 ls (vr 72 :: st) u bb σ Q ↔ qx sc D 68 20 ls (vr 73 :: st) u bb σ Q := r_getR (idx := 214) (c := 5) (k := 4) (by decide +kernel)
theorem k68_20 : qx sc D 68 20 [l0, l1, vi x] st u bb σ Q ↔ qx sc D 68 21 [l0, l1, vi x] (vi x :: st) u bb σ Q := r_iload_n (k := 2) (by decide +kernel) rfl
theorem k68_21 : qx sc D 68 21 ls (vi i :: vr a :: st) u bb σ Q ↔ (q_ty a = 0 ∧ 0 ≤ i ∧ i < q_ln a) ∧ qx sc D 68 22 ls (vi (σ a i) :: st) u bb σ Q := r_iald (by decide +kernel)
theorem k68_22 : qx sc D 68 22 [l0, vi x, l2] st u bb σ Q ↔ qx sc D 68 23 [l0, vi x, l2] (vi x :: st) u bb σ Q := r_iload_n (k := 1) (by decide +kernel) rfl
theorem k68_23 : qx sc D 68 23 ls (vi b' :: vi a' :: st) u bb σ Q ↔ (a' = b' → qx sc D 68 29 ls st u bb σ Q) ∧ (¬ (a' = b') → qx sc D 68 26 ls st u bb σ Q) := r_ic_eq (off := 6) (t := 29) (by decide +kernel)
theorem k68_26 : qx sc D 68 26 ls st u bb σ Q ↔ qx sc D 68 108 ls st u bb σ Q := r_goto (off := 82) (by decide +kernel)
theorem k68_29 : qx sc D 68 29 [vr a, l1, l2] st u bb σ Q ↔ qx sc D 68 30 [vr a, l1, l2] (vr a :: st) u bb σ Q := r_aload_n (k := 0) (by decide +kernel) rfl
theorem k68_30 : qx sc D 68 30 ls (vr 77 :: st) u bb σ Q ↔ qx sc D 68 33 ls (vr 66 :: st) u bb σ Q := r_getR (idx := 53) (c := 10) (k := 2) (by decide +kernel)
theorem k68_33 : qx sc D 68 33 ls (vr 66 :: st) u bb σ Q ↔ qx sc D 68 36 ls (vr 69 :: st) u bb σ Q := r_getR (idx := 217) (c := 8) (k := 7) (by decide +kernel)
theorem k68_36 : qx sc D 68 36 ls st u bb σ Q ↔ qx sc D 68 37 ls (vi 1 :: st) u bb σ Q := r_iconst (by decide +kernel)
theorem k68_37 : qx sc D 68 37 ls (vi i :: vr a :: st) u bb σ Q ↔ (q_ty a = 4 ∧ 0 ≤ i ∧ i < q_ln a) ∧ qx sc D 68 38 ls (vr (a + 1 + i.toNat) :: st) u bb σ Q := r_aald (by decide +kernel)
theorem k68_38 : qx sc D 68 38 [l0, l1, vi x] st u bb σ Q ↔ qx sc D 68 39 [l0, l1, vi x] (vi x :: st) u bb σ Q := r_iload_n (k := 2) (by decide +kernel) rfl
theorem k68_39 : qx sc D 68 39 ls (vi i :: vr a :: st) u bb σ Q ↔ (q_ty a = 0 ∧ 0 ≤ i ∧ i < q_ln a) ∧ qx sc D 68 40 ls (vi (σ a i) :: st) u bb σ Q := r_iald (by decide +kernel)
theorem k68_40 : qx sc D 68 40 ls (vi x :: st) u bb σ Q ↔ (x = 0 → qx sc D 68 43 ls st u bb σ Q) ∧ (¬ (x = 0) → qx sc D 68 57 ls st u bb σ Q) := r_if_ne (off := 17) (t := 57) (by decide +kernel)
theorem k68_43 : qx sc D 68 43 [vr a, l1, l2] st u bb σ Q ↔ qx sc D 68 44 [vr a, l1, l2] (vr a :: st) u bb σ Q := r_aload_n (k := 0) (by decide +kernel) rfl
theorem k68_44 : qx sc (D + 1) 68 44 ls [vr 77] (0, 0) bb σ Q ↔ qx sc D 61 0 [vr 77] [] (0, 0) bb σ (q_kn sc (D + 1) 68 47 ls [] (0, 0) Q) := r_callv (idx := 225) (n := 0) (m := 1) (by decide +kernel) rfl (Nat.le_of_ble_eq_true rfl) ⟨Nat.le_of_ble_eq_true rfl, Nat.le_of_ble_eq_true rfl, rfl⟩ rfl
theorem k68_47 : qx sc D 68 47 [vr a, l1, l2] st u bb σ Q ↔ qx sc D 68 48 [vr a, l1, l2] (vr a :: st) u bb σ Q := r_aload_n (k := 0) (by decide +kernel) rfl
theorem k68_48 : qx sc D 68 48 [l0, l1, vi x] st u bb σ Q ↔ qx sc D 68 49 [l0, l1, vi x] (vi x :: st) u bb σ Q := r_iload_n (k := 2) (by decide +kernel) rfl
theorem k68_49 : qx sc (D + 1) 68 49 ls [vi x0, vr 77] (0, 0) bb σ Q ↔ qx sc D 69 0 [vr 77, vi x0, vn] [] (0, 0) bb σ (q_kn sc (D + 1) 68 52 ls [] (0, 0) Q) := r_callv (idx := 228) (n := 1) (m := 3) (by decide +kernel) rfl (Nat.le_of_ble_eq_true rfl) ⟨Nat.le_of_ble_eq_true rfl, Nat.le_of_ble_eq_true rfl, rfl⟩ rfl
theorem k68_52 : qx sc D 68 52 ls (vi x :: st) u bb σ Q ↔ (x < 0 → qx sc D 68 55 ls st u bb σ Q) ∧ (¬ (x < 0) → qx sc D 68 57 ls st u bb σ Q) := r_if_ge (off := 5) (t := 57) (by decide +kernel)
theorem k68_55 : qx sc D 68 55 ls st u bb σ Q ↔ qx sc D 68 56 ls (vi 0 :: st) u bb σ Q := r_iconst (by decide +kernel)
theorem k68_56 : qx sc D 68 56 ls [vi x] (0, 0) bb σ Q ↔ (x = 0 ∨ x = 1) ∧ Q (.inl (some (vi x))) bb σ := r_retB (by decide +kernel)
theorem k68_57 : qx sc D 68 57 [vr a, l1, l2] st u bb σ Q ↔ qx sc D 68 58 [vr a, l1, l2] (vr a :: st) u bb σ Q := r_aload_n (k := 0) (by decide +kernel) rfl
theorem k68_58 : qx sc D 68 58 ls (vr 77 :: st) u bb σ Q ↔ qx sc D 68 61 ls (vr 66 :: st) u bb σ Q := r_getR (idx := 53) (c := 10) (k := 2) (by decide +kernel)
theorem k68_61 : qx sc D 68 61 ls (vr 66 :: st) u bb σ Q ↔ qx sc D 68 64 ls (vr 69 :: st) u bb σ Q := r_getR (idx := 217) (c := 8) (k := 7) (by decide +kernel)
theorem k68_64 : qx sc D 68 64 ls st u bb σ Q ↔ qx sc D 68 65 ls (vi 0 :: st) u bb σ Q := r_iconst (by decide +kernel)
theorem k68_65 : qx sc D 68 65 ls (vi i :: vr a :: st) u bb σ Q ↔ (q_ty a = 4 ∧ 0 ≤ i ∧ i < q_ln a) ∧ qx sc D 68 66 ls (vr (a + 1 + i.toNat) :: st) u bb σ Q := r_aald (by decide +kernel)
theorem k68_66 : qx sc D 68 66 [l0, l1, vi x] st u bb σ Q ↔ qx sc D 68 67 [l0, l1, vi x] (vi x :: st) u bb σ Q := r_iload_n (k := 2) (by decide +kernel) rfl
theorem k68_67 : qx sc D 68 67 ls (vi i :: vr a :: st) u bb σ Q ↔ (q_ty a = 0 ∧ 0 ≤ i ∧ i < q_ln a) ∧ qx sc D 68 68 ls (vi (σ a i) :: st) u bb σ Q := r_iald (by decide +kernel)
theorem k68_68 : qx sc D 68 68 ls (vi x :: st) u bb σ Q ↔ (x = 0 → qx sc D 68 71 ls st u bb σ Q) ∧ (¬ (x = 0) → qx sc D 68 108 ls st u bb σ Q) := r_if_ne (off := 40) (t := 108) (by decide +kernel)
theorem k68_71 : qx sc D 68 71 [vr a, l1, l2] st u bb σ Q ↔ qx sc D 68 72 [vr a, l1, l2] (vr a :: st) u bb σ Q := r_aload_n (k := 0) (by decide +kernel) rfl
theorem k68_72 : qx sc (D + 1) 68 72 ls [vr 77] (0, 0) bb σ Q ↔ qx sc D 61 0 [vr 77] [] (0, 0) bb σ (q_kn sc (D + 1) 68 75 ls [] (0, 0) Q) := r_callv (idx := 225) (n := 0) (m := 1) (by decide +kernel) rfl (Nat.le_of_ble_eq_true rfl) ⟨Nat.le_of_ble_eq_true rfl, Nat.le_of_ble_eq_true rfl, rfl⟩ rfl
theorem k68_75 : qx sc D 68 75 [vr a, l1, l2] st u bb σ Q ↔ qx sc D 68 76 [vr a, l1, l2] (vr a :: st) u bb σ Q := r_aload_n (k := 0) (by decide +kernel) rfl
theorem k68_76 : qx sc D 68 76 [l0, l1, vi x] st u bb σ Q ↔ qx sc D 68 77 [l0, l1, vi x] (vi x :: st) u bb σ Q := r_iload_n (k := 2) (by decide +kernel) rfl
theorem k68_77 : qx sc D 68 77 [vr a, l1, l2] st u bb σ Q ↔ qx sc D 68 78 [vr a, l1, l2] (vr a :: st) u bb σ Q := r_aload_n (k := 0) (by decide +kernel) rfl
theorem k68_78 : qx sc D 68 78 ls (vr 77 :: st) u bb σ Q ↔ 0 ≤ σ 77 8 ∧ qx sc D 68 81 ls (vr (σ 77 8).toNat :: st) u bb σ Q := r_getM (idx := 60) (c := 10) (k := 8) (by decide +kernel)
theorem k68_81 (hc : q_C c) : qx sc D 68 81 ls (vr c :: st) u bb σ Q ↔ qx sc D 68 84 ls (vr (c + 15) :: st) u bb σ Q := r_getRc (idx := 231) (k := 17) (by decide +kernel) hc
theorem k68_84 : qx sc D 68 84 [l0, vi x, l2] st u bb σ Q ↔ qx sc D 68 85 [l0, vi x, l2] (vi x :: st) u bb σ Q := r_iload_n (k := 1) (by decide +kernel) rfl
theorem k68_85 : qx sc D 68 85 ls (vi i :: vr a :: st) u bb σ Q ↔ (q_ty a = 0 ∧ 0 ≤ i ∧ i < q_ln a) ∧ qx sc D 68 86 ls (vi (σ a i) :: st) u bb σ Q := r_iald (by decide +kernel)
theorem k68_86 : qx sc (D + 1) 68 86 ls [vi x1, vi x0, vr 77] (0, 0) bb σ Q ↔ qx sc D 67 0 [vr 77, vi x0, vi x1, vn] [] (0, 0) bb σ (q_kn sc (D + 1) 68 89 ls [] (0, 0) Q) := r_callv (idx := 234) (n := 2) (m := 4) (by decide +kernel) rfl (Nat.le_of_ble_eq_true rfl) ⟨Nat.le_of_ble_eq_true rfl, Nat.le_of_ble_eq_true rfl, rfl⟩ rfl
theorem k68_89 : qx sc D 68 89 [vr a, l1, l2] st u bb σ Q ↔ qx sc D 68 90 [vr a, l1, l2] (vr a :: st) u bb σ Q := r_aload_n (k := 0) (by decide +kernel) rfl
theorem k68_90 : qx sc D 68 90 ls (vr 77 :: st) u bb σ Q ↔ qx sc D 68 93 ls (vr 85 :: st) u bb σ Q := r_getR (idx := 26) (c := 10) (k := 12) (by decide +kernel)
theorem k68_93 : qx sc D 68 93 [vr a, l1, l2] st u bb σ Q ↔ qx sc D 68 94 [vr a, l1, l2] (vr a :: st) u bb σ Q := r_aload_n (k := 0) (by decide +kernel) rfl
theorem k68_94 : qx sc D 68 94 ls (vr 77 :: st) u bb σ Q ↔ 0 ≤ σ 77 8 ∧ qx sc D 68 97 ls (vr (σ 77 8).toNat :: st) u bb σ Q := r_getM (idx := 60) (c := 10) (k := 8) (by decide +kernel)
theorem k68_97 (hc : q_C c) : qx sc D 68 97 ls (vr c :: st) u bb σ Q ↔ qx sc D 68 100 ls (vr (c + 13) :: st) u bb σ Q := r_getRc (idx := 190) (k := 15) (by decide +kernel) hc
theorem k68_100 : qx sc D 68 100 [l0, l1, vi x] st u bb σ Q ↔ qx sc D 68 101 [l0, l1, vi x] (vi x :: st) u bb σ Q := r_iload_n (k := 2) (by decide +kernel) rfl
theorem k68_101 : qx sc D 68 101 ls (vi i :: vr a :: st) u bb σ Q ↔ (q_ty a = 0 ∧ 0 ≤ i ∧ i < q_ln a) ∧ qx sc D 68 102 ls (vi (σ a i) :: st) u bb σ Q := r_iald (by decide +kernel)
theorem k68_102 : qx sc D 68 102 ls (vi i :: vr a :: st) u bb σ Q ↔ (q_ty a = 0 ∧ 0 ≤ i ∧ i < q_ln a) ∧ qx sc D 68 103 ls (vi (σ a i) :: st) u bb σ Q := r_iald (by decide +kernel)
theorem k68_103 : qx sc D 68 103 ls (vi b' :: vi a' :: st) u bb σ Q ↔ (a' < b' → qx sc D 68 108 ls st u bb σ Q) ∧ (¬ (a' < b') → qx sc D 68 106 ls st u bb σ Q) := r_ic_lt (off := 5) (t := 108) (by decide +kernel)
theorem k68_106 : qx sc D 68 106 ls st u bb σ Q ↔ qx sc D 68 107 ls (vi 0 :: st) u bb σ Q := r_iconst (by decide +kernel)
theorem k68_107 : qx sc D 68 107 ls [vi x] (0, 0) bb σ Q ↔ (x = 0 ∨ x = 1) ∧ Q (.inl (some (vi x))) bb σ := r_retB (by decide +kernel)
theorem k68_108 : qx sc D 68 108 [l0, l1, vi x] st u bb σ Q ↔ q_R (x + 1) ∧ qx sc D 68 111 [l0, l1, vi (x + 1)] st u bb σ Q := r_iinc (k := 2) (n := 1) (by decide +kernel) rfl
theorem k68_111 : qx sc D 68 111 ls st u bb σ Q ↔ qx sc D 68 2 ls st u bb σ Q := r_goto (off := (-109)) (by decide +kernel)
theorem k68_114 : qx sc D 68 114 ls st u bb σ Q ↔ qx sc D 68 115 ls (vi 1 :: st) u bb σ Q := r_iconst (by decide +kernel)
theorem k68_115 : qx sc D 68 115 ls [vi x] (0, 0) bb σ Q ↔ (x = 0 ∨ x = 1) ∧ Q (.inl (some (vi x))) bb σ := r_retB (by decide +kernel)
-- 69: RowProver$Runner.lowest(I)I
theorem k69_0 : qx sc D 69 0 [vr a, l1, l2] st u bb σ Q ↔ qx sc D 69 1 [vr a, l1, l2] (vr a :: st) u bb σ Q := r_aload_n (k := 0) (by decide +kernel) rfl
theorem k69_1 : qx sc D 69 1 ls (vr 77 :: st) u bb σ Q ↔ qx sc D 69 4 ls (vr 27 :: st) u bb σ Q := r_getR (idx := 39) (c := 10) (k := 1) (by decide +kernel)
theorem k69_4 : qx sc D 69 4 ls (vr 27 :: st) u bb σ Q ↔ qx sc D 69 7 ls (vr 28 :: st) u bb σ Q := r_getR (idx := 237) (c := 6) (k := 0) (by decide +kernel)
theorem k69_7 : qx sc D 69 7 [l0, vi x, l2] st u bb σ Q ↔ qx sc D 69 8 [l0, vi x, l2] (vi x :: st) u bb σ Q := r_iload_n (k := 1) (by decide +kernel) rfl
theorem k69_8 : qx sc D 69 8 ls (vi i :: vr a :: st) u bb σ Q ↔ (q_ty a = 0 ∧ 0 ≤ i ∧ i < q_ln a) ∧ qx sc D 69 9 ls (vi (σ a i) :: st) u bb σ Q := r_iald (by decide +kernel)
theorem k69_9 : qx sc D 69 9 [l0, l1, l2] (vi x :: st) u bb σ Q ↔ qx sc D 69 10 [l0, l1, vi x] st u bb σ Q := r_istore_n (k := 2) (by decide +kernel) (Nat.le_of_ble_eq_true rfl)
theorem k69_10 : qx sc D 69 10 [vr a, l1, l2] st u bb σ Q ↔ qx sc D 69 11 [vr a, l1, l2] (vr a :: st) u bb σ Q := r_aload_n (k := 0) (by decide +kernel) rfl
theorem k69_11 : qx sc D 69 11 ls (vr 77 :: st) u bb σ Q ↔ qx sc D 69 14 ls (vr 80 :: st) u bb σ Q := r_getR (idx := 18) (c := 10) (k := 10) (by decide +kernel)
theorem k69_14 : qx sc D 69 14 [vr a, l1, l2] st u bb σ Q ↔ qx sc D 69 15 [vr a, l1, l2] (vr a :: st) u bb σ Q := r_aload_n (k := 0) (by decide +kernel) rfl
theorem k69_15 : qx sc D 69 15 ls (vr 77 :: st) u bb σ Q ↔ qx sc D 69 18 ls (vr 9 :: st) u bb σ Q := r_getR (idx := 35) (c := 10) (k := 0) (by decide +kernel)
theorem k69_18 : qx sc D 69 18 ls (vr 9 :: st) u bb σ Q ↔ qx sc D 69 21 ls (vr 16 :: st) u bb σ Q := r_getR (idx := 240) (c := 13) (k := 7) (by decide +kernel)
theorem k69_21 : qx sc D 69 21 [l0, l1, vi x] st u bb σ Q ↔ qx sc D 69 22 [l0, l1, vi x] (vi x :: st) u bb σ Q := r_iload_n (k := 2) (by decide +kernel) rfl
theorem k69_22 : qx sc D 69 22 ls (vi i :: vr a :: st) u bb σ Q ↔ (q_ty a = 0 ∧ 0 ≤ i ∧ i < q_ln a) ∧ qx sc D 69 23 ls (vi (σ a i) :: st) u bb σ Q := r_iald (by decide +kernel)
theorem k69_23 : qx sc D 69 23 ls (vi i :: vr a :: st) u bb σ Q ↔ (q_ty a = 0 ∧ 0 ≤ i ∧ i < q_ln a) ∧ qx sc D 69 24 ls (vi (σ a i) :: st) u bb σ Q := r_iald (by decide +kernel)
theorem k69_24 : qx sc D 69 24 [vr a, l1, l2] st u bb σ Q ↔ qx sc D 69 25 [vr a, l1, l2] (vr a :: st) u bb σ Q := r_aload_n (k := 0) (by decide +kernel) rfl
theorem k69_25 : qx sc D 69 25 ls (vr 77 :: st) u bb σ Q ↔ qx sc D 69 28 ls (vr 9 :: st) u bb σ Q := r_getR (idx := 35) (c := 10) (k := 0) (by decide +kernel)
theorem k69_28 : qx sc D 69 28 ls (vr 9 :: st) u bb σ Q ↔ qx sc D 69 31 ls (vr 17 :: st) u bb σ Q := r_getR (idx := 243) (c := 13) (k := 8) (by decide +kernel)
theorem k69_31 : qx sc D 69 31 [l0, l1, vi x] st u bb σ Q ↔ qx sc D 69 32 [l0, l1, vi x] (vi x :: st) u bb σ Q := r_iload_n (k := 2) (by decide +kernel) rfl
theorem k69_32 : qx sc D 69 32 ls (vi i :: vr a :: st) u bb σ Q ↔ (q_ty a = 0 ∧ 0 ≤ i ∧ i < q_ln a) ∧ qx sc D 69 33 ls (vi (σ a i) :: st) u bb σ Q := r_iald (by decide +kernel)
theorem k69_33 : qx sc D 69 33 ls (vi b' :: vi a' :: st) u bb σ Q ↔ q_R (a' + b') ∧ qx sc D 69 34 ls (vi (a' + b') :: st) u bb σ Q := r_iadd (by decide +kernel)
theorem k69_34 : qx sc D 69 34 ls [vi x] (0, 0) bb σ Q ↔ Q (.inl (some (vi x))) bb σ := r_ret (by decide +kernel)
-- 70: RowProver$Runner.make(II)V
theorem k70_0 : qx sc D 70 0 [l0, vi x, l2, l3] st u bb σ Q ↔ qx sc D 70 1 [l0, vi x, l2, l3] (vi x :: st) u bb σ Q := r_iload_n (k := 1) (by decide +kernel) rfl
theorem k70_1 : qx sc D 70 1 [l0, l1, l2, l3] (vi x :: st) u bb σ Q ↔ qx sc D 70 2 [l0, l1, l2, vi x] st u bb σ Q := r_istore_n (k := 3) (by decide +kernel) (Nat.le_of_ble_eq_true rfl)
theorem k70_2 : qx sc D 70 2 [l0, l1, l2, vi x] st u bb σ Q ↔ qx sc D 70 3 [l0, l1, l2, vi x] (vi x :: st) u bb σ Q := r_iload_n (k := 3) (by decide +kernel) rfl
theorem k70_3 : qx sc D 70 3 [l0, vi x, l2, l3] st u bb σ Q ↔ qx sc D 70 4 [l0, vi x, l2, l3] (vi x :: st) u bb σ Q := r_iload_n (k := 1) (by decide +kernel) rfl
theorem k70_4 : qx sc D 70 4 [l0, l1, vi x, l3] st u bb σ Q ↔ qx sc D 70 5 [l0, l1, vi x, l3] (vi x :: st) u bb σ Q := r_iload_n (k := 2) (by decide +kernel) rfl
theorem k70_5 : qx sc D 70 5 ls (vi b' :: vi a' :: st) u bb σ Q ↔ q_R (a' + b') ∧ qx sc D 70 6 ls (vi (a' + b') :: st) u bb σ Q := r_iadd (by decide +kernel)
theorem k70_6 : qx sc D 70 6 ls (vi b' :: vi a' :: st) u bb σ Q ↔ (a' < b' → qx sc D 70 9 ls st u bb σ Q) ∧ (¬ (a' < b') → qx sc D 70 35 ls st u bb σ Q) := r_ic_ge (off := 29) (t := 35) (by decide +kernel)
theorem k70_9 : qx sc D 70 9 [vr a, l1, l2, l3] st u bb σ Q ↔ qx sc D 70 10 [vr a, l1, l2, l3] (vr a :: st) u bb σ Q := r_aload_n (k := 0) (by decide +kernel) rfl
theorem k70_10 : qx sc D 70 10 ls (vr 77 :: st) u bb σ Q ↔ qx sc D 70 13 ls (vr 80 :: st) u bb σ Q := r_getR (idx := 18) (c := 10) (k := 10) (by decide +kernel)
theorem k70_13 : qx sc D 70 13 [l0, l1, l2, vi x] st u bb σ Q ↔ qx sc D 70 14 [l0, l1, l2, vi x] (vi x :: st) u bb σ Q := r_iload_n (k := 3) (by decide +kernel) rfl
theorem k70_14 : qx sc D 70 14 [vr a, l1, l2, l3] st u bb σ Q ↔ qx sc D 70 15 [vr a, l1, l2, l3] (vr a :: st) u bb σ Q := r_aload_n (k := 0) (by decide +kernel) rfl
theorem k70_15 : qx sc D 70 15 ls (vr 77 :: st) u bb σ Q ↔ qx sc D 70 18 ls (vr 78 :: st) u bb σ Q := r_getR (idx := 9) (c := 10) (k := 6) (by decide +kernel)
theorem k70_18 : qx sc D 70 18 [vr a, l1, l2, l3] st u bb σ Q ↔ qx sc D 70 19 [vr a, l1, l2, l3] (vr a :: st) u bb σ Q := r_aload_n (k := 0) (by decide +kernel) rfl
theorem k70_19 : qx sc D 70 19 ls (vr 77 :: st) u bb σ Q ↔ qx sc D 70 22 ls (vr 9 :: st) u bb σ Q := r_getR (idx := 35) (c := 10) (k := 0) (by decide +kernel)
theorem k70_22 : qx sc D 70 22 ls (vr 9 :: st) u bb σ Q ↔ qx sc D 70 25 ls (vr 10 :: st) u bb σ Q := r_getR (idx := 152) (c := 13) (k := 1) (by decide +kernel)
theorem k70_25 : qx sc D 70 25 [l0, l1, l2, vi x] st u bb σ Q ↔ qx sc D 70 26 [l0, l1, l2, vi x] (vi x :: st) u bb σ Q := r_iload_n (k := 3) (by decide +kernel) rfl
theorem k70_26 : qx sc D 70 26 ls (vi i :: vr a :: st) u bb σ Q ↔ (q_ty a = 0 ∧ 0 ≤ i ∧ i < q_ln a) ∧ qx sc D 70 27 ls (vi (σ a i) :: st) u bb σ Q := r_iald (by decide +kernel)
theorem k70_27 : qx sc D 70 27 ls (vi i :: vr a :: st) u bb σ Q ↔ (q_ty a = 0 ∧ 0 ≤ i ∧ i < q_ln a) ∧ qx sc D 70 28 ls (vi (σ a i) :: st) u bb σ Q := r_iald (by decide +kernel)
theorem k70_28 : qx sc D 70 28 ls (vi x :: vi i :: vr a :: st) u bb σ Q ↔ (q_ty a = 0 ∧ 0 ≤ i ∧ i < q_ln a) ∧ qx sc D 70 29 ls st u bb (q_up σ a i x) Q := r_iast (by decide +kernel)
theorem k70_29 : qx sc D 70 29 [l0, l1, l2, vi x] st u bb σ Q ↔ q_R (x + 1) ∧ qx sc D 70 32 [l0, l1, l2, vi (x + 1)] st u bb σ Q := r_iinc (k := 3) (n := 1) (by decide +kernel) rfl
theorem k70_32 : qx sc D 70 32 ls st u bb σ Q ↔ qx sc D 70 2 ls st u bb σ Q := r_goto (off := (-30)) (by decide +kernel)
theorem k70_35 : qx sc D 70 35 ls [] (0, 0) bb σ Q ↔ Q (.inl none) bb σ := r_retV (by decide +kernel)
-- 71: RowProver$Runner.passes(I)Z
theorem k71_0 : qx sc D 71 0 [vr a, l1, l2, l3, l4] st u bb σ Q ↔ qx sc D 71 1 [vr a, l1, l2, l3, l4] (vr a :: st) u bb σ Q := r_aload_n (k := 0) (by decide +kernel) rfl
theorem k71_1 : qx sc D 71 1 ls (vr 77 :: st) u bb σ Q ↔ 0 ≤ σ 77 8 ∧ qx sc D 71 4 ls (vr (σ 77 8).toNat :: st) u bb σ Q := r_getM (idx := 60) (c := 10) (k := 8) (by decide +kernel)
theorem k71_4 (hc : q_C c) : qx sc D 71 4 ls (vr c :: st) u bb σ Q ↔ qx sc D 71 7 ls (vr (c + 7) :: st) u bb σ Q := r_getRc (idx := 193) (k := 9) (by decide +kernel) hc
theorem k71_7 : qx sc D 71 7 [l0, vi x, l2, l3, l4] st u bb σ Q ↔ qx sc D 71 8 [l0, vi x, l2, l3, l4] (vi x :: st) u bb σ Q := r_iload_n (k := 1) (by decide +kernel) rfl
theorem k71_8 : qx sc D 71 8 ls (vi i :: vr a :: st) u bb σ Q ↔ (q_ty a = 0 ∧ 0 ≤ i ∧ i < q_ln a) ∧ qx sc D 71 9 ls (vi (σ a i) :: st) u bb σ Q := r_iald (by decide +kernel)
theorem k71_9 : qx sc D 71 9 [l0, l1, l2, l3, l4] (vi x :: st) u bb σ Q ↔ qx sc D 71 10 [l0, l1, vi x, l3, l4] st u bb σ Q := r_istore_n (k := 2) (by decide +kernel) (Nat.le_of_ble_eq_true rfl)
theorem k71_10 : qx sc D 71 10 [l0, l1, vi x, l3, l4] st u bb σ Q ↔ qx sc D 71 11 [l0, l1, vi x, l3, l4] (vi x :: st) u bb σ Q := r_iload_n (k := 2) (by decide +kernel) rfl
theorem k71_11 : qx sc D 71 11 ls st u bb σ Q ↔ qx sc D 71 12 ls (vi (-1) :: st) u bb σ Q := r_iconst (by decide +kernel)
theorem k71_12 : qx sc D 71 12 ls (vi b' :: vi a' :: st) u bb σ Q ↔ (a' = b' → qx sc D 71 15 ls st u bb σ Q) ∧ (¬ (a' = b') → qx sc D 71 17 ls st u bb σ Q) := r_ic_ne (off := 5) (t := 17) (by decide +kernel)
theorem k71_15 : qx sc D 71 15 ls st u bb σ Q ↔ qx sc D 71 16 ls (vi 1 :: st) u bb σ Q := r_iconst (by decide +kernel)
theorem k71_16 : qx sc D 71 16 ls [vi x] (0, 0) bb σ Q ↔ (x = 0 ∨ x = 1) ∧ Q (.inl (some (vi x))) bb σ := r_retB (by decide +kernel)
theorem k71_17 : qx sc D 71 17 [vr a, l1, l2, l3, l4] st u bb σ Q ↔ qx sc D 71 18 [vr a, l1, l2, l3, l4] (vr a :: st) u bb σ Q := r_aload_n (k := 0) (by decide +kernel) rfl
theorem k71_18 : qx sc D 71 18 ls (vr 77 :: st) u bb σ Q ↔ qx sc D 71 21 ls (vr 78 :: st) u bb σ Q := r_getR (idx := 9) (c := 10) (k := 6) (by decide +kernel)
theorem k71_21 : qx sc D 71 21 [vr a, l1, l2, l3, l4] st u bb σ Q ↔ qx sc D 71 22 [vr a, l1, l2, l3, l4] (vr a :: st) u bb σ Q := r_aload_n (k := 0) (by decide +kernel) rfl
theorem k71_22 : qx sc D 71 22 ls (vr 77 :: st) u bb σ Q ↔ 0 ≤ σ 77 8 ∧ qx sc D 71 25 ls (vr (σ 77 8).toNat :: st) u bb σ Q := r_getM (idx := 60) (c := 10) (k := 8) (by decide +kernel)
theorem k71_25 (hc : q_C c) : qx sc D 71 25 ls (vr c :: st) u bb σ Q ↔ qx sc D 71 28 ls (vr (c + 14) :: st) u bb σ Q := r_getRc (idx := 205) (k := 16) (by decide +kernel) hc
theorem k71_28 : qx sc D 71 28 [l0, l1, vi x, l3, l4] st u bb σ Q ↔ qx sc D 71 29 [l0, l1, vi x, l3, l4] (vi x :: st) u bb σ Q := r_iload_n (k := 2) (by decide +kernel) rfl
theorem k71_29 : qx sc D 71 29 ls (vi i :: vr a :: st) u bb σ Q ↔ (q_ty a = 0 ∧ 0 ≤ i ∧ i < q_ln a) ∧ qx sc D 71 30 ls (vi (σ a i) :: st) u bb σ Q := r_iald (by decide +kernel)
theorem k71_30 : qx sc D 71 30 ls (vi i :: vr a :: st) u bb σ Q ↔ (q_ty a = 0 ∧ 0 ≤ i ∧ i < q_ln a) ∧ qx sc D 71 31 ls (vi (σ a i) :: st) u bb σ Q := r_iald (by decide +kernel)
theorem k71_31 : qx sc D 71 31 [l0, l1, l2, l3, l4] (vi x :: st) u bb σ Q ↔ qx sc D 71 32 [l0, l1, l2, vi x, l4] st u bb σ Q := r_istore_n (k := 3) (by decide +kernel) (Nat.le_of_ble_eq_true rfl)
theorem k71_32 : qx sc D 71 32 [l0, l1, l2, vi x, l4] st u bb σ Q ↔ qx sc D 71 33 [l0, l1, l2, vi x, l4] (vi x :: st) u bb σ Q := r_iload_n (k := 3) (by decide +kernel) rfl
theorem k71_33 : qx sc D 71 33 ls (vi x :: st) u bb σ Q ↔ (x < 0 → qx sc D 71 58 ls st u bb σ Q) ∧ (¬ (x < 0) → qx sc D 71 36 ls st u bb σ Q) := r_if_lt (off := 25) (t := 58) (by decide +kernel)
theorem k71_36 : qx sc D 71 36 [l0, l1, l2, vi x, l4] st u bb σ Q ↔ qx sc D 71 37 [l0, l1, l2, vi x, l4] (vi x :: st) u bb σ Q := r_iload_n (k := 3) (by decide +kernel) rfl
theorem k71_37 : qx sc D 71 37 [vr a, l1, l2, l3, l4] st u bb σ Q ↔ qx sc D 71 38 [vr a, l1, l2, l3, l4] (vr a :: st) u bb σ Q := r_aload_n (k := 0) (by decide +kernel) rfl
theorem k71_38 : qx sc D 71 38 ls (vr 77 :: st) u bb σ Q ↔ qx sc D 71 41 ls (vr 85 :: st) u bb σ Q := r_getR (idx := 26) (c := 10) (k := 12) (by decide +kernel)
theorem k71_41 : qx sc D 71 41 [vr a, l1, l2, l3, l4] st u bb σ Q ↔ qx sc D 71 42 [vr a, l1, l2, l3, l4] (vr a :: st) u bb σ Q := r_aload_n (k := 0) (by decide +kernel) rfl
theorem k71_42 : qx sc D 71 42 ls (vr 77 :: st) u bb σ Q ↔ 0 ≤ σ 77 8 ∧ qx sc D 71 45 ls (vr (σ 77 8).toNat :: st) u bb σ Q := r_getM (idx := 60) (c := 10) (k := 8) (by decide +kernel)
theorem k71_45 (hc : q_C c) : qx sc D 71 45 ls (vr c :: st) u bb σ Q ↔ qx sc D 71 48 ls (vr (c + 13) :: st) u bb σ Q := r_getRc (idx := 190) (k := 15) (by decide +kernel) hc
theorem k71_48 : qx sc D 71 48 [l0, l1, vi x, l3, l4] st u bb σ Q ↔ qx sc D 71 49 [l0, l1, vi x, l3, l4] (vi x :: st) u bb σ Q := r_iload_n (k := 2) (by decide +kernel) rfl
theorem k71_49 : qx sc D 71 49 ls (vi i :: vr a :: st) u bb σ Q ↔ (q_ty a = 0 ∧ 0 ≤ i ∧ i < q_ln a) ∧ qx sc D 71 50 ls (vi (σ a i) :: st) u bb σ Q := r_iald (by decide +kernel)
theorem k71_50 : qx sc D 71 50 ls (vi i :: vr a :: st) u bb σ Q ↔ (q_ty a = 0 ∧ 0 ≤ i ∧ i < q_ln a) ∧ qx sc D 71 51 ls (vi (σ a i) :: st) u bb σ Q := r_iald (by decide +kernel)
theorem k71_51 : qx sc D 71 51 ls (vi b' :: vi a' :: st) u bb σ Q ↔ (a' < b' → qx sc D 71 54 ls st u bb σ Q) ∧ (¬ (a' < b') → qx sc D 71 58 ls st u bb σ Q) := r_ic_ge (off := 7) (t := 58) (by decide +kernel)
theorem k71_54 : qx sc D 71 54 ls st u bb σ Q ↔ qx sc D 71 55 ls (vi 1 :: st) u bb σ Q := r_iconst (by decide +kernel)
theorem k71_55 : qx sc D 71 55 ls st u bb σ Q ↔ qx sc D 71 59 ls st u bb σ Q := r_goto (off := 4) (by decide +kernel)
theorem k71_58 : qx sc D 71 58 ls st u bb σ Q ↔ qx sc D 71 59 ls (vi 0 :: st) u bb σ Q := r_iconst (by decide +kernel)
theorem k71_59 : qx sc D 71 59 [l0, l1, l2, l3, l4] (vi x :: st) u bb σ Q ↔ qx sc D 71 61 [l0, l1, l2, l3, vi x] st u bb σ Q := r_istore (k := 4) (by decide +kernel) (Nat.le_of_ble_eq_true rfl)
theorem k71_61 : qx sc D 71 61 [vr a, l1, l2, l3, l4] st u bb σ Q ↔ qx sc D 71 62 [vr a, l1, l2, l3, l4] (vr a :: st) u bb σ Q := r_aload_n (k := 0) (by decide +kernel) rfl
theorem k71_62 : qx sc D 71 62 [l0, l1, vi x, l3, l4] st u bb σ Q ↔ qx sc D 71 63 [l0, l1, vi x, l3, l4] (vi x :: st) u bb σ Q := r_iload_n (k := 2) (by decide +kernel) rfl
theorem k71_63 : qx sc D 71 63 [l0, l1, l2, vi x, l4] st u bb σ Q ↔ qx sc D 71 64 [l0, l1, l2, vi x, l4] (vi x :: st) u bb σ Q := r_iload_n (k := 3) (by decide +kernel) rfl
theorem k71_64 : qx sc (D + 1) 71 64 ls [vi x1, vi x0, vr 77] (0, 0) bb σ Q ↔ qx sc D 62 0 [vr 77, vi x0, vi x1, vn] [] (0, 0) bb σ (q_kn sc (D + 1) 71 67 ls [] (0, 0) Q) := r_callv (idx := 208) (n := 2) (m := 4) (by decide +kernel) rfl (Nat.le_of_ble_eq_true rfl) ⟨Nat.le_of_ble_eq_true rfl, Nat.le_of_ble_eq_true rfl, rfl⟩ rfl
theorem k71_67 : qx sc D 71 67 [l0, l1, l2, l3, vi x] st u bb σ Q ↔ qx sc D 71 69 [l0, l1, l2, l3, vi x] (vi x :: st) u bb σ Q := r_iload (k := 4) (by decide +kernel) rfl
theorem k71_69 : qx sc D 71 69 ls (vi x :: st) u bb σ Q ↔ (x = 0 → qx sc D 71 72 ls st u bb σ Q) ∧ (¬ (x = 0) → qx sc D 71 88 ls st u bb σ Q) := r_if_ne (off := 19) (t := 88) (by decide +kernel)
theorem k71_72 : qx sc D 71 72 [vr a, l1, l2, l3, l4] st u bb σ Q ↔ qx sc D 71 73 [vr a, l1, l2, l3, l4] (vr a :: st) u bb σ Q := r_aload_n (k := 0) (by decide +kernel) rfl
theorem k71_73 : qx sc D 71 73 ls (vr 77 :: st) u bb σ Q ↔ qx sc D 71 76 ls (vr 87 :: st) u bb σ Q := r_getR (idx := 32) (c := 10) (k := 14) (by decide +kernel)
theorem k71_76 : qx sc D 71 76 ls st u bb σ Q ↔ qx sc D 71 77 ls (vi 0 :: st) u bb σ Q := r_iconst (by decide +kernel)
theorem k71_77 : qx sc D 71 77 ls st u bb σ Q ↔ qx sc D 71 78 ls (vi 1 :: st) u bb σ Q := r_iconst (by decide +kernel)
theorem k71_78 : qx sc D 71 78 ls (vi x :: vi i :: vr a :: st) u bb σ Q ↔ (q_ty a = 0 ∧ 0 ≤ i ∧ i < q_ln a) ∧ qx sc D 71 79 ls st u bb (q_up σ a i x) Q := r_iast (by decide +kernel)
theorem k71_79 : qx sc D 71 79 [vr a, l1, l2, l3, l4] st u bb σ Q ↔ qx sc D 71 80 [vr a, l1, l2, l3, l4] (vr a :: st) u bb σ Q := r_aload_n (k := 0) (by decide +kernel) rfl
theorem k71_80 : qx sc D 71 80 ls (vr 77 :: st) u bb σ Q ↔ qx sc D 71 83 ls (vr 87 :: st) u bb σ Q := r_getR (idx := 32) (c := 10) (k := 14) (by decide +kernel)
theorem k71_83 : qx sc D 71 83 ls st u bb σ Q ↔ qx sc D 71 84 ls (vi 1 :: st) u bb σ Q := r_iconst (by decide +kernel)
theorem k71_84 : qx sc D 71 84 [l0, vi x, l2, l3, l4] st u bb σ Q ↔ qx sc D 71 85 [l0, vi x, l2, l3, l4] (vi x :: st) u bb σ Q := r_iload_n (k := 1) (by decide +kernel) rfl
theorem k71_85 : qx sc D 71 85 ls (vi x :: vi i :: vr a :: st) u bb σ Q ↔ (q_ty a = 0 ∧ 0 ≤ i ∧ i < q_ln a) ∧ qx sc D 71 86 ls st u bb (q_up σ a i x) Q := r_iast (by decide +kernel)
theorem k71_86 : qx sc D 71 86 ls st u bb σ Q ↔ qx sc D 71 87 ls (vi 0 :: st) u bb σ Q := r_iconst (by decide +kernel)
theorem k71_87 : qx sc D 71 87 ls [vi x] (0, 0) bb σ Q ↔ (x = 0 ∨ x = 1) ∧ Q (.inl (some (vi x))) bb σ := r_retB (by decide +kernel)
theorem k71_88 : qx sc D 71 88 [vr a, l1, l2, l3, l4] st u bb σ Q ↔ qx sc D 71 89 [vr a, l1, l2, l3, l4] (vr a :: st) u bb σ Q := r_aload_n (k := 0) (by decide +kernel) rfl
theorem k71_89 : qx sc D 71 89 ls (vr 77 :: st) u bb σ Q ↔ qx sc D 71 92 ls (vr 80 :: st) u bb σ Q := r_getR (idx := 18) (c := 10) (k := 10) (by decide +kernel)
theorem k71_92 : qx sc D 71 92 [vr a, l1, l2, l3, l4] st u bb σ Q ↔ qx sc D 71 93 [vr a, l1, l2, l3, l4] (vr a :: st) u bb σ Q := r_aload_n (k := 0) (by decide +kernel) rfl
theorem k71_93 : qx sc D 71 93 ls (vr 77 :: st) u bb σ Q ↔ qx sc D 71 96 ls (vr 27 :: st) u bb σ Q := r_getR (idx := 39) (c := 10) (k := 1) (by decide +kernel)
theorem k71_96 : qx sc D 71 96 ls (vr 27 :: st) u bb σ Q ↔ qx sc D 71 99 ls (vr 29 :: st) u bb σ Q := r_getR (idx := 211) (c := 6) (k := 1) (by decide +kernel)
theorem k71_99 : qx sc D 71 99 [l0, l1, vi x, l3, l4] st u bb σ Q ↔ qx sc D 71 100 [l0, l1, vi x, l3, l4] (vi x :: st) u bb σ Q := r_iload_n (k := 2) (by decide +kernel) rfl
theorem k71_100 : qx sc D 71 100 ls (vi i :: vr a :: st) u bb σ Q ↔ (q_ty a = 0 ∧ 0 ≤ i ∧ i < q_ln a) ∧ qx sc D 71 101 ls (vi (σ a i) :: st) u bb σ Q := r_iald (by decide +kernel)
theorem k71_101 : qx sc D 71 101 [l0, l1, l2, vi x, l4] st u bb σ Q ↔ qx sc D 71 102 [l0, l1, l2, vi x, l4] (vi x :: st) u bb σ Q := r_iload_n (k := 3) (by decide +kernel) rfl
theorem k71_102 : qx sc D 71 102 ls (vi x :: vi i :: vr a :: st) u bb σ Q ↔ (q_ty a = 0 ∧ 0 ≤ i ∧ i < q_ln a) ∧ qx sc D 71 103 ls st u bb (q_up σ a i x) Q := r_iast (by decide +kernel)
theorem k71_103 : qx sc D 71 103 ls st u bb σ Q ↔ qx sc D 71 104 ls (vi 1 :: st) u bb σ Q := r_iconst (by decide +kernel)
theorem k71_104 : qx sc D 71 104 ls [vi x] (0, 0) bb σ Q ↔ (x = 0 ∨ x = 1) ∧ Q (.inl (some (vi x))) bb σ := r_retB (by decide +kernel)
-- 72: RowProver$Runner.perform(LRowProver$Code;I)V
theorem k72_0 : qx sc D 72 0 [vr a, l1, l2, l3, l4] st u bb σ Q ↔ qx sc D 72 1 [vr a, l1, l2, l3, l4] (vr a :: st) u bb σ Q := r_aload_n (k := 0) (by decide +kernel) rfl
theorem k72_1 : qx sc D 72 1 [l0, vr a, l2, l3, l4] st u bb σ Q ↔ qx sc D 72 2 [l0, vr a, l2, l3, l4] (vr a :: st) u bb σ Q := r_aload_n (k := 1) (by decide +kernel) rfl
theorem k72_2 : qx sc D 72 2 ls (vr b :: vr 77 :: st) u bb σ Q ↔ b < 1000000 ∧ qx sc D 72 5 ls st u bb (q_up σ 77 8 b) Q := r_putM (idx := 60) (c := 10) (k := 8) (by decide +kernel)
theorem k72_5 : qx sc D 72 5 [vr a, l1, l2, l3, l4] st u bb σ Q ↔ qx sc D 72 6 [vr a, l1, l2, l3, l4] (vr a :: st) u bb σ Q := r_aload_n (k := 0) (by decide +kernel) rfl
theorem k72_6 : qx sc D 72 6 [l0, l1, vi x, l3, l4] st u bb σ Q ↔ qx sc D 72 7 [l0, l1, vi x, l3, l4] (vi x :: st) u bb σ Q := r_iload_n (k := 2) (by decide +kernel) rfl
theorem k72_7 : qx sc D 72 7 ls (vi x :: vr 77 :: st) u bb σ Q ↔ qx sc D 72 10 ls st u bb (q_up σ 77 9 x) Q := r_putI (idx := 64) (c := 10) (k := 9) (by decide +kernel)
theorem k72_10 : qx sc D 72 10 [vr a, l1, l2, l3, l4] st u bb σ Q ↔ qx sc D 72 11 [vr a, l1, l2, l3, l4] (vr a :: st) u bb σ Q := r_aload_n (k := 0) (by decide +kernel) rfl
theorem k72_11 : qx sc D 72 11 ls (vr 77 :: st) u bb σ Q ↔ qx sc D 72 14 ls (vr 78 :: st) u bb σ Q := r_getR (idx := 9) (c := 10) (k := 6) (by decide +kernel)
theorem k72_14 : qx sc D 72 14 ls st u bb σ Q ↔ qx sc D 72 15 ls (vi 0 :: st) u bb σ Q := r_iconst (by decide +kernel)
theorem k72_15 : qx sc (D + 1) 72 15 ls [vi x1, vr a0] (0, 0) bb σ Q ↔ qx sc D 249 0 [vr a0, vi x1, vn, vn] [] (0, 0) bb σ (q_kn sc (D + 1) 72 18 ls [] (0, 0) Q) := r_calls (idx := 68) (n := 2) (m := 4) (by decide +kernel) rfl (Nat.le_of_ble_eq_true rfl) ⟨Nat.le_of_ble_eq_true rfl, Nat.le_of_ble_eq_true rfl, rfl⟩ rfl
theorem k72_18 : qx sc D 72 18 [vr a, l1, l2, l3, l4] st u bb σ Q ↔ qx sc D 72 19 [vr a, l1, l2, l3, l4] (vr a :: st) u bb σ Q := r_aload_n (k := 0) (by decide +kernel) rfl
theorem k72_19 : qx sc D 72 19 ls (vr 77 :: st) u bb σ Q ↔ qx sc D 72 22 ls (vr 79 :: st) u bb σ Q := r_getR (idx := 15) (c := 10) (k := 7) (by decide +kernel)
theorem k72_22 : qx sc D 72 22 ls st u bb σ Q ↔ qx sc D 72 23 ls (vi 0 :: st) u bb σ Q := r_iconst (by decide +kernel)
theorem k72_23 : qx sc (D + 1) 72 23 ls [vi x1, vr a0] (0, 0) bb σ Q ↔ qx sc D 249 0 [vr a0, vi x1, vn, vn] [] (0, 0) bb σ (q_kn sc (D + 1) 72 26 ls [] (0, 0) Q) := r_calls (idx := 68) (n := 2) (m := 4) (by decide +kernel) rfl (Nat.le_of_ble_eq_true rfl) ⟨Nat.le_of_ble_eq_true rfl, Nat.le_of_ble_eq_true rfl, rfl⟩ rfl
theorem k72_26 : qx sc D 72 26 [vr a, l1, l2, l3, l4] st u bb σ Q ↔ qx sc D 72 27 [vr a, l1, l2, l3, l4] (vr a :: st) u bb σ Q := r_aload_n (k := 0) (by decide +kernel) rfl
theorem k72_27 : qx sc D 72 27 ls (vr 77 :: st) u bb σ Q ↔ qx sc D 72 30 ls (vr 80 :: st) u bb σ Q := r_getR (idx := 18) (c := 10) (k := 10) (by decide +kernel)
theorem k72_30 : qx sc D 72 30 ls st u bb σ Q ↔ qx sc D 72 31 ls (vi 0 :: st) u bb σ Q := r_iconst (by decide +kernel)
theorem k72_31 : qx sc D 72 31 [vr a, l1, l2, l3, l4] st u bb σ Q ↔ qx sc D 72 32 [vr a, l1, l2, l3, l4] (vr a :: st) u bb σ Q := r_aload_n (k := 0) (by decide +kernel) rfl
theorem k72_32 : qx sc D 72 32 ls (vr 77 :: st) u bb σ Q ↔ qx sc D 72 35 ls (vr 9 :: st) u bb σ Q := r_getR (idx := 35) (c := 10) (k := 0) (by decide +kernel)
theorem k72_35 : qx sc D 72 35 ls (vr 9 :: st) u bb σ Q ↔ qx sc D 72 38 ls (vi (σ 9 0) :: st) u bb σ Q := r_getI (idx := 74) (c := 13) (k := 0) (by decide +kernel)
theorem k72_38 : qx sc D 72 38 ls st u bb σ Q ↔ qx sc D 72 39 ls (vi 0 :: st) u bb σ Q := r_iconst (by decide +kernel)
theorem k72_39 : qx sc (D + 1) 72 39 ls [vi x3, vi x2, vi x1, vr a0] (0, 0) bb σ Q ↔ qx sc D 250 0 [vr a0, vi x1, vi x2, vi x3, vn] [] (0, 0) bb σ (q_kn sc (D + 1) 72 42 ls [] (0, 0) Q) := r_calls (idx := 79) (n := 4) (m := 5) (by decide +kernel) rfl (Nat.le_of_ble_eq_true rfl) ⟨Nat.le_of_ble_eq_true rfl, Nat.le_of_ble_eq_true rfl, rfl⟩ rfl
theorem k72_42 : qx sc D 72 42 [vr a, l1, l2, l3, l4] st u bb σ Q ↔ qx sc D 72 43 [vr a, l1, l2, l3, l4] (vr a :: st) u bb σ Q := r_aload_n (k := 0) (by decide +kernel) rfl
theorem k72_43 : qx sc D 72 43 ls (vr 77 :: st) u bb σ Q ↔ qx sc D 72 46 ls (vr 87 :: st) u bb σ Q := r_getR (idx := 32) (c := 10) (k := 14) (by decide +kernel)
theorem k72_46 : qx sc D 72 46 ls st u bb σ Q ↔ qx sc D 72 47 ls (vi 0 :: st) u bb σ Q := r_iconst (by decide +kernel)
theorem k72_47 : qx sc (D + 1) 72 47 ls [vi x1, vr a0] (0, 0) bb σ Q ↔ qx sc D 249 0 [vr a0, vi x1, vn, vn] [] (0, 0) bb σ (q_kn sc (D + 1) 72 50 ls [] (0, 0) Q) := r_calls (idx := 68) (n := 2) (m := 4) (by decide +kernel) rfl (Nat.le_of_ble_eq_true rfl) ⟨Nat.le_of_ble_eq_true rfl, Nat.le_of_ble_eq_true rfl, rfl⟩ rfl
theorem k72_50 : qx sc D 72 50 [vr a, l1, l2, l3, l4] st u bb σ Q ↔ qx sc D 72 51 [vr a, l1, l2, l3, l4] (vr a :: st) u bb σ Q := r_aload_n (k := 0) (by decide +kernel) rfl
theorem k72_51 : qx sc D 72 51 ls (vr 77 :: st) u bb σ Q ↔ qx sc D 72 54 ls (vr 87 :: st) u bb σ Q := r_getR (idx := 32) (c := 10) (k := 14) (by decide +kernel)
theorem k72_54 : qx sc D 72 54 ls st u bb σ Q ↔ qx sc D 72 55 ls (vi 0 :: st) u bb σ Q := r_iconst (by decide +kernel)
theorem k72_55 : qx sc D 72 55 ls st u bb σ Q ↔ qx sc D 72 56 ls (vi 0 :: st) u bb σ Q := r_iconst (by decide +kernel)
theorem k72_56 : qx sc D 72 56 ls (vi x :: vi i :: vr a :: st) u bb σ Q ↔ (q_ty a = 0 ∧ 0 ≤ i ∧ i < q_ln a) ∧ qx sc D 72 57 ls st u bb (q_up σ a i x) Q := r_iast (by decide +kernel)
theorem k72_57 : qx sc D 72 57 [vr a, l1, l2, l3, l4] st u bb σ Q ↔ qx sc D 72 58 [vr a, l1, l2, l3, l4] (vr a :: st) u bb σ Q := r_aload_n (k := 0) (by decide +kernel) rfl
theorem k72_58 : qx sc D 72 58 ls (vr 77 :: st) u bb σ Q ↔ qx sc D 72 61 ls (vr 87 :: st) u bb σ Q := r_getR (idx := 32) (c := 10) (k := 14) (by decide +kernel)
theorem k72_61 : qx sc D 72 61 ls st u bb σ Q ↔ qx sc D 72 62 ls (vi 1 :: st) u bb σ Q := r_iconst (by decide +kernel)
theorem k72_62 : qx sc D 72 62 ls st u bb σ Q ↔ qx sc D 72 63 ls (vi (-1) :: st) u bb σ Q := r_iconst (by decide +kernel)
theorem k72_63 : qx sc D 72 63 ls (vi x :: vi i :: vr a :: st) u bb σ Q ↔ (q_ty a = 0 ∧ 0 ≤ i ∧ i < q_ln a) ∧ qx sc D 72 64 ls st u bb (q_up σ a i x) Q := r_iast (by decide +kernel)
theorem k72_64 : qx sc D 72 64 ls st u bb σ Q ↔ qx sc D 72 65 ls (vi 0 :: st) u bb σ Q := r_iconst (by decide +kernel)
theorem k72_65 : qx sc D 72 65 [l0, l1, l2, l3, l4] (vi x :: st) u bb σ Q ↔ qx sc D 72 66 [l0, l1, l2, vi x, l4] st u bb σ Q := r_istore_n (k := 3) (by decide +kernel) (Nat.le_of_ble_eq_true rfl)
theorem k72_66 : qx sc D 72 66 [l0, l1, l2, vi x, l4] st u bb σ Q ↔ qx sc D 72 67 [l0, l1, l2, vi x, l4] (vi x :: st) u bb σ Q := r_iload_n (k := 3) (by decide +kernel) rfl
theorem k72_67 : qx sc D 72 67 ls st u bb σ Q ↔ qx sc D 72 68 ls (vi 3 :: st) u bb σ Q := r_iconst (by decide +kernel)
theorem k72_68 : qx sc D 72 68 ls (vi b' :: vi a' :: st) u bb σ Q ↔ (a' < b' → qx sc D 72 71 ls st u bb σ Q) ∧ (¬ (a' < b') → qx sc D 72 128 ls st u bb σ Q) := r_ic_ge (off := 60) (t := 128) (by decide +kernel)
theorem k72_71 : qx sc D 72 71 [vr a, l1, l2, l3, l4] st u bb σ Q ↔ qx sc D 72 72 [vr a, l1, l2, l3, l4] (vr a :: st) u bb σ Q := r_aload_n (k := 0) (by decide +kernel) rfl
theorem k72_72 : qx sc D 72 72 ls (vr 77 :: st) u bb σ Q ↔ qx sc D 72 75 ls (vr 85 :: st) u bb σ Q := r_getR (idx := 26) (c := 10) (k := 12) (by decide +kernel)
theorem k72_75 : qx sc D 72 75 [l0, l1, l2, vi x, l4] st u bb σ Q ↔ qx sc D 72 76 [l0, l1, l2, vi x, l4] (vi x :: st) u bb σ Q := r_iload_n (k := 3) (by decide +kernel) rfl
theorem k72_76 : qx sc D 72 76 [vr a, l1, l2, l3, l4] st u bb σ Q ↔ qx sc D 72 77 [vr a, l1, l2, l3, l4] (vr a :: st) u bb σ Q := r_aload_n (k := 0) (by decide +kernel) rfl
theorem k72_77 : qx sc D 72 77 ls (vr 77 :: st) u bb σ Q ↔ qx sc D 72 80 ls (vr 3 :: st) u bb σ Q := r_getR (idx := 57) (c := 10) (k := 5) (by decide +kernel)
theorem k72_80 : qx sc D 72 80 [l0, l1, l2, vi x, l4] st u bb σ Q ↔ qx sc D 72 81 [l0, l1, l2, vi x, l4] (vi x :: st) u bb σ Q := r_iload_n (k := 3) (by decide +kernel) rfl
theorem k72_81 : qx sc D 72 81 ls (vi i :: vr a :: st) u bb σ Q ↔ (q_ty a = 0 ∧ 0 ≤ i ∧ i < q_ln a) ∧ qx sc D 72 82 ls (vi (σ a i) :: st) u bb σ Q := r_iald (by decide +kernel)
theorem k72_82 : qx sc D 72 82 [vr a, l1, l2, l3, l4] st u bb σ Q ↔ qx sc D 72 83 [vr a, l1, l2, l3, l4] (vr a :: st) u bb σ Q := r_aload_n (k := 0) (by decide +kernel) rfl
theorem k72_83 : qx sc D 72 83 ls (vr 77 :: st) u bb σ Q ↔ 0 ≤ σ 77 8 ∧ qx sc D 72 86 ls (vr (σ 77 8).toNat :: st) u bb σ Q := r_getM (idx := 60) (c := 10) (k := 8) (by decide +kernel)
theorem k72_86 (hc : q_C c) : qx sc D 72 86 ls (vr c :: st) u bb σ Q ↔ qx sc D 72 89 ls (vr (c + 1) :: st) u bb σ Q := r_getRc (idx := 82) (k := 3) (by decide +kernel) hc
theorem k72_89 : qx sc D 72 89 [l0, l1, l2, vi x, l4] st u bb σ Q ↔ qx sc D 72 90 [l0, l1, l2, vi x, l4] (vi x :: st) u bb σ Q := r_iload_n (k := 3) (by decide +kernel) rfl
theorem k72_90 : qx sc D 72 90 ls (vi i :: vr a :: st) u bb σ Q ↔ (q_ty a = 0 ∧ 0 ≤ i ∧ i < q_ln a) ∧ qx sc D 72 91 ls (vi (σ a i) :: st) u bb σ Q := r_iald (by decide +kernel)
theorem k72_91 : qx sc D 72 91 ls [vi b', vi a', vi x20, vr a21] (0, 0) bb σ Q ↔ qx sc D 72 94 ls [vi (max a' b'), vi x20, vr a21] (0, 0) bb σ Q := r_max (idx := 87) (y' := 0) (by decide +kernel) (Nat.le_of_ble_eq_true rfl)
theorem k72_94 : qx sc D 72 94 ls (vi x :: vi i :: vr a :: st) u bb σ Q ↔ (q_ty a = 0 ∧ 0 ≤ i ∧ i < q_ln a) ∧ qx sc D 72 95 ls st u bb (q_up σ a i x) Q := r_iast (by decide +kernel)
theorem k72_95 : qx sc D 72 95 ls st u bb σ Q ↔ qx sc D 72 96 ls (vi 0 :: st) u bb σ Q := r_iconst (by decide +kernel)
theorem k72_96 : qx sc D 72 96 [l0, l1, l2, l3, l4] (vi x :: st) u bb σ Q ↔ qx sc D 72 98 [l0, l1, l2, l3, vi x] st u bb σ Q := r_istore (k := 4) (by decide +kernel) (Nat.le_of_ble_eq_true rfl)
theorem k72_98 : qx sc D 72 98 [l0, l1, l2, l3, vi x] st u bb σ Q ↔ qx sc D 72 100 [l0, l1, l2, l3, vi x] (vi x :: st) u bb σ Q := r_iload (k := 4) (by decide +kernel) rfl
theorem k72_100 : qx sc D 72 100 ls st u bb σ Q ↔ qx sc D 72 102 ls (vi 40 :: st) u bb σ Q := r_bipush (by decide +kernel)
theorem k72_102 : qx sc D 72 102 ls (vi b' :: vi a' :: st) u bb σ Q ↔ (a' < b' → qx sc D 72 105 ls st u bb σ Q) ∧ (¬ (a' < b') → qx sc D 72 122 ls st u bb σ Q) := r_ic_ge (off := 20) (t := 122) (by decide +kernel)
theorem k72_105 : qx sc D 72 105 [vr a, l1, l2, l3, l4] st u bb σ Q ↔ qx sc D 72 106 [vr a, l1, l2, l3, l4] (vr a :: st) u bb σ Q := r_aload_n (k := 0) (by decide +kernel) rfl
theorem k72_106 : qx sc D 72 106 ls (vr 77 :: st) u bb σ Q ↔ qx sc D 72 109 ls (vr 81 :: st) u bb σ Q := r_getR (idx := 23) (c := 10) (k := 11) (by decide +kernel)
theorem k72_109 : qx sc D 72 109 [l0, l1, l2, vi x, l4] st u bb σ Q ↔ qx sc D 72 110 [l0, l1, l2, vi x, l4] (vi x :: st) u bb σ Q := r_iload_n (k := 3) (by decide +kernel) rfl
theorem k72_110 : qx sc D 72 110 ls (vi i :: vr a :: st) u bb σ Q ↔ (q_ty a = 4 ∧ 0 ≤ i ∧ i < q_ln a) ∧ qx sc D 72 111 ls (vr (a + 1 + i.toNat) :: st) u bb σ Q := r_aald (by decide +kernel)
theorem k72_111 : qx sc D 72 111 [l0, l1, l2, l3, vi x] st u bb σ Q ↔ qx sc D 72 113 [l0, l1, l2, l3, vi x] (vi x :: st) u bb σ Q := r_iload (k := 4) (by decide +kernel) rfl
theorem k72_113 : qx sc D 72 113 [l0, l1, l2, l3, vi x] st u bb σ Q ↔ qx sc D 72 115 [l0, l1, l2, l3, vi x] (vi x :: st) u bb σ Q := r_iload (k := 4) (by decide +kernel) rfl
theorem k72_115 : qx sc D 72 115 ls (vi x :: vi i :: vr a :: st) u bb σ Q ↔ (q_ty a = 0 ∧ 0 ≤ i ∧ i < q_ln a) ∧ qx sc D 72 116 ls st u bb (q_up σ a i x) Q := r_iast (by decide +kernel)
theorem k72_116 : qx sc D 72 116 [l0, l1, l2, l3, vi x] st u bb σ Q ↔ q_R (x + 1) ∧ qx sc D 72 119 [l0, l1, l2, l3, vi (x + 1)] st u bb σ Q := r_iinc (k := 4) (n := 1) (by decide +kernel) rfl
theorem k72_119 : qx sc D 72 119 ls st u bb σ Q ↔ qx sc D 72 98 ls st u bb σ Q := r_goto (off := (-21)) (by decide +kernel)
theorem k72_122 : qx sc D 72 122 [l0, l1, l2, vi x, l4] st u bb σ Q ↔ q_R (x + 1) ∧ qx sc D 72 125 [l0, l1, l2, vi (x + 1), l4] st u bb σ Q := r_iinc (k := 3) (n := 1) (by decide +kernel) rfl
theorem k72_125 : qx sc D 72 125 ls st u bb σ Q ↔ qx sc D 72 66 ls st u bb σ Q := r_goto (off := (-59)) (by decide +kernel)
theorem k72_128 : qx sc D 72 128 [vr a, l1, l2, l3, l4] st u bb σ Q ↔ qx sc D 72 129 [vr a, l1, l2, l3, l4] (vr a :: st) u bb σ Q := r_aload_n (k := 0) (by decide +kernel) rfl
theorem k72_129 : qx sc D 72 129 ls st u bb σ Q ↔ qx sc D 72 130 ls (vi 0 :: st) u bb σ Q := r_iconst (by decide +kernel)
theorem k72_130 : qx sc D 72 130 [vr a, l1, l2, l3, l4] st u bb σ Q ↔ qx sc D 72 131 [vr a, l1, l2, l3, l4] (vr a :: st) u bb σ Q := r_aload_n (k := 0) (by decide +kernel) rfl
theorem k72_131 : qx sc D 72 131 ls (vr 77 :: st) u bb σ Q ↔ 0 ≤ σ 77 8 ∧ qx sc D 72 134 ls (vr (σ 77 8).toNat :: st) u bb σ Q := r_getM (idx := 60) (c := 10) (k := 8) (by decide +kernel)
theorem k72_134 (hc : q_C c) : qx sc D 72 134 ls (vr c :: st) u bb σ Q ↔ qx sc D 72 137 ls (vi (σ c 0) :: st) u bb σ Q := r_getIc (idx := 93) (k := 0) (by decide +kernel) hc
theorem k72_137 : qx sc D 72 137 ls st u bb σ Q ↔ qx sc D 72 138 ls (vi 0 :: st) u bb σ Q := r_iconst (by decide +kernel)
theorem k72_138 : qx sc (D + 1) 72 138 ls [vi x2, vi x1, vi x0, vr 77] (0, 0) bb σ Q ↔ qx sc D 64 0 [vr 77, vi x0, vi x1, vi x2, vn, vn] [] (0, 0) bb σ (q_kn sc (D + 1) 72 141 ls [] (0, 0) Q) := r_callv (idx := 96) (n := 3) (m := 6) (by decide +kernel) rfl (Nat.le_of_ble_eq_true rfl) ⟨Nat.le_of_ble_eq_true rfl, Nat.le_of_ble_eq_true rfl, rfl⟩ rfl
theorem k72_141 : qx sc D 72 141 ls (vi x :: st) u bb σ Q ↔ qx sc D 72 142 ls st u bb σ Q := r_popI (by decide +kernel)
theorem k72_142 : qx sc D 72 142 ls [] (0, 0) bb σ Q ↔ Q (.inl none) bb σ := r_retV (by decide +kernel)
-- 73: RowProver$Runner.sideNow(II)I
theorem k73_0 : qx sc D 73 0 [vr a, l1, l2, l3] st u bb σ Q ↔ qx sc D 73 1 [vr a, l1, l2, l3] (vr a :: st) u bb σ Q := r_aload_n (k := 0) (by decide +kernel) rfl
theorem k73_1 : qx sc D 73 1 ls (vr 77 :: st) u bb σ Q ↔ 0 ≤ σ 77 8 ∧ qx sc D 73 4 ls (vr (σ 77 8).toNat :: st) u bb σ Q := r_getM (idx := 60) (c := 10) (k := 8) (by decide +kernel)
theorem k73_4 (hc : q_C c) : qx sc D 73 4 ls (vr c :: st) u bb σ Q ↔ qx sc D 73 7 ls (vr (c + 16) :: st) u bb σ Q := r_getRc (idx := 158) (k := 18) (by decide +kernel) hc
theorem k73_7 (hc : q_C c) : qx sc D 73 7 ls (vr (c + 16) :: st) u bb σ Q ↔ qx sc D 73 10 ls (vr (c + 21) :: st) u bb σ Q := r_getRt (idx := 176) (k := 2) (j := 5) (by decide +kernel) hc
theorem k73_10 : qx sc D 73 10 [l0, l1, vi x, l3] st u bb σ Q ↔ qx sc D 73 11 [l0, l1, vi x, l3] (vi x :: st) u bb σ Q := r_iload_n (k := 2) (by decide +kernel) rfl
theorem k73_11 : qx sc D 73 11 ls (vi i :: vr a :: st) u bb σ Q ↔ (q_ty a = 4 ∧ 0 ≤ i ∧ i < q_ln a) ∧ qx sc D 73 12 ls (vr (a + 1 + i.toNat) :: st) u bb σ Q := r_aald (by decide +kernel)
theorem k73_12 : qx sc D 73 12 [l0, vi x, l2, l3] st u bb σ Q ↔ qx sc D 73 13 [l0, vi x, l2, l3] (vi x :: st) u bb σ Q := r_iload_n (k := 1) (by decide +kernel) rfl
theorem k73_13 : qx sc D 73 13 ls (vi i :: vr a :: st) u bb σ Q ↔ (q_ty a = 0 ∧ 0 ≤ i ∧ i < q_ln a) ∧ qx sc D 73 14 ls (vi (σ a i) :: st) u bb σ Q := r_iald (by decide +kernel)
theorem k73_14 : qx sc D 73 14 [l0, l1, l2, l3] (vi x :: st) u bb σ Q ↔ qx sc D 73 15 [l0, l1, l2, vi x] st u bb σ Q := r_istore_n (k := 3) (by decide +kernel) (Nat.le_of_ble_eq_true rfl)
theorem k73_15 : qx sc D 73 15 [vr a, l1, l2, l3] st u bb σ Q ↔ qx sc D 73 16 [vr a, l1, l2, l3] (vr a :: st) u bb σ Q := r_aload_n (k := 0) (by decide +kernel) rfl
theorem k73_16 : qx sc D 73 16 ls (vr 77 :: st) u bb σ Q ↔ 0 ≤ σ 77 8 ∧ qx sc D 73 19 ls (vr (σ 77 8).toNat :: st) u bb σ Q := r_getM (idx := 60) (c := 10) (k := 8) (by decide +kernel)
theorem k73_19 (hc : q_C c) : qx sc D 73 19 ls (vr c :: st) u bb σ Q ↔ qx sc D 73 22 ls (vr (c + 16) :: st) u bb σ Q := r_getRc (idx := 158) (k := 18) (by decide +kernel) hc
theorem k73_22 (hc : q_C c) : qx sc D 73 22 ls (vr (c + 16) :: st) u bb σ Q ↔ qx sc D 73 25 ls (vr (c + 18) :: st) u bb σ Q := r_getRt (idx := 179) (k := 1) (j := 2) (by decide +kernel) hc
theorem k73_25 : qx sc D 73 25 [l0, l1, vi x, l3] st u bb σ Q ↔ qx sc D 73 26 [l0, l1, vi x, l3] (vi x :: st) u bb σ Q := r_iload_n (k := 2) (by decide +kernel) rfl
theorem k73_26 : qx sc D 73 26 ls (vi i :: vr a :: st) u bb σ Q ↔ (q_ty a = 4 ∧ 0 ≤ i ∧ i < q_ln a) ∧ qx sc D 73 27 ls (vr (a + 1 + i.toNat) :: st) u bb σ Q := r_aald (by decide +kernel)
theorem k73_27 : qx sc D 73 27 [l0, vi x, l2, l3] st u bb σ Q ↔ qx sc D 73 28 [l0, vi x, l2, l3] (vi x :: st) u bb σ Q := r_iload_n (k := 1) (by decide +kernel) rfl
theorem k73_28 : qx sc D 73 28 ls (vi i :: vr a :: st) u bb σ Q ↔ (q_ty a = 0 ∧ 0 ≤ i ∧ i < q_ln a) ∧ qx sc D 73 29 ls (vi (σ a i) :: st) u bb σ Q := r_iald (by decide +kernel)
theorem k73_29 : qx sc D 73 29 ls st u bb σ Q ↔ qx sc D 73 30 ls (vi 3 :: st) u bb σ Q := r_iconst (by decide +kernel)
theorem k73_30 : qx sc D 73 30 ls (vi b' :: vi a' :: st) u bb σ Q ↔ (a' = b' → qx sc D 73 33 ls st u bb σ Q) ∧ (¬ (a' = b') → qx sc D 73 40 ls st u bb σ Q) := r_ic_ne (off := 10) (t := 40) (by decide +kernel)
theorem k73_33 : qx sc D 73 33 [vr a, l1, l2, l3] st u bb σ Q ↔ qx sc D 73 34 [vr a, l1, l2, l3] (vr a :: st) u bb σ Q := r_aload_n (k := 0) (by decide +kernel) rfl
theorem k73_34 : qx sc D 73 34 ls (vr 77 :: st) u bb σ Q ↔ qx sc D 73 37 ls (vr 78 :: st) u bb σ Q := r_getR (idx := 9) (c := 10) (k := 6) (by decide +kernel)
theorem k73_37 : qx sc D 73 37 [l0, l1, l2, vi x] st u bb σ Q ↔ qx sc D 73 38 [l0, l1, l2, vi x] (vi x :: st) u bb σ Q := r_iload_n (k := 3) (by decide +kernel) rfl
theorem k73_38 : qx sc D 73 38 ls (vi i :: vr a :: st) u bb σ Q ↔ (q_ty a = 0 ∧ 0 ≤ i ∧ i < q_ln a) ∧ qx sc D 73 39 ls (vi (σ a i) :: st) u bb σ Q := r_iald (by decide +kernel)
theorem k73_39 : qx sc D 73 39 ls [vi x] (0, 0) bb σ Q ↔ Q (.inl (some (vi x))) bb σ := r_ret (by decide +kernel)
theorem k73_40 : qx sc D 73 40 [vr a, l1, l2, l3] st u bb σ Q ↔ qx sc D 73 41 [vr a, l1, l2, l3] (vr a :: st) u bb σ Q := r_aload_n (k := 0) (by decide +kernel) rfl
theorem k73_41 : qx sc D 73 41 ls (vr 77 :: st) u bb σ Q ↔ 0 ≤ σ 77 8 ∧ qx sc D 73 44 ls (vr (σ 77 8).toNat :: st) u bb σ Q := r_getM (idx := 60) (c := 10) (k := 8) (by decide +kernel)
theorem k73_44 (hc : q_C c) : qx sc D 73 44 ls (vr c :: st) u bb σ Q ↔ qx sc D 73 47 ls (vr (c + 16) :: st) u bb σ Q := r_getRc (idx := 158) (k := 18) (by decide +kernel) hc
theorem k73_47 (hc : q_C c) : qx sc D 73 47 ls (vr (c + 16) :: st) u bb σ Q ↔ qx sc D 73 50 ls (vr (c + 18) :: st) u bb σ Q := r_getRt (idx := 179) (k := 1) (j := 2) (by decide +kernel) hc
theorem k73_50 : qx sc D 73 50 [l0, l1, vi x, l3] st u bb σ Q ↔ qx sc D 73 51 [l0, l1, vi x, l3] (vi x :: st) u bb σ Q := r_iload_n (k := 2) (by decide +kernel) rfl
theorem k73_51 : qx sc D 73 51 ls (vi i :: vr a :: st) u bb σ Q ↔ (q_ty a = 4 ∧ 0 ≤ i ∧ i < q_ln a) ∧ qx sc D 73 52 ls (vr (a + 1 + i.toNat) :: st) u bb σ Q := r_aald (by decide +kernel)
theorem k73_52 : qx sc D 73 52 [l0, vi x, l2, l3] st u bb σ Q ↔ qx sc D 73 53 [l0, vi x, l2, l3] (vi x :: st) u bb σ Q := r_iload_n (k := 1) (by decide +kernel) rfl
theorem k73_53 : qx sc D 73 53 ls (vi i :: vr a :: st) u bb σ Q ↔ (q_ty a = 0 ∧ 0 ≤ i ∧ i < q_ln a) ∧ qx sc D 73 54 ls (vi (σ a i) :: st) u bb σ Q := r_iald (by decide +kernel)
theorem k73_54 : qx sc D 73 54 ls st u bb σ Q ↔ qx sc D 73 55 ls (vi 2 :: st) u bb σ Q := r_iconst (by decide +kernel)
theorem k73_55 : qx sc D 73 55 ls (vi b' :: vi a' :: st) u bb σ Q ↔ (a' = b' → qx sc D 73 58 ls st u bb σ Q) ∧ (¬ (a' = b') → qx sc D 73 67 ls st u bb σ Q) := r_ic_ne (off := 12) (t := 67) (by decide +kernel)
theorem k73_58 : qx sc D 73 58 [vr a, l1, l2, l3] st u bb σ Q ↔ qx sc D 73 59 [vr a, l1, l2, l3] (vr a :: st) u bb σ Q := r_aload_n (k := 0) (by decide +kernel) rfl
theorem k73_59 : qx sc D 73 59 ls (vr 77 :: st) u bb σ Q ↔ qx sc D 73 62 ls (vr 85 :: st) u bb σ Q := r_getR (idx := 26) (c := 10) (k := 12) (by decide +kernel)
theorem k73_62 : qx sc D 73 62 [l0, l1, l2, vi x] st u bb σ Q ↔ qx sc D 73 63 [l0, l1, l2, vi x] (vi x :: st) u bb σ Q := r_iload_n (k := 3) (by decide +kernel) rfl
theorem k73_63 : qx sc D 73 63 ls (vi i :: vr a :: st) u bb σ Q ↔ (q_ty a = 0 ∧ 0 ≤ i ∧ i < q_ln a) ∧ qx sc D 73 64 ls (vi (σ a i) :: st) u bb σ Q := r_iald (by decide +kernel)
theorem k73_64 : qx sc D 73 64 ls st u bb σ Q ↔ qx sc D 73 68 ls st u bb σ Q := r_goto (off := 4) (by decide +kernel)
theorem k73_67 : qx sc D 73 67 [l0, l1, l2, vi x] st u bb σ Q ↔ qx sc D 73 68 [l0, l1, l2, vi x] (vi x :: st) u bb σ Q := r_iload_n (k := 3) (by decide +kernel) rfl
theorem k73_68 : qx sc D 73 68 ls [vi x] (0, 0) bb σ Q ↔ Q (.inl (some (vi x))) bb σ := r_ret (by decide +kernel)
-- 74: RowProver$Runner.step()Z
theorem k74_0 : qx sc D 74 0 [vr a] st u bb σ Q ↔ qx sc D 74 1 [vr a] (vr a :: st) u bb σ Q := r_aload_n (k := 0) (by decide +kernel) rfl
theorem k74_1 : qx sc D 74 1 ls (vr 77 :: st) u bb σ Q ↔ qx sc D 74 4 ls (vr 87 :: st) u bb σ Q := r_getR (idx := 32) (c := 10) (k := 14) (by decide +kernel)
theorem k74_4 : qx sc D 74 4 ls st u bb σ Q ↔ qx sc D 74 5 ls (vi 2 :: st) u bb σ Q := r_iconst (by decide +kernel)
theorem k74_5 : qx sc D 74 5 ls (vi i :: vr a :: st) u bb σ Q ↔ (q_ty a = 0 ∧ 0 ≤ i ∧ i < q_ln a) ∧ qx sc D 74 6 ls (vi (σ a i) :: st) u bb σ Q := r_iald (by decide +kernel)
theorem k74_6 : qx sc D 74 6 ls st u bb σ Q ↔ qx sc D 74 9 ls (vi 300 :: st) u bb σ Q := r_sipush (by decide +kernel)
theorem k74_9 : qx sc D 74 9 ls (vi b' :: vi a' :: st) u bb σ Q ↔ (a' < b' → qx sc D 74 21 ls st u bb σ Q) ∧ (¬ (a' < b') → qx sc D 74 12 ls st u bb σ Q) := r_ic_lt (off := 12) (t := 21) (by decide +kernel)
theorem k74_12 : qx sc D 74 12 [vr a] st u bb σ Q ↔ qx sc D 74 13 [vr a] (vr a :: st) u bb σ Q := r_aload_n (k := 0) (by decide +kernel) rfl
theorem k74_13 : qx sc D 74 13 ls (vr 77 :: st) u bb σ Q ↔ qx sc D 74 16 ls (vr 87 :: st) u bb σ Q := r_getR (idx := 32) (c := 10) (k := 14) (by decide +kernel)
theorem k74_16 : qx sc D 74 16 ls st u bb σ Q ↔ qx sc D 74 17 ls (vi 0 :: st) u bb σ Q := r_iconst (by decide +kernel)
theorem k74_17 : qx sc D 74 17 ls st u bb σ Q ↔ qx sc D 74 18 ls (vi 2 :: st) u bb σ Q := r_iconst (by decide +kernel)
theorem k74_18 : qx sc D 74 18 ls (vi x :: vi i :: vr a :: st) u bb σ Q ↔ (q_ty a = 0 ∧ 0 ≤ i ∧ i < q_ln a) ∧ qx sc D 74 19 ls st u bb (q_up σ a i x) Q := r_iast (by decide +kernel)
theorem k74_19 : qx sc D 74 19 ls st u bb σ Q ↔ qx sc D 74 20 ls (vi 0 :: st) u bb σ Q := r_iconst (by decide +kernel)
theorem k74_20 : qx sc D 74 20 ls [vi x] (0, 0) bb σ Q ↔ (x = 0 ∨ x = 1) ∧ Q (.inl (some (vi x))) bb σ := r_retB (by decide +kernel)
theorem k74_21 : qx sc D 74 21 [vr a] st u bb σ Q ↔ qx sc D 74 22 [vr a] (vr a :: st) u bb σ Q := r_aload_n (k := 0) (by decide +kernel) rfl
theorem k74_22 : qx sc D 74 22 ls (vr 77 :: st) u bb σ Q ↔ qx sc D 74 25 ls (vr 87 :: st) u bb σ Q := r_getR (idx := 32) (c := 10) (k := 14) (by decide +kernel)
theorem k74_25 : qx sc D 74 25 ls st u bb σ Q ↔ qx sc D 74 26 ls (vi 2 :: st) u bb σ Q := r_iconst (by decide +kernel)
theorem k74_26 : qx sc D 74 26 ls (vi x :: vr a :: st) u bb σ Q ↔ qx sc D 74 27 ls (vi x :: vr a :: vi x :: vr a :: st) u bb σ Q := r_dup2 (by decide +kernel)
theorem k74_27 : qx sc D 74 27 ls (vi i :: vr a :: st) u bb σ Q ↔ (q_ty a = 0 ∧ 0 ≤ i ∧ i < q_ln a) ∧ qx sc D 74 28 ls (vi (σ a i) :: st) u bb σ Q := r_iald (by decide +kernel)
theorem k74_28 : qx sc D 74 28 ls st u bb σ Q ↔ qx sc D 74 29 ls (vi 1 :: st) u bb σ Q := r_iconst (by decide +kernel)
theorem k74_29 : qx sc D 74 29 ls (vi b' :: vi a' :: st) u bb σ Q ↔ q_R (a' + b') ∧ qx sc D 74 30 ls (vi (a' + b') :: st) u bb σ Q := r_iadd (by decide +kernel)
theorem k74_30 : qx sc D 74 30 ls (vi x :: vi i :: vr a :: st) u bb σ Q ↔ (q_ty a = 0 ∧ 0 ≤ i ∧ i < q_ln a) ∧ qx sc D 74 31 ls st u bb (q_up σ a i x) Q := r_iast (by decide +kernel)
theorem k74_31 : qx sc D 74 31 ls st u bb σ Q ↔ qx sc D 74 32 ls (vi 1 :: st) u bb σ Q := r_iconst (by decide +kernel)
theorem k74_32 : qx sc D 74 32 ls [vi x] (0, 0) bb σ Q ↔ (x = 0 ∨ x = 1) ∧ Q (.inl (some (vi x))) bb σ := r_retB (by decide +kernel)
-- 75: RowProver$Runner.valueNow(I)I
theorem k75_0 : qx sc D 75 0 [vr a, l1, l2] st u bb σ Q ↔ qx sc D 75 1 [vr a, l1, l2] (vr a :: st) u bb σ Q := r_aload_n (k := 0) (by decide +kernel) rfl
theorem k75_1 : qx sc D 75 1 ls (vr 77 :: st) u bb σ Q ↔ 0 ≤ σ 77 8 ∧ qx sc D 75 4 ls (vr (σ 77 8).toNat :: st) u bb σ Q := r_getM (idx := 60) (c := 10) (k := 8) (by decide +kernel)
theorem k75_4 (hc : q_C c) : qx sc D 75 4 ls (vr c :: st) u bb σ Q ↔ qx sc D 75 7 ls (vr (c + 4) :: st) u bb σ Q := r_getRc (idx := 199) (k := 6) (by decide +kernel) hc
theorem k75_7 : qx sc D 75 7 [l0, vi x, l2] st u bb σ Q ↔ qx sc D 75 8 [l0, vi x, l2] (vi x :: st) u bb σ Q := r_iload_n (k := 1) (by decide +kernel) rfl
theorem k75_8 : qx sc D 75 8 ls (vi i :: vr a :: st) u bb σ Q ↔ (q_ty a = 0 ∧ 0 ≤ i ∧ i < q_ln a) ∧ qx sc D 75 9 ls (vi (σ a i) :: st) u bb σ Q := r_iald (by decide +kernel)
theorem k75_9 : qx sc D 75 9 ls (vi x :: st) u bb σ Q ↔ qx sc D 75 (if x < 2 ∨ 5 < x then 135 else [40, 55, 80, 120].getD (x - 2).toNat 0) ls st u bb σ Q := r_tsw (d := 126) (lo := 2) (hi := 5) (offs := #[31, 46, 71, 111]) (dt := 135) (tg := [40, 55, 80, 120]) (by decide +kernel)
theorem k75_40 : qx sc D 75 40 [vr a, l1, l2] st u bb σ Q ↔ qx sc D 75 41 [vr a, l1, l2] (vr a :: st) u bb σ Q := r_aload_n (k := 0) (by decide +kernel) rfl
theorem k75_41 : qx sc D 75 41 ls (vr 77 :: st) u bb σ Q ↔ qx sc D 75 44 ls (vr 85 :: st) u bb σ Q := r_getR (idx := 26) (c := 10) (k := 12) (by decide +kernel)
theorem k75_44 : qx sc D 75 44 [vr a, l1, l2] st u bb σ Q ↔ qx sc D 75 45 [vr a, l1, l2] (vr a :: st) u bb σ Q := r_aload_n (k := 0) (by decide +kernel) rfl
theorem k75_45 : qx sc D 75 45 ls (vr 77 :: st) u bb σ Q ↔ 0 ≤ σ 77 8 ∧ qx sc D 75 48 ls (vr (σ 77 8).toNat :: st) u bb σ Q := r_getM (idx := 60) (c := 10) (k := 8) (by decide +kernel)
theorem k75_48 (hc : q_C c) : qx sc D 75 48 ls (vr c :: st) u bb σ Q ↔ qx sc D 75 51 ls (vr (c + 5) :: st) u bb σ Q := r_getRc (idx := 196) (k := 7) (by decide +kernel) hc
theorem k75_51 : qx sc D 75 51 [l0, vi x, l2] st u bb σ Q ↔ qx sc D 75 52 [l0, vi x, l2] (vi x :: st) u bb σ Q := r_iload_n (k := 1) (by decide +kernel) rfl
theorem k75_52 : qx sc D 75 52 ls (vi i :: vr a :: st) u bb σ Q ↔ (q_ty a = 0 ∧ 0 ≤ i ∧ i < q_ln a) ∧ qx sc D 75 53 ls (vi (σ a i) :: st) u bb σ Q := r_iald (by decide +kernel)
theorem k75_53 : qx sc D 75 53 ls (vi i :: vr a :: st) u bb σ Q ↔ (q_ty a = 0 ∧ 0 ≤ i ∧ i < q_ln a) ∧ qx sc D 75 54 ls (vi (σ a i) :: st) u bb σ Q := r_iald (by decide +kernel)
theorem k75_54 : qx sc D 75 54 ls [vi x] (0, 0) bb σ Q ↔ Q (.inl (some (vi x))) bb σ := r_ret (by decide +kernel)
theorem k75_55 : qx sc D 75 55 [vr a, l1, l2] st u bb σ Q ↔ qx sc D 75 56 [vr a, l1, l2] (vr a :: st) u bb σ Q := r_aload_n (k := 0) (by decide +kernel) rfl
theorem k75_56 : qx sc D 75 56 ls (vr 77 :: st) u bb σ Q ↔ qx sc D 75 59 ls (vr 78 :: st) u bb σ Q := r_getR (idx := 9) (c := 10) (k := 6) (by decide +kernel)
theorem k75_59 : qx sc D 75 59 [vr a, l1, l2] st u bb σ Q ↔ qx sc D 75 60 [vr a, l1, l2] (vr a :: st) u bb σ Q := r_aload_n (k := 0) (by decide +kernel) rfl
theorem k75_60 : qx sc D 75 60 ls (vr 77 :: st) u bb σ Q ↔ 0 ≤ σ 77 8 ∧ qx sc D 75 63 ls (vr (σ 77 8).toNat :: st) u bb σ Q := r_getM (idx := 60) (c := 10) (k := 8) (by decide +kernel)
theorem k75_63 (hc : q_C c) : qx sc D 75 63 ls (vr c :: st) u bb σ Q ↔ qx sc D 75 66 ls (vr (c + 5) :: st) u bb σ Q := r_getRc (idx := 196) (k := 7) (by decide +kernel) hc
theorem k75_66 : qx sc D 75 66 [l0, vi x, l2] st u bb σ Q ↔ qx sc D 75 67 [l0, vi x, l2] (vi x :: st) u bb σ Q := r_iload_n (k := 1) (by decide +kernel) rfl
theorem k75_67 : qx sc D 75 67 ls (vi i :: vr a :: st) u bb σ Q ↔ (q_ty a = 0 ∧ 0 ≤ i ∧ i < q_ln a) ∧ qx sc D 75 68 ls (vi (σ a i) :: st) u bb σ Q := r_iald (by decide +kernel)
theorem k75_68 : qx sc D 75 68 ls (vi i :: vr a :: st) u bb σ Q ↔ (q_ty a = 0 ∧ 0 ≤ i ∧ i < q_ln a) ∧ qx sc D 75 69 ls (vi (σ a i) :: st) u bb σ Q := r_iald (by decide +kernel)
theorem k75_69 : qx sc D 75 69 [vr a, l1, l2] st u bb σ Q ↔ qx sc D 75 70 [vr a, l1, l2] (vr a :: st) u bb σ Q := r_aload_n (k := 0) (by decide +kernel) rfl
theorem k75_70 : qx sc D 75 70 ls (vr 77 :: st) u bb σ Q ↔ 0 ≤ σ 77 8 ∧ qx sc D 75 73 ls (vr (σ 77 8).toNat :: st) u bb σ Q := r_getM (idx := 60) (c := 10) (k := 8) (by decide +kernel)
theorem k75_73 (hc : q_C c) : qx sc D 75 73 ls (vr c :: st) u bb σ Q ↔ qx sc D 75 76 ls (vr (c + 6) :: st) u bb σ Q := r_getRc (idx := 202) (k := 8) (by decide +kernel) hc
theorem k75_76 : qx sc D 75 76 [l0, vi x, l2] st u bb σ Q ↔ qx sc D 75 77 [l0, vi x, l2] (vi x :: st) u bb σ Q := r_iload_n (k := 1) (by decide +kernel) rfl
theorem k75_77 : qx sc D 75 77 ls (vi i :: vr a :: st) u bb σ Q ↔ (q_ty a = 0 ∧ 0 ≤ i ∧ i < q_ln a) ∧ qx sc D 75 78 ls (vi (σ a i) :: st) u bb σ Q := r_iald (by decide +kernel)
theorem k75_78 : qx sc D 75 78 ls (vi b' :: vi a' :: st) u bb σ Q ↔ q_R (a' + b') ∧ qx sc D 75 79 ls (vi (a' + b') :: st) u bb σ Q := r_iadd (by decide +kernel)
theorem k75_79 : qx sc D 75 79 ls [vi x] (0, 0) bb σ Q ↔ Q (.inl (some (vi x))) bb σ := r_ret (by decide +kernel)
theorem k75_80 : qx sc D 75 80 [vr a, l1, l2] st u bb σ Q ↔ qx sc D 75 81 [vr a, l1, l2] (vr a :: st) u bb σ Q := r_aload_n (k := 0) (by decide +kernel) rfl
theorem k75_81 : qx sc D 75 81 ls (vr 77 :: st) u bb σ Q ↔ 0 ≤ σ 77 8 ∧ qx sc D 75 84 ls (vr (σ 77 8).toNat :: st) u bb σ Q := r_getM (idx := 60) (c := 10) (k := 8) (by decide +kernel)
theorem k75_84 (hc : q_C c) : qx sc D 75 84 ls (vr c :: st) u bb σ Q ↔ qx sc D 75 87 ls (vr (c + 7) :: st) u bb σ Q := r_getRc (idx := 193) (k := 9) (by decide +kernel) hc
theorem k75_87 : qx sc D 75 87 [l0, vi x, l2] st u bb σ Q ↔ qx sc D 75 88 [l0, vi x, l2] (vi x :: st) u bb σ Q := r_iload_n (k := 1) (by decide +kernel) rfl
theorem k75_88 : qx sc D 75 88 ls (vi i :: vr a :: st) u bb σ Q ↔ (q_ty a = 0 ∧ 0 ≤ i ∧ i < q_ln a) ∧ qx sc D 75 89 ls (vi (σ a i) :: st) u bb σ Q := r_iald (by decide +kernel)
theorem k75_89 : qx sc D 75 89 [l0, l1, l2] (vi x :: st) u bb σ Q ↔ qx sc D 75 90 [l0, l1, vi x] st u bb σ Q := r_istore_n (k := 2) (by decide +kernel) (Nat.le_of_ble_eq_true rfl)
theorem k75_90 : qx sc D 75 90 [vr a, l1, l2] st u bb σ Q ↔ qx sc D 75 91 [vr a, l1, l2] (vr a :: st) u bb σ Q := r_aload_n (k := 0) (by decide +kernel) rfl
theorem k75_91 : qx sc D 75 91 ls (vr 77 :: st) u bb σ Q ↔ qx sc D 75 94 ls (vr 81 :: st) u bb σ Q := r_getR (idx := 23) (c := 10) (k := 11) (by decide +kernel)
theorem k75_94 : qx sc D 75 94 [vr a, l1, l2] st u bb σ Q ↔ qx sc D 75 95 [vr a, l1, l2] (vr a :: st) u bb σ Q := r_aload_n (k := 0) (by decide +kernel) rfl
theorem k75_95 : qx sc D 75 95 ls (vr 77 :: st) u bb σ Q ↔ 0 ≤ σ 77 8 ∧ qx sc D 75 98 ls (vr (σ 77 8).toNat :: st) u bb σ Q := r_getM (idx := 60) (c := 10) (k := 8) (by decide +kernel)
theorem k75_98 (hc : q_C c) : qx sc D 75 98 ls (vr c :: st) u bb σ Q ↔ qx sc D 75 101 ls (vr (c + 13) :: st) u bb σ Q := r_getRc (idx := 190) (k := 15) (by decide +kernel) hc
theorem k75_101 : qx sc D 75 101 [l0, l1, vi x] st u bb σ Q ↔ qx sc D 75 102 [l0, l1, vi x] (vi x :: st) u bb σ Q := r_iload_n (k := 2) (by decide +kernel) rfl
theorem k75_102 : qx sc D 75 102 ls (vi i :: vr a :: st) u bb σ Q ↔ (q_ty a = 0 ∧ 0 ≤ i ∧ i < q_ln a) ∧ qx sc D 75 103 ls (vi (σ a i) :: st) u bb σ Q := r_iald (by decide +kernel)
theorem k75_103 : qx sc D 75 103 ls (vi i :: vr a :: st) u bb σ Q ↔ (q_ty a = 4 ∧ 0 ≤ i ∧ i < q_ln a) ∧ qx sc D 75 104 ls (vr (a + 1 + i.toNat) :: st) u bb σ Q := r_aald (by decide +kernel)
theorem k75_104 : qx sc D 75 104 [vr a, l1, l2] st u bb σ Q ↔ qx sc D 75 105 [vr a, l1, l2] (vr a :: st) u bb σ Q := r_aload_n (k := 0) (by decide +kernel) rfl
theorem k75_105 : qx sc D 75 105 ls (vr 77 :: st) u bb σ Q ↔ qx sc D 75 108 ls (vr 78 :: st) u bb σ Q := r_getR (idx := 9) (c := 10) (k := 6) (by decide +kernel)
theorem k75_108 : qx sc D 75 108 [vr a, l1, l2] st u bb σ Q ↔ qx sc D 75 109 [vr a, l1, l2] (vr a :: st) u bb σ Q := r_aload_n (k := 0) (by decide +kernel) rfl
theorem k75_109 : qx sc D 75 109 ls (vr 77 :: st) u bb σ Q ↔ 0 ≤ σ 77 8 ∧ qx sc D 75 112 ls (vr (σ 77 8).toNat :: st) u bb σ Q := r_getM (idx := 60) (c := 10) (k := 8) (by decide +kernel)
theorem k75_112 (hc : q_C c) : qx sc D 75 112 ls (vr c :: st) u bb σ Q ↔ qx sc D 75 115 ls (vr (c + 14) :: st) u bb σ Q := r_getRc (idx := 205) (k := 16) (by decide +kernel) hc
theorem k75_115 : qx sc D 75 115 [l0, l1, vi x] st u bb σ Q ↔ qx sc D 75 116 [l0, l1, vi x] (vi x :: st) u bb σ Q := r_iload_n (k := 2) (by decide +kernel) rfl
theorem k75_116 : qx sc D 75 116 ls (vi i :: vr a :: st) u bb σ Q ↔ (q_ty a = 0 ∧ 0 ≤ i ∧ i < q_ln a) ∧ qx sc D 75 117 ls (vi (σ a i) :: st) u bb σ Q := r_iald (by decide +kernel)
theorem k75_117 : qx sc D 75 117 ls (vi i :: vr a :: st) u bb σ Q ↔ (q_ty a = 0 ∧ 0 ≤ i ∧ i < q_ln a) ∧ qx sc D 75 118 ls (vi (σ a i) :: st) u bb σ Q := r_iald (by decide +kernel)
theorem k75_118 : qx sc D 75 118 ls (vi i :: vr a :: st) u bb σ Q ↔ (q_ty a = 0 ∧ 0 ≤ i ∧ i < q_ln a) ∧ qx sc D 75 119 ls (vi (σ a i) :: st) u bb σ Q := r_iald (by decide +kernel)
theorem k75_119 : qx sc D 75 119 ls [vi x] (0, 0) bb σ Q ↔ Q (.inl (some (vi x))) bb σ := r_ret (by decide +kernel)
theorem k75_120 : qx sc D 75 120 [vr a, l1, l2] st u bb σ Q ↔ qx sc D 75 121 [vr a, l1, l2] (vr a :: st) u bb σ Q := r_aload_n (k := 0) (by decide +kernel) rfl
theorem k75_121 : qx sc D 75 121 ls (vr 77 :: st) u bb σ Q ↔ qx sc D 75 124 ls (vr 2 :: st) u bb σ Q := r_getR (idx := 54) (c := 10) (k := 4) (by decide +kernel)
theorem k75_124 : qx sc D 75 124 [vr a, l1, l2] st u bb σ Q ↔ qx sc D 75 125 [vr a, l1, l2] (vr a :: st) u bb σ Q := r_aload_n (k := 0) (by decide +kernel) rfl
theorem k75_125 : qx sc D 75 125 ls (vr 77 :: st) u bb σ Q ↔ 0 ≤ σ 77 8 ∧ qx sc D 75 128 ls (vr (σ 77 8).toNat :: st) u bb σ Q := r_getM (idx := 60) (c := 10) (k := 8) (by decide +kernel)
theorem k75_128 (hc : q_C c) : qx sc D 75 128 ls (vr c :: st) u bb σ Q ↔ qx sc D 75 131 ls (vr (c + 5) :: st) u bb σ Q := r_getRc (idx := 196) (k := 7) (by decide +kernel) hc
theorem k75_131 : qx sc D 75 131 [l0, vi x, l2] st u bb σ Q ↔ qx sc D 75 132 [l0, vi x, l2] (vi x :: st) u bb σ Q := r_iload_n (k := 1) (by decide +kernel) rfl
theorem k75_132 : qx sc D 75 132 ls (vi i :: vr a :: st) u bb σ Q ↔ (q_ty a = 0 ∧ 0 ≤ i ∧ i < q_ln a) ∧ qx sc D 75 133 ls (vi (σ a i) :: st) u bb σ Q := r_iald (by decide +kernel)
theorem k75_133 : qx sc D 75 133 ls (vi i :: vr a :: st) u bb σ Q ↔ (q_ty a = 0 ∧ 0 ≤ i ∧ i < q_ln a) ∧ qx sc D 75 134 ls (vi (σ a i) :: st) u bb σ Q := r_iald (by decide +kernel)
theorem k75_134 : qx sc D 75 134 ls [vi x] (0, 0) bb σ Q ↔ Q (.inl (some (vi x))) bb σ := r_ret (by decide +kernel)
theorem k75_135 : qx sc D 75 135 [vr a, l1, l2] st u bb σ Q ↔ qx sc D 75 136 [vr a, l1, l2] (vr a :: st) u bb σ Q := r_aload_n (k := 0) (by decide +kernel) rfl
theorem k75_136 : qx sc D 75 136 ls (vr 77 :: st) u bb σ Q ↔ 0 ≤ σ 77 8 ∧ qx sc D 75 139 ls (vr (σ 77 8).toNat :: st) u bb σ Q := r_getM (idx := 60) (c := 10) (k := 8) (by decide +kernel)
theorem k75_139 (hc : q_C c) : qx sc D 75 139 ls (vr c :: st) u bb σ Q ↔ qx sc D 75 142 ls (vr (c + 6) :: st) u bb σ Q := r_getRc (idx := 202) (k := 8) (by decide +kernel) hc
theorem k75_142 : qx sc D 75 142 [l0, vi x, l2] st u bb σ Q ↔ qx sc D 75 143 [l0, vi x, l2] (vi x :: st) u bb σ Q := r_iload_n (k := 1) (by decide +kernel) rfl
theorem k75_143 : qx sc D 75 143 ls (vi i :: vr a :: st) u bb σ Q ↔ (q_ty a = 0 ∧ 0 ≤ i ∧ i < q_ln a) ∧ qx sc D 75 144 ls (vi (σ a i) :: st) u bb σ Q := r_iald (by decide +kernel)
theorem k75_144 : qx sc D 75 144 ls [vi x] (0, 0) bb σ Q ↔ Q (.inl (some (vi x))) bb σ := r_ret (by decide +kernel)
end K_304_kE
