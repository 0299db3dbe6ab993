section K_30_kA
variable {sc : Nat × (Nat → Int32)} {D : Nat} {ls st : List V2} {u : PU} {bb : Bool} {σ : St} {Q : QP} {x i a' b' x0 x1 x2 x3 x4 x5 x20 x21 x22 x23 x24 : Int} {a b c a0 a1 a2 a3 a4 a20 a21 a22 a23 : Nat} {l0 l1 l2 l3 l4 l5 l6 l7 l8 l9 l10 l11 l12 : V2}
-- 94: RowProver.above(II)I
theorem k94_0 : qx sc D 94 0 [vr a, l1, l2] st u bb σ Q ↔ qx sc D 94 1 [vr a, l1, l2] (vr a :: st) u bb σ Q := r_aload_n (k := 0) (by decide +kernel) rfl
theorem k94_1 : qx sc D 94 1 [l0, vi x, l2] st u bb σ Q ↔ qx sc D 94 2 [l0, vi x, l2] (vi x :: st) u bb σ Q := r_iload_n (k := 1) (by decide +kernel) rfl
theorem k94_2 : qx sc (D + 1) 94 2 ls [vi x0, vr 0] (0, 0) bb σ Q ↔ qx sc D 112 0 [vr 0, vi x0] [] (0, 0) bb σ (q_kn sc (D + 1) 94 5 ls [] (1, 6) Q) := r_callv (idx := 169) (n := 1) (m := 2) (by decide +kernel) rfl (Nat.le_of_ble_eq_true rfl) ⟨Nat.le_of_ble_eq_true rfl, Nat.le_of_ble_eq_true rfl, rfl⟩ rfl
theorem k94_5 : qx sc D 94 5 [vr a, l1, l2] st u bb σ Q ↔ qx sc D 94 6 [vr a, l1, l2] (vr a :: st) u bb σ Q := r_aload_n (k := 0) (by decide +kernel) rfl
theorem k94_6 : qx sc D 94 6 [l0, l1, vi x] st u bb σ Q ↔ qx sc D 94 7 [l0, l1, vi x] (vi x :: st) u bb σ Q := r_iload_n (k := 2) (by decide +kernel) rfl
theorem k94_7 : qx sc (D + 1) 94 7 ls [vi x0, vr 0] (1, 6) bb σ Q ↔ qx sc D 114 0 [vr 0, vi x0] [] (0, 0) bb σ (q_kn sc (D + 1) 94 10 ls [] (2, 12) Q) := r_callv (idx := 151) (n := 1) (m := 2) (by decide +kernel) rfl (Nat.le_of_ble_eq_true rfl) ⟨Nat.le_of_ble_eq_true rfl, Nat.le_of_ble_eq_true rfl, rfl⟩ rfl
theorem k94_10 : qx sc D 94 10 [vr a, l1, l2] st u bb σ Q ↔ qx sc D 94 11 [vr a, l1, l2] (vr a :: st) u bb σ Q := r_aload_n (k := 0) (by decide +kernel) rfl
theorem k94_11 : qx sc D 94 11 ls (vr 0 :: st) u bb σ Q ↔ 0 ≤ σ 0 11 ∧ qx sc D 94 14 ls (vr (σ 0 11).toNat :: st) u bb σ Q := r_getM (idx := 90) (c := 14) (k := 11) (by decide +kernel)
theorem k94_14 (hc : q_C c) : qx sc D 94 14 ls (vr c :: st) u bb σ Q ↔ qx sc D 94 17 ls (vr (c + 1) :: st) u bb σ Q := r_getRc (idx := 172) (k := 3) (by decide +kernel) hc
theorem k94_17 : qx sc D 94 17 [l0, vi x, l2] st u bb σ Q ↔ qx sc D 94 18 [l0, vi x, l2] (vi x :: st) u bb σ Q := r_iload_n (k := 1) (by decide +kernel) rfl
theorem k94_18 : qx sc D 94 18 ls (vi i :: vr a :: st) u bb σ Q ↔ (q_ty a = 0 ∧ 0 ≤ i ∧ i < q_ln a) ∧ qx sc D 94 19 ls (vi (σ a i) :: st) u bb σ Q := r_iald (by decide +kernel)
theorem k94_19 : qx sc D 94 19 ls st u bb σ Q ↔ qx sc D 94 20 ls (vi (-1) :: st) u bb σ Q := r_iconst (by decide +kernel)
theorem k94_20 : qx sc D 94 20 ls (vi b' :: vi a' :: st) u bb σ Q ↔ (a' = b' → qx sc D 94 23 ls st u bb σ Q) ∧ (¬ (a' = b') → qx sc D 94 33 ls st u bb σ Q) := r_ic_ne (off := 13) (t := 33) (by decide +kernel)
theorem k94_23 : qx sc D 94 23 ls [] (2, 12) bb σ Q ↔ Q (.inr 3) false σ := r_throw (idx := 175) (by decide +kernel)
theorem k94_33 : qx sc D 94 33 [vr a, l1, l2] st u bb σ Q ↔ qx sc D 94 34 [vr a, l1, l2] (vr a :: st) u bb σ Q := r_aload_n (k := 0) (by decide +kernel) rfl
theorem k94_34 : qx sc D 94 34 ls (vr 0 :: st) u bb σ Q ↔ qx sc D 94 37 ls (vr 55 :: st) u bb σ Q := r_getR (idx := 56) (c := 14) (k := 7) (by decide +kernel)
theorem k94_37 : qx sc D 94 37 ls (vr 55 :: st) u bb σ Q ↔ qx sc D 94 40 ls (vr 56 :: st) u bb σ Q := r_getR (idx := 180) (c := 3) (k := 2) (by decide +kernel)
theorem k94_40 : qx sc D 94 40 [l0, vi x, l2] st u bb σ Q ↔ qx sc D 94 41 [l0, vi x, l2] (vi x :: st) u bb σ Q := r_iload_n (k := 1) (by decide +kernel) rfl
theorem k94_41 : qx sc D 94 41 ls (vi i :: vr a :: st) u bb σ Q ↔ (q_ty a = 4 ∧ 0 ≤ i ∧ i < q_ln a) ∧ qx sc D 94 42 ls (vr (a + 1 + i.toNat) :: st) u bb σ Q := r_aald (by decide +kernel)
theorem k94_42 : qx sc D 94 42 [l0, l1, vi x] st u bb σ Q ↔ qx sc D 94 43 [l0, l1, vi x] (vi x :: st) u bb σ Q := r_iload_n (k := 2) (by decide +kernel) rfl
theorem k94_43 : qx sc D 94 43 ls (vi i :: vr a :: st) u bb σ Q ↔ (q_ty a = 0 ∧ 0 ≤ i ∧ i < q_ln a) ∧ qx sc D 94 44 ls (vi (σ a i) :: st) u bb σ Q := r_iald (by decide +kernel)
theorem k94_44 : qx sc D 94 44 ls [vi x] (2, 12) bb σ Q ↔ Q (.inl (some (vi x))) bb σ := r_ret (by decide +kernel)
-- 95: RowProver.analyse()V
theorem k95_0 : qx sc D 95 0 [vr a] st u bb σ Q ↔ qx sc D 95 1 [vr a] (vr a :: st) u bb σ Q := r_aload_n (k := 0) (by decide +kernel) rfl
theorem k95_1 : qx sc D 95 1 ls (vr 0 :: st) u bb σ Q ↔ qx sc D 95 4 ls (vr 39 :: st) u bb σ Q := r_getR (idx := 47) (c := 14) (k := 6) (by decide +kernel)
theorem k95_4 : qx sc D 95 4 [vr a] st u bb σ Q ↔ qx sc D 95 5 [vr a] (vr a :: st) u bb σ Q := r_aload_n (k := 0) (by decide +kernel) rfl
theorem k95_5 : qx sc D 95 5 ls (vr 0 :: st) u bb σ Q ↔ 0 ≤ σ 0 11 ∧ qx sc D 95 8 ls (vr (σ 0 11).toNat :: st) u bb σ Q := r_getM (idx := 90) (c := 14) (k := 11) (by decide +kernel)
theorem k95_8 : qx sc (D + 1) 95 8 ls [vr a0, vr 39] (0, 0) bb σ Q ↔ qx sc D 22 0 [vr 39, vr a0, vn] [] (0, 0) bb σ (q_kn sc (D + 1) 95 11 ls [] (0, 0) Q) := r_callv (idx := 301) (n := 1) (m := 3) (by decide +kernel) rfl (Nat.le_of_ble_eq_true rfl) ⟨Nat.le_of_ble_eq_true rfl, Nat.le_of_ble_eq_true rfl, rfl⟩ rfl
theorem k95_11 : qx sc D 95 11 [vr a] st u bb σ Q ↔ qx sc D 95 12 [vr a] (vr a :: st) u bb σ Q := r_aload_n (k := 0) (by decide +kernel) rfl
theorem k95_12 : qx sc D 95 12 ls (vr 0 :: st) u bb σ Q ↔ qx sc D 95 15 ls (vr 55 :: st) u bb σ Q := r_getR (idx := 56) (c := 14) (k := 7) (by decide +kernel)
theorem k95_15 : qx sc D 95 15 [vr a] st u bb σ Q ↔ qx sc D 95 16 [vr a] (vr a :: st) u bb σ Q := r_aload_n (k := 0) (by decide +kernel) rfl
theorem k95_16 : qx sc D 95 16 ls (vr 0 :: st) u bb σ Q ↔ 0 ≤ σ 0 11 ∧ qx sc D 95 19 ls (vr (σ 0 11).toNat :: st) u bb σ Q := r_getM (idx := 90) (c := 14) (k := 11) (by decide +kernel)
theorem k95_19 : qx sc D 95 19 [vr a] st u bb σ Q ↔ qx sc D 95 20 [vr a] (vr a :: st) u bb σ Q := r_aload_n (k := 0) (by decide +kernel) rfl
theorem k95_20 : qx sc D 95 20 ls (vr 0 :: st) u bb σ Q ↔ qx sc D 95 23 ls (vr 55 :: st) u bb σ Q := r_getR (idx := 56) (c := 14) (k := 7) (by decide +kernel)
theorem k95_23 : qx sc D 95 23 ls (vr 55 :: st) u bb σ Q ↔ qx sc D 95 26 ls (vr 56 :: st) u bb σ Q := r_getR (idx := 180) (c := 3) (k := 2) (by decide +kernel)
theorem k95_26 : qx sc D 95 26 ls st u bb σ Q ↔ qx sc D 95 27 ls (vi (-1) :: st) u bb σ Q := r_iconst (by decide +kernel)
theorem k95_27 : qx sc (D + 1) 95 27 ls [vi x2, vr a1, vr a0, vr 55] (0, 0) bb σ Q ↔ qx sc D 7 0 [vr 55, vr a0, vr a1, vi x2, vn] [] (0, 0) bb σ (q_kn sc (D + 1) 95 30 ls [] (0, 0) Q) := r_callv (idx := 304) (n := 3) (m := 5) (by decide +kernel) rfl (Nat.le_of_ble_eq_true rfl) ⟨Nat.le_of_ble_eq_true rfl, Nat.le_of_ble_eq_true rfl, rfl⟩ rfl
theorem k95_30 : qx sc D 95 30 [vr a] st u bb σ Q ↔ qx sc D 95 31 [vr a] (vr a :: st) u bb σ Q := r_aload_n (k := 0) (by decide +kernel) rfl
theorem k95_31 : qx sc D 95 31 ls (vr 0 :: st) u bb σ Q ↔ qx sc D 95 34 ls (vr 66 :: st) u bb σ Q := r_getR (idx := 65) (c := 14) (k := 8) (by decide +kernel)
theorem k95_34 : qx sc D 95 34 [vr a] st u bb σ Q ↔ qx sc D 95 35 [vr a] (vr a :: st) u bb σ Q := r_aload_n (k := 0) (by decide +kernel) rfl
theorem k95_35 : qx sc D 95 35 ls (vr 0 :: st) u bb σ Q ↔ 0 ≤ σ 0 11 ∧ qx sc D 95 38 ls (vr (σ 0 11).toNat :: st) u bb σ Q := r_getM (idx := 90) (c := 14) (k := 11) (by decide +kernel)
theorem k95_38 : qx sc (D + 1) 95 38 ls [vr a0, vr 66] (0, 0) bb σ Q ↔ qx sc D 37 0 [vr 66, vr a0, vn] [] (0, 0) bb σ (q_kn sc (D + 1) 95 41 ls [] (0, 0) Q) := r_callv (idx := 308) (n := 1) (m := 3) (by decide +kernel) rfl (Nat.le_of_ble_eq_true rfl) ⟨Nat.le_of_ble_eq_true rfl, Nat.le_of_ble_eq_true rfl, rfl⟩ rfl
theorem k95_41 : qx sc D 95 41 [vr a] st u bb σ Q ↔ qx sc D 95 42 [vr a] (vr a :: st) u bb σ Q := r_aload_n (k := 0) (by decide +kernel) rfl
theorem k95_42 : qx sc D 95 42 ls (vr 0 :: st) u bb σ Q ↔ qx sc D 95 45 ls (vr 72 :: st) u bb σ Q := r_getR (idx := 74) (c := 14) (k := 9) (by decide +kernel)
theorem k95_45 : qx sc D 95 45 [vr a] st u bb σ Q ↔ qx sc D 95 46 [vr a] (vr a :: st) u bb σ Q := r_aload_n (k := 0) (by decide +kernel) rfl
theorem k95_46 : qx sc D 95 46 ls (vr 0 :: st) u bb σ Q ↔ 0 ≤ σ 0 11 ∧ qx sc D 95 49 ls (vr (σ 0 11).toNat :: st) u bb σ Q := r_getM (idx := 90) (c := 14) (k := 11) (by decide +kernel)
theorem k95_49 : qx sc (D + 1) 95 49 ls [vr a0, vr 72] (0, 0) bb σ Q ↔ qx sc D 18 0 [vr 72, vr a0, vn, vn] [] (0, 0) bb σ (q_kn sc (D + 1) 95 52 ls [] (0, 0) Q) := r_callv (idx := 309) (n := 1) (m := 4) (by decide +kernel) rfl (Nat.le_of_ble_eq_true rfl) ⟨Nat.le_of_ble_eq_true rfl, Nat.le_of_ble_eq_true rfl, rfl⟩ rfl
theorem k95_52 : qx sc D 95 52 ls [] (0, 0) bb σ Q ↔ Q (.inl none) bb σ := r_retV (by decide +kernel)
-- 96: RowProver.below(I)I
theorem k96_0 : qx sc D 96 0 [vr a, l1, l2] st u bb σ Q ↔ qx sc D 96 1 [vr a, l1, l2] (vr a :: st) u bb σ Q := r_aload_n (k := 0) (by decide +kernel) rfl
theorem k96_1 : qx sc D 96 1 [l0, vi x, l2] st u bb σ Q ↔ qx sc D 96 2 [l0, vi x, l2] (vi x :: st) u bb σ Q := r_iload_n (k := 1) (by decide +kernel) rfl
theorem k96_2 : qx sc (D + 1) 96 2 ls [vi x0, vr 0] (0, 0) bb σ Q ↔ qx sc D 114 0 [vr 0, vi x0] [] (0, 0) bb σ (q_kn sc (D + 1) 96 5 ls [] (1, 6) Q) := r_callv (idx := 151) (n := 1) (m := 2) (by decide +kernel) rfl (Nat.le_of_ble_eq_true rfl) ⟨Nat.le_of_ble_eq_true rfl, Nat.le_of_ble_eq_true rfl, rfl⟩ rfl
theorem k96_5 : qx sc D 96 5 [vr a, l1, l2] st u bb σ Q ↔ qx sc D 96 6 [vr a, l1, l2] (vr a :: st) u bb σ Q := r_aload_n (k := 0) (by decide +kernel) rfl
theorem k96_6 : qx sc D 96 6 ls (vr 0 :: st) u bb σ Q ↔ qx sc D 96 9 ls (vr 55 :: st) u bb σ Q := r_getR (idx := 56) (c := 14) (k := 7) (by decide +kernel)
theorem k96_9 : qx sc D 96 9 ls (vr 55 :: st) u bb σ Q ↔ qx sc D 96 12 ls (vr 56 :: st) u bb σ Q := r_getR (idx := 180) (c := 3) (k := 2) (by decide +kernel)
theorem k96_12 : qx sc D 96 12 ls st u bb σ Q ↔ qx sc D 96 13 ls (vi 3 :: st) u bb σ Q := r_iconst (by decide +kernel)
theorem k96_13 : qx sc D 96 13 ls (vi i :: vr a :: st) u bb σ Q ↔ (q_ty a = 4 ∧ 0 ≤ i ∧ i < q_ln a) ∧ qx sc D 96 14 ls (vr (a + 1 + i.toNat) :: st) u bb σ Q := r_aald (by decide +kernel)
theorem k96_14 : qx sc D 96 14 [l0, vi x, l2] st u bb σ Q ↔ qx sc D 96 15 [l0, vi x, l2] (vi x :: st) u bb σ Q := r_iload_n (k := 1) (by decide +kernel) rfl
theorem k96_15 : qx sc D 96 15 ls (vi i :: vr a :: st) u bb σ Q ↔ (q_ty a = 0 ∧ 0 ≤ i ∧ i < q_ln a) ∧ qx sc D 96 16 ls (vi (σ a i) :: st) u bb σ Q := r_iald (by decide +kernel)
theorem k96_16 : qx sc D 96 16 [l0, l1, l2] (vi x :: st) u bb σ Q ↔ qx sc D 96 17 [l0, l1, vi x] st u bb σ Q := r_istore_n (k := 2) (by decide +kernel) (Nat.le_of_ble_eq_true rfl)
theorem k96_17 : qx sc D 96 17 [l0, l1, vi x] st u bb σ Q ↔ qx sc D 96 18 [l0, l1, vi x] (vi x :: st) u bb σ Q := r_iload_n (k := 2) (by decide +kernel) rfl
theorem k96_18 : qx sc D 96 18 ls st u bb σ Q ↔ qx sc D 96 20 ls (vi 99999 :: st) u bb σ Q := r_ldc (idx := 184) (v := 99999) (by decide +kernel)
theorem k96_20 : qx sc D 96 20 ls (vi b' :: vi a' :: st) u bb σ Q ↔ (a' = b' → qx sc D 96 23 ls st u bb σ Q) ∧ (¬ (a' = b') → qx sc D 96 28 ls st u bb σ Q) := r_ic_ne (off := 8) (t := 28) (by decide +kernel)
theorem k96_23 : qx sc D 96 23 ls st u bb σ Q ↔ qx sc D 96 25 ls (vi 99999 :: st) u bb σ Q := r_ldc (idx := 184) (v := 99999) (by decide +kernel)
theorem k96_25 : qx sc D 96 25 ls st u bb σ Q ↔ qx sc D 96 30 ls st u bb σ Q := r_goto (off := 5) (by decide +kernel)
theorem k96_28 : qx sc D 96 28 [l0, l1, vi x] st u bb σ Q ↔ qx sc D 96 29 [l0, l1, vi x] (vi x :: st) u bb σ Q := r_iload_n (k := 2) (by decide +kernel) rfl
theorem k96_29 : qx sc D 96 29 ls (vi a' :: st) u bb σ Q ↔ q_R (-a') ∧ qx sc D 96 30 ls (vi (-a') :: st) u bb σ Q := r_ineg (by decide +kernel)
theorem k96_30 : qx sc D 96 30 ls [vi x] (1, 6) bb σ Q ↔ Q (.inl (some (vi x))) bb σ := r_ret (by decide +kernel)
-- 97: RowProver.chain(IZI)I
theorem k97_0 : qx sc D 97 0 [vr a, l1, l2, l3] st u bb σ Q ↔ qx sc D 97 1 [vr a, l1, l2, l3] (vr a :: st) u bb σ Q := r_aload_n (k := 0) (by decide +kernel) rfl
theorem k97_1 : qx sc D 97 1 [l0, vi x, l2, l3] st u bb σ Q ↔ qx sc D 97 2 [l0, vi x, l2, l3] (vi x :: st) u bb σ Q := r_iload_n (k := 1) (by decide +kernel) rfl
theorem k97_2 : qx sc (D + 1) 97 2 ls [vi x0, vr 0] (0, 0) bb σ Q ↔ qx sc D 107 0 [vr 0, vi x0] [] (0, 0) bb σ (q_kn sc (D + 1) 97 5 ls [] (1, 6) Q) := r_callv (idx := 185) (n := 1) (m := 2) (by decide +kernel) rfl (Nat.le_of_ble_eq_true rfl) ⟨Nat.le_of_ble_eq_true rfl, Nat.le_of_ble_eq_true rfl, rfl⟩ rfl
theorem k97_5 : qx sc D 97 5 [vr a, l1, l2, l3] st u bb σ Q ↔ qx sc D 97 6 [vr a, l1, l2, l3] (vr a :: st) u bb σ Q := r_aload_n (k := 0) (by decide +kernel) rfl
theorem k97_6 : qx sc D 97 6 ls (vr 0 :: st) u bb σ Q ↔ qx sc D 97 9 ls (vr 66 :: st) u bb σ Q := r_getR (idx := 65) (c := 14) (k := 8) (by decide +kernel)
theorem k97_9 : qx sc D 97 9 ls (vr 66 :: st) u bb σ Q ↔ qx sc D 97 12 ls (vr 69 :: st) u bb σ Q := r_getR (idx := 197) (c := 8) (k := 7) (by decide +kernel)
theorem k97_12 : qx sc D 97 12 [l0, l1, vi x, l3] st u bb σ Q ↔ qx sc D 97 13 [l0, l1, vi x, l3] (vi x :: st) u bb σ Q := r_iload_n (k := 2) (by decide +kernel) rfl
theorem k97_13 : qx sc D 97 13 ls (vi x :: st) u bb σ Q ↔ (x = 0 → qx sc D 97 20 ls st u bb σ Q) ∧ (¬ (x = 0) → qx sc D 97 16 ls st u bb σ Q) := r_if_eq (off := 7) (t := 20) (by decide +kernel)
theorem k97_16 : qx sc D 97 16 ls st u bb σ Q ↔ qx sc D 97 17 ls (vi 0 :: st) u bb σ Q := r_iconst (by decide +kernel)
theorem k97_17 : qx sc D 97 17 ls st u bb σ Q ↔ qx sc D 97 21 ls st u bb σ Q := r_goto (off := 4) (by decide +kernel)
theorem k97_20 : qx sc D 97 20 ls st u bb σ Q ↔ qx sc D 97 21 ls (vi 1 :: st) u bb σ Q := r_iconst (by decide +kernel)
theorem k97_21 : qx sc D 97 21 ls (vi i :: vr a :: st) u bb σ Q ↔ (q_ty a = 4 ∧ 0 ≤ i ∧ i < q_ln a) ∧ qx sc D 97 22 ls (vr (a + 1 + i.toNat) :: st) u bb σ Q := r_aald (by decide +kernel)
theorem k97_22 : qx sc D 97 22 [l0, vi x, l2, l3] st u bb σ Q ↔ qx sc D 97 23 [l0, vi x, l2, l3] (vi x :: st) u bb σ Q := r_iload_n (k := 1) (by decide +kernel) rfl
theorem k97_23 : qx sc D 97 23 ls (vi i :: vr a :: st) u bb σ Q ↔ (q_ty a = 0 ∧ 0 ≤ i ∧ i < q_ln a) ∧ qx sc D 97 24 ls (vi (σ a i) :: st) u bb σ Q := r_iald (by decide +kernel)
theorem k97_24 : qx sc D 97 24 ls (vi x :: st) u bb σ Q ↔ (x = 0 → qx sc D 97 27 ls st u bb σ Q) ∧ (¬ (x = 0) → qx sc D 97 37 ls st u bb σ Q) := r_if_ne (off := 13) (t := 37) (by decide +kernel)
theorem k97_27 : qx sc D 97 27 ls [] (1, 6) bb σ Q ↔ Q (.inr 3) false σ := r_throw (idx := 175) (by decide +kernel)
theorem k97_37 : qx sc D 97 37 [vr a, l1, l2, l3] st u bb σ Q ↔ qx sc D 97 38 [vr a, l1, l2, l3] (vr a :: st) u bb σ Q := r_aload_n (k := 0) (by decide +kernel) rfl
theorem k97_38 : qx sc D 97 38 ls (vr 0 :: st) u bb σ Q ↔ qx sc D 97 41 ls (vr 66 :: st) u bb σ Q := r_getR (idx := 65) (c := 14) (k := 8) (by decide +kernel)
theorem k97_41 : qx sc D 97 41 [l0, vi x, l2, l3] st u bb σ Q ↔ qx sc D 97 42 [l0, vi x, l2, l3] (vi x :: st) u bb σ Q := r_iload_n (k := 1) (by decide +kernel) rfl
theorem k97_42 : qx sc D 97 42 [l0, l1, vi x, l3] st u bb σ Q ↔ qx sc D 97 43 [l0, l1, vi x, l3] (vi x :: st) u bb σ Q := r_iload_n (k := 2) (by decide +kernel) rfl
theorem k97_43 : qx sc D 97 43 [l0, l1, l2, vi x] st u bb σ Q ↔ qx sc D 97 44 [l0, l1, l2, vi x] (vi x :: st) u bb σ Q := r_iload_n (k := 3) (by decide +kernel) rfl
theorem k97_44 : qx sc (D + 1) 97 44 ls [vi x2, vi x1, vi x0, vr 66] (1, 6) bb σ Q ↔ qx sc D 34 0 [vr 66, vi x0, vi x1, vi x2, vn, vn, vn] [] (0, 0) bb σ (q_kn sc (D + 1) 97 47 ls [] (1, 6) Q) := r_callv (idx := 216) (n := 3) (m := 7) (by decide +kernel) rfl (Nat.le_of_ble_eq_true rfl) ⟨Nat.le_of_ble_eq_true rfl, Nat.le_of_ble_eq_true rfl, rfl⟩ rfl
theorem k97_47 : qx sc D 97 47 ls [vi x] (1, 6) bb σ Q ↔ Q (.inl (some (vi x))) bb σ := r_ret (by decide +kernel)
-- 98: RowProver.check(II)I
theorem k98_0 : qx sc D 98 0 [vr a, l1, l2] st u bb σ Q ↔ qx sc D 98 1 [vr a, l1, l2] (vr a :: st) u bb σ Q := r_aload_n (k := 0) (by decide +kernel) rfl
theorem k98_1 : qx sc D 98 1 [l0, vi x, l2] st u bb σ Q ↔ qx sc D 98 2 [l0, vi x, l2] (vi x :: st) u bb σ Q := r_iload_n (k := 1) (by decide +kernel) rfl
theorem k98_2 : qx sc (D + 1) 98 2 ls [vi x0, vr 0] (0, 0) bb σ Q ↔ qx sc D 107 0 [vr 0, vi x0] [] (0, 0) bb σ (q_kn sc (D + 1) 98 5 ls [] (1, 6) Q) := r_callv (idx := 185) (n := 1) (m := 2) (by decide +kernel) rfl (Nat.le_of_ble_eq_true rfl) ⟨Nat.le_of_ble_eq_true rfl, Nat.le_of_ble_eq_true rfl, rfl⟩ rfl
theorem k98_5 : qx sc D 98 5 [l0, l1, vi x] st u bb σ Q ↔ qx sc D 98 6 [l0, l1, vi x] (vi x :: st) u bb σ Q := r_iload_n (k := 2) (by decide +kernel) rfl
theorem k98_6 : qx sc D 98 6 ls (vi x :: st) u bb σ Q ↔ qx sc D 98 (if x < 0 ∨ 8 < x then 166 else [56, 66, 76, 86, 98, 110, 120, 130, 148].getD (x - 0).toNat 0) ls st u bb σ Q := r_tsw (d := 160) (lo := 0) (hi := 8) (offs := #[50, 60, 70, 80, 92, 104, 114, 124, 142]) (dt := 166) (tg := [56, 66, 76, 86, 98, 110, 120, 130, 148]) (by decide +kernel)
theorem k98_56 : qx sc D 98 56 [vr a, l1, l2] st u bb σ Q ↔ qx sc D 98 57 [vr a, l1, l2] (vr a :: st) u bb σ Q := r_aload_n (k := 0) (by decide +kernel) rfl
theorem k98_57 : qx sc D 98 57 ls (vr 0 :: st) u bb σ Q ↔ 0 ≤ σ 0 11 ∧ qx sc D 98 60 ls (vr (σ 0 11).toNat :: st) u bb σ Q := r_getM (idx := 90) (c := 14) (k := 11) (by decide +kernel)
theorem k98_60 (hc : q_C c) : qx sc D 98 60 ls (vr c :: st) u bb σ Q ↔ qx sc D 98 63 ls (vr (c + 12) :: st) u bb σ Q := r_getRc (idx := 188) (k := 14) (by decide +kernel) hc
theorem k98_63 : qx sc D 98 63 [l0, vi x, l2] st u bb σ Q ↔ qx sc D 98 64 [l0, vi x, l2] (vi x :: st) u bb σ Q := r_iload_n (k := 1) (by decide +kernel) rfl
theorem k98_64 : qx sc D 98 64 ls (vi i :: vr a :: st) u bb σ Q ↔ (q_ty a = 0 ∧ 0 ≤ i ∧ i < q_ln a) ∧ qx sc D 98 65 ls (vi (σ a i) :: st) u bb σ Q := r_iald (by decide +kernel)
theorem k98_65 : qx sc D 98 65 ls [vi x] (1, 6) bb σ Q ↔ Q (.inl (some (vi x))) bb σ := r_ret (by decide +kernel)
theorem k98_66 : qx sc D 98 66 [vr a, l1, l2] st u bb σ Q ↔ qx sc D 98 67 [vr a, l1, l2] (vr a :: st) u bb σ Q := r_aload_n (k := 0) (by decide +kernel) rfl
theorem k98_67 : qx sc D 98 67 ls (vr 0 :: st) u bb σ Q ↔ 0 ≤ σ 0 11 ∧ qx sc D 98 70 ls (vr (σ 0 11).toNat :: st) u bb σ Q := r_getM (idx := 90) (c := 14) (k := 11) (by decide +kernel)
theorem k98_70 (hc : q_C c) : qx sc D 98 70 ls (vr c :: st) u bb σ Q ↔ qx sc D 98 73 ls (vr (c + 13) :: st) u bb σ Q := r_getRc (idx := 191) (k := 15) (by decide +kernel) hc
theorem k98_73 : qx sc D 98 73 [l0, vi x, l2] st u bb σ Q ↔ qx sc D 98 74 [l0, vi x, l2] (vi x :: st) u bb σ Q := r_iload_n (k := 1) (by decide +kernel) rfl
theorem k98_74 : qx sc D 98 74 ls (vi i :: vr a :: st) u bb σ Q ↔ (q_ty a = 0 ∧ 0 ≤ i ∧ i < q_ln a) ∧ qx sc D 98 75 ls (vi (σ a i) :: st) u bb σ Q := r_iald (by decide +kernel)
theorem k98_75 : qx sc D 98 75 ls [vi x] (1, 6) bb σ Q ↔ Q (.inl (some (vi x))) bb σ := r_ret (by decide +kernel)
theorem k98_76 : qx sc D 98 76 [vr a, l1, l2] st u bb σ Q ↔ qx sc D 98 77 [vr a, l1, l2] (vr a :: st) u bb σ Q := r_aload_n (k := 0) (by decide +kernel) rfl
theorem k98_77 : qx sc D 98 77 ls (vr 0 :: st) u bb σ Q ↔ qx sc D 98 80 ls (vr 27 :: st) u bb σ Q := r_getR (idx := 38) (c := 14) (k := 5) (by decide +kernel)
theorem k98_80 : qx sc D 98 80 ls (vr 27 :: st) u bb σ Q ↔ qx sc D 98 83 ls (vr 28 :: st) u bb σ Q := r_getR (idx := 194) (c := 6) (k := 0) (by decide +kernel)
theorem k98_83 : qx sc D 98 83 [l0, vi x, l2] st u bb σ Q ↔ qx sc D 98 84 [l0, vi x, l2] (vi x :: st) u bb σ Q := r_iload_n (k := 1) (by decide +kernel) rfl
theorem k98_84 : qx sc D 98 84 ls (vi i :: vr a :: st) u bb σ Q ↔ (q_ty a = 0 ∧ 0 ≤ i ∧ i < q_ln a) ∧ qx sc D 98 85 ls (vi (σ a i) :: st) u bb σ Q := r_iald (by decide +kernel)
theorem k98_85 : qx sc D 98 85 ls [vi x] (1, 6) bb σ Q ↔ Q (.inl (some (vi x))) bb σ := r_ret (by decide +kernel)
theorem k98_86 : qx sc D 98 86 [vr a, l1, l2] st u bb σ Q ↔ qx sc D 98 87 [vr a, l1, l2] (vr a :: st) u bb σ Q := r_aload_n (k := 0) (by decide +kernel) rfl
theorem k98_87 : qx sc D 98 87 ls (vr 0 :: st) u bb σ Q ↔ qx sc D 98 90 ls (vr 66 :: st) u bb σ Q := r_getR (idx := 65) (c := 14) (k := 8) (by decide +kernel)
theorem k98_90 : qx sc D 98 90 ls (vr 66 :: st) u bb σ Q ↔ qx sc D 98 93 ls (vr 69 :: st) u bb σ Q := r_getR (idx := 197) (c := 8) (k := 7) (by decide +kernel)
theorem k98_93 : qx sc D 98 93 ls st u bb σ Q ↔ qx sc D 98 94 ls (vi 1 :: st) u bb σ Q := r_iconst (by decide +kernel)
theorem k98_94 : qx sc D 98 94 ls (vi i :: vr a :: st) u bb σ Q ↔ (q_ty a = 4 ∧ 0 ≤ i ∧ i < q_ln a) ∧ qx sc D 98 95 ls (vr (a + 1 + i.toNat) :: st) u bb σ Q := r_aald (by decide +kernel)
theorem k98_95 : qx sc D 98 95 [l0, vi x, l2] st u bb σ Q ↔ qx sc D 98 96 [l0, vi x, l2] (vi x :: st) u bb σ Q := r_iload_n (k := 1) (by decide +kernel) rfl
theorem k98_96 : qx sc D 98 96 ls (vi i :: vr a :: st) u bb σ Q ↔ (q_ty a = 0 ∧ 0 ≤ i ∧ i < q_ln a) ∧ qx sc D 98 97 ls (vi (σ a i) :: st) u bb σ Q := r_iald (by decide +kernel)
theorem k98_97 : qx sc D 98 97 ls [vi x] (1, 6) bb σ Q ↔ Q (.inl (some (vi x))) bb σ := r_ret (by decide +kernel)
theorem k98_98 : qx sc D 98 98 [vr a, l1, l2] st u bb σ Q ↔ qx sc D 98 99 [vr a, l1, l2] (vr a :: st) u bb σ Q := r_aload_n (k := 0) (by decide +kernel) rfl
theorem k98_99 : qx sc D 98 99 ls (vr 0 :: st) u bb σ Q ↔ qx sc D 98 102 ls (vr 66 :: st) u bb σ Q := r_getR (idx := 65) (c := 14) (k := 8) (by decide +kernel)
theorem k98_102 : qx sc D 98 102 ls (vr 66 :: st) u bb σ Q ↔ qx sc D 98 105 ls (vr 69 :: st) u bb σ Q := r_getR (idx := 197) (c := 8) (k := 7) (by decide +kernel)
theorem k98_105 : qx sc D 98 105 ls st u bb σ Q ↔ qx sc D 98 106 ls (vi 0 :: st) u bb σ Q := r_iconst (by decide +kernel)
theorem k98_106 : qx sc D 98 106 ls (vi i :: vr a :: st) u bb σ Q ↔ (q_ty a = 4 ∧ 0 ≤ i ∧ i < q_ln a) ∧ qx sc D 98 107 ls (vr (a + 1 + i.toNat) :: st) u bb σ Q := r_aald (by decide +kernel)
theorem k98_107 : qx sc D 98 107 [l0, vi x, l2] st u bb σ Q ↔ qx sc D 98 108 [l0, vi x, l2] (vi x :: st) u bb σ Q := r_iload_n (k := 1) (by decide +kernel) rfl
theorem k98_108 : qx sc D 98 108 ls (vi i :: vr a :: st) u bb σ Q ↔ (q_ty a = 0 ∧ 0 ≤ i ∧ i < q_ln a) ∧ qx sc D 98 109 ls (vi (σ a i) :: st) u bb σ Q := r_iald (by decide +kernel)
theorem k98_109 : qx sc D 98 109 ls [vi x] (1, 6) bb σ Q ↔ Q (.inl (some (vi x))) bb σ := r_ret (by decide +kernel)
theorem k98_110 : qx sc D 98 110 [vr a, l1, l2] st u bb σ Q ↔ qx sc D 98 111 [vr a, l1, l2] (vr a :: st) u bb σ Q := r_aload_n (k := 0) (by decide +kernel) rfl
theorem k98_111 : qx sc D 98 111 ls (vr 0 :: st) u bb σ Q ↔ qx sc D 98 114 ls (vr 72 :: st) u bb σ Q := r_getR (idx := 74) (c := 14) (k := 9) (by decide +kernel)
theorem k98_114 : qx sc D 98 114 ls (vr 72 :: st) u bb σ Q ↔ qx sc D 98 117 ls (vr 73 :: st) u bb σ Q := r_getR (idx := 200) (c := 5) (k := 4) (by decide +kernel)
theorem k98_117 : qx sc D 98 117 [l0, vi x, l2] st u bb σ Q ↔ qx sc D 98 118 [l0, vi x, l2] (vi x :: st) u bb σ Q := r_iload_n (k := 1) (by decide +kernel) rfl
theorem k98_118 : qx sc D 98 118 ls (vi i :: vr a :: st) u bb σ Q ↔ (q_ty a = 0 ∧ 0 ≤ i ∧ i < q_ln a) ∧ qx sc D 98 119 ls (vi (σ a i) :: st) u bb σ Q := r_iald (by decide +kernel)
theorem k98_119 : qx sc D 98 119 ls [vi x] (1, 6) bb σ Q ↔ Q (.inl (some (vi x))) bb σ := r_ret (by decide +kernel)
theorem k98_120 : qx sc D 98 120 [vr a, l1, l2] st u bb σ Q ↔ qx sc D 98 121 [vr a, l1, l2] (vr a :: st) u bb σ Q := r_aload_n (k := 0) (by decide +kernel) rfl
theorem k98_121 : qx sc D 98 121 ls (vr 0 :: st) u bb σ Q ↔ qx sc D 98 124 ls (vr 72 :: st) u bb σ Q := r_getR (idx := 74) (c := 14) (k := 9) (by decide +kernel)
theorem k98_124 : qx sc D 98 124 ls (vr 72 :: st) u bb σ Q ↔ qx sc D 98 127 ls (vr 74 :: st) u bb σ Q := r_getR (idx := 203) (c := 5) (k := 5) (by decide +kernel)
theorem k98_127 : qx sc D 98 127 [l0, vi x, l2] st u bb σ Q ↔ qx sc D 98 128 [l0, vi x, l2] (vi x :: st) u bb σ Q := r_iload_n (k := 1) (by decide +kernel) rfl
theorem k98_128 : qx sc D 98 128 ls (vi i :: vr a :: st) u bb σ Q ↔ (q_ty a = 0 ∧ 0 ≤ i ∧ i < q_ln a) ∧ qx sc D 98 129 ls (vi (σ a i) :: st) u bb σ Q := r_iald (by decide +kernel)
theorem k98_129 : qx sc D 98 129 ls [vi x] (1, 6) bb σ Q ↔ Q (.inl (some (vi x))) bb σ := r_ret (by decide +kernel)
theorem k98_130 : qx sc D 98 130 [vr a, l1, l2] st u bb σ Q ↔ qx sc D 98 131 [vr a, l1, l2] (vr a :: st) u bb σ Q := r_aload_n (k := 0) (by decide +kernel) rfl
theorem k98_131 : qx sc D 98 131 ls (vr 0 :: st) u bb σ Q ↔ qx sc D 98 134 ls (vr 9 :: st) u bb σ Q := r_getR (idx := 31) (c := 14) (k := 4) (by decide +kernel)
theorem k98_134 : qx sc D 98 134 ls (vr 9 :: st) u bb σ Q ↔ qx sc D 98 137 ls (vr 16 :: st) u bb σ Q := r_getR (idx := 206) (c := 13) (k := 7) (by decide +kernel)
theorem k98_137 : qx sc D 98 137 [vr a, l1, l2] st u bb σ Q ↔ qx sc D 98 138 [vr a, l1, l2] (vr a :: st) u bb σ Q := r_aload_n (k := 0) (by decide +kernel) rfl
theorem k98_138 : qx sc D 98 138 ls (vr 0 :: st) u bb σ Q ↔ qx sc D 98 141 ls (vr 27 :: st) u bb σ Q := r_getR (idx := 38) (c := 14) (k := 5) (by decide +kernel)
theorem k98_141 : qx sc D 98 141 ls (vr 27 :: st) u bb σ Q ↔ qx sc D 98 144 ls (vr 28 :: st) u bb σ Q := r_getR (idx := 194) (c := 6) (k := 0) (by decide +kernel)
theorem k98_144 : qx sc D 98 144 [l0, vi x, l2] st u bb σ Q ↔ qx sc D 98 145 [l0, vi x, l2] (vi x :: st) u bb σ Q := r_iload_n (k := 1) (by decide +kernel) rfl
theorem k98_145 : qx sc D 98 145 ls (vi i :: vr a :: st) u bb σ Q ↔ (q_ty a = 0 ∧ 0 ≤ i ∧ i < q_ln a) ∧ qx sc D 98 146 ls (vi (σ a i) :: st) u bb σ Q := r_iald (by decide +kernel)
theorem k98_146 : qx sc D 98 146 ls (vi i :: vr a :: st) u bb σ Q ↔ (q_ty a = 0 ∧ 0 ≤ i ∧ i < q_ln a) ∧ qx sc D 98 147 ls (vi (σ a i) :: st) u bb σ Q := r_iald (by decide +kernel)
theorem k98_147 : qx sc D 98 147 ls [vi x] (1, 6) bb σ Q ↔ Q (.inl (some (vi x))) bb σ := r_ret (by decide +kernel)
theorem k98_148 : qx sc D 98 148 [vr a, l1, l2] st u bb σ Q ↔ qx sc D 98 149 [vr a, l1, l2] (vr a :: st) u bb σ Q := r_aload_n (k := 0) (by decide +kernel) rfl
theorem k98_149 : qx sc D 98 149 ls (vr 0 :: st) u bb σ Q ↔ qx sc D 98 152 ls (vr 9 :: st) u bb σ Q := r_getR (idx := 31) (c := 14) (k := 4) (by decide +kernel)
theorem k98_152 : qx sc D 98 152 ls (vr 9 :: st) u bb σ Q ↔ qx sc D 98 155 ls (vr 17 :: st) u bb σ Q := r_getR (idx := 209) (c := 13) (k := 8) (by decide +kernel)
theorem k98_155 : qx sc D 98 155 [vr a, l1, l2] st u bb σ Q ↔ qx sc D 98 156 [vr a, l1, l2] (vr a :: st) u bb σ Q := r_aload_n (k := 0) (by decide +kernel) rfl
theorem k98_156 : qx sc D 98 156 ls (vr 0 :: st) u bb σ Q ↔ qx sc D 98 159 ls (vr 27 :: st) u bb σ Q := r_getR (idx := 38) (c := 14) (k := 5) (by decide +kernel)
theorem k98_159 : qx sc D 98 159 ls (vr 27 :: st) u bb σ Q ↔ qx sc D 98 162 ls (vr 28 :: st) u bb σ Q := r_getR (idx := 194) (c := 6) (k := 0) (by decide +kernel)
theorem k98_162 : qx sc D 98 162 [l0, vi x, l2] st u bb σ Q ↔ qx sc D 98 163 [l0, vi x, l2] (vi x :: st) u bb σ Q := r_iload_n (k := 1) (by decide +kernel) rfl
theorem k98_163 : qx sc D 98 163 ls (vi i :: vr a :: st) u bb σ Q ↔ (q_ty a = 0 ∧ 0 ≤ i ∧ i < q_ln a) ∧ qx sc D 98 164 ls (vi (σ a i) :: st) u bb σ Q := r_iald (by decide +kernel)
theorem k98_164 : qx sc D 98 164 ls (vi i :: vr a :: st) u bb σ Q ↔ (q_ty a = 0 ∧ 0 ≤ i ∧ i < q_ln a) ∧ qx sc D 98 165 ls (vi (σ a i) :: st) u bb σ Q := r_iald (by decide +kernel)
theorem k98_165 : qx sc D 98 165 ls [vi x] (1, 6) bb σ Q ↔ Q (.inl (some (vi x))) bb σ := r_ret (by decide +kernel)
theorem k98_166 : qx sc D 98 166 ls [] (1, 6) bb σ Q ↔ Q (.inr 2) false σ := r_throw (idx := 146) (by decide +kernel)
-- 99: RowProver.count(I)I
theorem k99_0 : qx sc D 99 0 [l0, vi x] st u bb σ Q ↔ qx sc D 99 1 [l0, vi x] (vi x :: st) u bb σ Q := r_iload_n (k := 1) (by decide +kernel) rfl
theorem k99_1 : qx sc D 99 1 ls (vi x :: st) u bb σ Q ↔ qx sc D 99 (if x < 0 ∨ 10 < x then 137 else [60, 68, 76, 84, 92, 100, 108, 116, 124, 124, 124].getD (x - 0).toNat 0) ls st u bb σ Q := r_tsw (d := 136) (lo := 0) (hi := 10) (offs := #[59, 67, 75, 83, 91, 99, 107, 115, 123, 123, 123]) (dt := 137) (tg := [60, 68, 76, 84, 92, 100, 108, 116, 124, 124, 124]) (by decide +kernel)
theorem k99_60 : qx sc D 99 60 [vr a, l1] st u bb σ Q ↔ qx sc D 99 61 [vr a, l1] (vr a :: st) u bb σ Q := r_aload_n (k := 0) (by decide +kernel) rfl
theorem k99_61 : qx sc D 99 61 ls (vr 0 :: st) u bb σ Q ↔ 0 ≤ σ 0 11 ∧ qx sc D 99 64 ls (vr (σ 0 11).toNat :: st) u bb σ Q := r_getM (idx := 90) (c := 14) (k := 11) (by decide +kernel)
theorem k99_64 (hc : q_C c) : qx sc D 99 64 ls (vr c :: st) u bb σ Q ↔ qx sc D 99 67 ls (vi (σ c 0) :: st) u bb σ Q := r_getIc (idx := 125) (k := 0) (by decide +kernel) hc
theorem k99_67 : qx sc D 99 67 ls [vi x] (0, 0) bb σ Q ↔ Q (.inl (some (vi x))) bb σ := r_ret (by decide +kernel)
theorem k99_68 : qx sc D 99 68 [vr a, l1] st u bb σ Q ↔ qx sc D 99 69 [vr a, l1] (vr a :: st) u bb σ Q := r_aload_n (k := 0) (by decide +kernel) rfl
theorem k99_69 : qx sc D 99 69 ls (vr 0 :: st) u bb σ Q ↔ qx sc D 99 72 ls (vr 9 :: st) u bb σ Q := r_getR (idx := 31) (c := 14) (k := 4) (by decide +kernel)
theorem k99_72 : qx sc D 99 72 ls (vr 9 :: st) u bb σ Q ↔ qx sc D 99 75 ls (vi (σ 9 0) :: st) u bb σ Q := r_getI (idx := 279) (c := 13) (k := 0) (by decide +kernel)
theorem k99_75 : qx sc D 99 75 ls [vi x] (0, 0) bb σ Q ↔ Q (.inl (some (vi x))) bb σ := r_ret (by decide +kernel)
theorem k99_76 : qx sc D 99 76 [vr a, l1] st u bb σ Q ↔ qx sc D 99 77 [vr a, l1] (vr a :: st) u bb σ Q := r_aload_n (k := 0) (by decide +kernel) rfl
theorem k99_77 : qx sc D 99 77 ls (vr 0 :: st) u bb σ Q ↔ 0 ≤ σ 0 11 ∧ qx sc D 99 80 ls (vr (σ 0 11).toNat :: st) u bb σ Q := r_getM (idx := 90) (c := 14) (k := 11) (by decide +kernel)
theorem k99_80 (hc : q_C c) : qx sc D 99 80 ls (vr c :: st) u bb σ Q ↔ qx sc D 99 83 ls (vi (σ c 1) :: st) u bb σ Q := r_getIc (idx := 282) (k := 1) (by decide +kernel) hc
theorem k99_83 : qx sc D 99 83 ls [vi x] (0, 0) bb σ Q ↔ Q (.inl (some (vi x))) bb σ := r_ret (by decide +kernel)
theorem k99_84 : qx sc D 99 84 [vr a, l1] st u bb σ Q ↔ qx sc D 99 85 [vr a, l1] (vr a :: st) u bb σ Q := r_aload_n (k := 0) (by decide +kernel) rfl
theorem k99_85 : qx sc D 99 85 ls (vr 0 :: st) u bb σ Q ↔ 0 ≤ σ 0 11 ∧ qx sc D 99 88 ls (vr (σ 0 11).toNat :: st) u bb σ Q := r_getM (idx := 90) (c := 14) (k := 11) (by decide +kernel)
theorem k99_88 (hc : q_C c) : qx sc D 99 88 ls (vr c :: st) u bb σ Q ↔ qx sc D 99 91 ls (vi (σ c 2) :: st) u bb σ Q := r_getIc (idx := 285) (k := 2) (by decide +kernel) hc
theorem k99_91 : qx sc D 99 91 ls [vi x] (0, 0) bb σ Q ↔ Q (.inl (some (vi x))) bb σ := r_ret (by decide +kernel)
theorem k99_92 : qx sc D 99 92 [vr a, l1] st u bb σ Q ↔ qx sc D 99 93 [vr a, l1] (vr a :: st) u bb σ Q := r_aload_n (k := 0) (by decide +kernel) rfl
theorem k99_93 : qx sc D 99 93 ls (vr 0 :: st) u bb σ Q ↔ qx sc D 99 96 ls (vr 66 :: st) u bb σ Q := r_getR (idx := 65) (c := 14) (k := 8) (by decide +kernel)
theorem k99_96 : qx sc D 99 96 ls (vr 66 :: st) u bb σ Q ↔ qx sc D 99 99 ls (vi (σ 66 8) :: st) u bb σ Q := r_getI (idx := 288) (c := 8) (k := 8) (by decide +kernel)
theorem k99_99 : qx sc D 99 99 ls [vi x] (0, 0) bb σ Q ↔ Q (.inl (some (vi x))) bb σ := r_ret (by decide +kernel)
theorem k99_100 : qx sc D 99 100 [vr a, l1] st u bb σ Q ↔ qx sc D 99 101 [vr a, l1] (vr a :: st) u bb σ Q := r_aload_n (k := 0) (by decide +kernel) rfl
theorem k99_101 : qx sc D 99 101 ls (vr 0 :: st) u bb σ Q ↔ qx sc D 99 104 ls (vr 66 :: st) u bb σ Q := r_getR (idx := 65) (c := 14) (k := 8) (by decide +kernel)
theorem k99_104 : qx sc D 99 104 ls (vr 66 :: st) u bb σ Q ↔ qx sc D 99 107 ls (vi (σ 66 9) :: st) u bb σ Q := r_getI (idx := 291) (c := 8) (k := 9) (by decide +kernel)
theorem k99_107 : qx sc D 99 107 ls [vi x] (0, 0) bb σ Q ↔ Q (.inl (some (vi x))) bb σ := r_ret (by decide +kernel)
theorem k99_108 : qx sc D 99 108 [vr a, l1] st u bb σ Q ↔ qx sc D 99 109 [vr a, l1] (vr a :: st) u bb σ Q := r_aload_n (k := 0) (by decide +kernel) rfl
theorem k99_109 : qx sc D 99 109 ls (vr 0 :: st) u bb σ Q ↔ qx sc D 99 112 ls (vr 72 :: st) u bb σ Q := r_getR (idx := 74) (c := 14) (k := 9) (by decide +kernel)
theorem k99_112 : qx sc D 99 112 ls (vr 72 :: st) u bb σ Q ↔ qx sc D 99 115 ls (vi (σ 72 8) :: st) u bb σ Q := r_getI (idx := 294) (c := 5) (k := 8) (by decide +kernel)
theorem k99_115 : qx sc D 99 115 ls [vi x] (0, 0) bb σ Q ↔ Q (.inl (some (vi x))) bb σ := r_ret (by decide +kernel)
theorem k99_116 : qx sc D 99 116 [vr a, l1] st u bb σ Q ↔ qx sc D 99 117 [vr a, l1] (vr a :: st) u bb σ Q := r_aload_n (k := 0) (by decide +kernel) rfl
theorem k99_117 : qx sc D 99 117 ls (vr 0 :: st) u bb σ Q ↔ 0 ≤ σ 0 11 ∧ qx sc D 99 120 ls (vr (σ 0 11).toNat :: st) u bb σ Q := r_getM (idx := 90) (c := 14) (k := 11) (by decide +kernel)
theorem k99_120 (hc : q_C c) : qx sc (D + 1) 99 120 ls [vr c] (0, 0) bb σ Q ↔ qx sc D 14 0 [vr c, vn, vn] [] (0, 0) bb σ (q_kn sc (D + 1) 99 123 ls [] (0, 0) Q) := r_callc (idx := 297) (n := 0) (m := 3) (by decide +kernel) hc rfl (Nat.le_of_ble_eq_true rfl) ⟨Nat.le_of_ble_eq_true rfl, Nat.le_of_ble_eq_true rfl, rfl⟩ rfl
theorem k99_123 : qx sc D 99 123 ls [vi x] (0, 0) bb σ Q ↔ Q (.inl (some (vi x))) bb σ := r_ret (by decide +kernel)
theorem k99_124 : qx sc D 99 124 [vr a, l1] st u bb σ Q ↔ qx sc D 99 125 [vr a, l1] (vr a :: st) u bb σ Q := r_aload_n (k := 0) (by decide +kernel) rfl
theorem k99_125 : qx sc D 99 125 ls (vr 0 :: st) u bb σ Q ↔ 0 ≤ σ 0 11 ∧ qx sc D 99 128 ls (vr (σ 0 11).toNat :: st) u bb σ Q := r_getM (idx := 90) (c := 14) (k := 11) (by decide +kernel)
theorem k99_128 (hc : q_C c) : qx sc D 99 128 ls (vr c :: st) u bb σ Q ↔ qx sc D 99 131 ls (vr (c + 1) :: st) u bb σ Q := r_getRc (idx := 172) (k := 3) (by decide +kernel) hc
theorem k99_131 : qx sc D 99 131 [l0, vi x] st u bb σ Q ↔ qx sc D 99 132 [l0, vi x] (vi x :: st) u bb σ Q := r_iload_n (k := 1) (by decide +kernel) rfl
theorem k99_132 : qx sc D 99 132 ls st u bb σ Q ↔ qx sc D 99 134 ls (vi 8 :: st) u bb σ Q := r_bipush (by decide +kernel)
theorem k99_134 : qx sc D 99 134 ls (vi b' :: vi a' :: st) u bb σ Q ↔ q_R (a' - b') ∧ qx sc D 99 135 ls (vi (a' - b') :: st) u bb σ Q := r_isub (by decide +kernel)
theorem k99_135 : qx sc D 99 135 ls (vi i :: vr a :: st) u bb σ Q ↔ (q_ty a = 0 ∧ 0 ≤ i ∧ i < q_ln a) ∧ qx sc D 99 136 ls (vi (σ a i) :: st) u bb σ Q := r_iald (by decide +kernel)
theorem k99_136 : qx sc D 99 136 ls [vi x] (0, 0) bb σ Q ↔ Q (.inl (some (vi x))) bb σ := r_ret (by decide +kernel)
theorem k99_137 : qx sc D 99 137 ls st u bb σ Q ↔ qx sc D 99 138 ls (vi (-1) :: st) u bb σ Q := r_iconst (by decide +kernel)
theorem k99_138 : qx sc D 99 138 ls [vi x] (0, 0) bb σ Q ↔ Q (.inl (some (vi x))) bb σ := r_ret (by decide +kernel)
-- 100: RowProver.end(I)Z
theorem k100_0 : qx sc D 100 0 [l0, vi x] st u bb σ Q ↔ qx sc D 100 1 [l0, vi x] (vi x :: st) u bb σ Q := r_iload_n (k := 1) (by decide +kernel) rfl
theorem k100_1 : qx sc D 100 1 ls (vi x :: st) u bb σ Q ↔ (x < 0 → qx sc D 100 12 ls st u bb σ Q) ∧ (¬ (x < 0) → qx sc D 100 4 ls st u bb σ Q) := r_if_lt (off := 11) (t := 12) (by decide +kernel)
theorem k100_4 : qx sc D 100 4 [l0, vi x] st u bb σ Q ↔ qx sc D 100 5 [l0, vi x] (vi x :: st) u bb σ Q := r_iload_n (k := 1) (by decide +kernel) rfl
theorem k100_5 : qx sc D 100 5 [vr a, l1] st u bb σ Q ↔ qx sc D 100 6 [vr a, l1] (vr a :: st) u bb σ Q := r_aload_n (k := 0) (by decide +kernel) rfl
theorem k100_6 : qx sc D 100 6 ls (vr 0 :: st) u bb σ Q ↔ qx sc D 100 9 ls (vi (σ 0 13) :: st) u bb σ Q := r_getI (idx := 104) (c := 14) (k := 13) (by decide +kernel)
theorem k100_9 : qx sc D 100 9 ls (vi b' :: vi a' :: st) u bb σ Q ↔ (b' < a' → qx sc D 100 12 ls st u bb σ Q) ∧ (¬ (b' < a') → qx sc D 100 14 ls st u bb σ Q) := r_ic_le (off := 5) (t := 14) (by decide +kernel)
theorem k100_12 : qx sc D 100 12 ls st u bb σ Q ↔ qx sc D 100 13 ls (vi 0 :: st) u bb σ Q := r_iconst (by decide +kernel)
theorem k100_13 : qx sc D 100 13 ls [vi x] (0, 0) bb σ Q ↔ (x = 0 ∨ x = 1) ∧ Q (.inl (some (vi x))) bb σ := r_retB (by decide +kernel)
theorem k100_14 : qx sc D 100 14 [vr a, l1] st u bb σ Q ↔ qx sc D 100 15 [vr a, l1] (vr a :: st) u bb σ Q := r_aload_n (k := 0) (by decide +kernel) rfl
theorem k100_15 : qx sc D 100 15 [l0, vi x] st u bb σ Q ↔ qx sc D 100 16 [l0, vi x] (vi x :: st) u bb σ Q := r_iload_n (k := 1) (by decide +kernel) rfl
theorem k100_16 : qx sc D 100 16 ls (vi x :: vr 0 :: st) u bb σ Q ↔ qx sc D 100 19 ls st u bb (q_up σ 0 13 x) Q := r_putI (idx := 104) (c := 14) (k := 13) (by decide +kernel)
theorem k100_19 : qx sc D 100 19 ls st u bb σ Q ↔ qx sc D 100 20 ls (vi 1 :: st) u bb σ Q := r_iconst (by decide +kernel)
theorem k100_20 : qx sc D 100 20 ls [vi x] (0, 0) bb σ Q ↔ (x = 0 ∨ x = 1) ∧ Q (.inl (some (vi x))) bb σ := r_retB (by decide +kernel)
-- 101: RowProver.fault()I
theorem k101_0 : qx sc D 101 0 [vr a] st u bb σ Q ↔ qx sc D 101 1 [vr a] (vr a :: st) u bb σ Q := r_aload_n (k := 0) (by decide +kernel) rfl
theorem k101_1 : qx sc D 101 1 ls (vr 0 :: st) u bb σ Q ↔ qx sc D 101 4 ls (vi (σ 0 14) :: st) u bb σ Q := r_getI (idx := 97) (c := 14) (k := 14) (by decide +kernel)
theorem k101_4 : qx sc D 101 4 ls [vi x] (0, 0) bb σ Q ↔ Q (.inl (some (vi x))) bb σ := r_ret (by decide +kernel)
-- 102: RowProver.feed(IIIII)I
theorem k102_0 : qx sc D 102 0 [vr a, l1, l2, l3, l4, l5] st u bb σ Q ↔ qx sc D 102 1 [vr a, l1, l2, l3, l4, l5] (vr a :: st) u bb σ Q := r_aload_n (k := 0) (by decide +kernel) rfl
theorem k102_1 : qx sc D 102 1 ls (vr 0 :: st) u bb σ Q ↔ qx sc D 102 4 ls (vi (σ 0 13) :: st) u bb σ Q := r_getI (idx := 104) (c := 14) (k := 13) (by decide +kernel)
theorem k102_4 : qx sc D 102 4 ls st u bb σ Q ↔ qx sc D 102 6 ls (vi 20 :: st) u bb σ Q := r_bipush (by decide +kernel)
theorem k102_6 : qx sc D 102 6 ls (vi b' :: vi a' :: st) u bb σ Q ↔ q_R (a' + b') ∧ qx sc D 102 7 ls (vi (a' + b') :: st) u bb σ Q := r_iadd (by decide +kernel)
theorem k102_7 : qx sc D 102 7 ls st u bb σ Q ↔ qx sc D 102 10 ls (vi 400 :: st) u bb σ Q := r_sipush (by decide +kernel)
theorem k102_10 : qx sc D 102 10 ls (vi b' :: vi a' :: st) u bb σ Q ↔ (b' < a' → qx sc D 102 13 ls st u bb σ Q) ∧ (¬ (b' < a') → qx sc D 102 15 ls st u bb σ Q) := r_ic_le (off := 5) (t := 15) (by decide +kernel)
theorem k102_13 : qx sc D 102 13 ls st u bb σ Q ↔ qx sc D 102 14 ls (vi (-1) :: st) u bb σ Q := r_iconst (by decide +kernel)
theorem k102_14 : qx sc D 102 14 ls [vi x] (0, 0) bb σ Q ↔ Q (.inl (some (vi x))) bb σ := r_ret (by decide +kernel)
theorem k102_15 : qx sc D 102 15 [vr a, l1, l2, l3, l4, l5] st u bb σ Q ↔ qx sc D 102 16 [vr a, l1, l2, l3, l4, l5] (vr a :: st) u bb σ Q := r_aload_n (k := 0) (by decide +kernel) rfl
theorem k102_16 : qx sc D 102 16 [l0, vi x, l2, l3, l4, l5] st u bb σ Q ↔ qx sc D 102 17 [l0, vi x, l2, l3, l4, l5] (vi x :: st) u bb σ Q := r_iload_n (k := 1) (by decide +kernel) rfl
theorem k102_17 : qx sc (D + 1) 102 17 ls [vi x0, vr 0] (0, 0) bb σ Q ↔ qx sc D 122 0 [vr 0, vi x0, vn] [] (0, 0) bb σ (q_kn sc (D + 1) 102 20 ls [] (0, 0) Q) := r_callv (idx := 107) (n := 1) (m := 3) (by decide +kernel) rfl (Nat.le_of_ble_eq_true rfl) ⟨Nat.le_of_ble_eq_true rfl, Nat.le_of_ble_eq_true rfl, rfl⟩ rfl
theorem k102_20 : qx sc D 102 20 [vr a, l1, l2, l3, l4, l5] st u bb σ Q ↔ qx sc D 102 21 [vr a, l1, l2, l3, l4, l5] (vr a :: st) u bb σ Q := r_aload_n (k := 0) (by decide +kernel) rfl
theorem k102_21 : qx sc D 102 21 [l0, l1, vi x, l3, l4, l5] st u bb σ Q ↔ qx sc D 102 22 [l0, l1, vi x, l3, l4, l5] (vi x :: st) u bb σ Q := r_iload_n (k := 2) (by decide +kernel) rfl
theorem k102_22 : qx sc (D + 1) 102 22 ls [vi x0, vr 0] (0, 0) bb σ Q ↔ qx sc D 122 0 [vr 0, vi x0, vn] [] (0, 0) bb σ (q_kn sc (D + 1) 102 25 ls [] (0, 0) Q) := r_callv (idx := 107) (n := 1) (m := 3) (by decide +kernel) rfl (Nat.le_of_ble_eq_true rfl) ⟨Nat.le_of_ble_eq_true rfl, Nat.le_of_ble_eq_true rfl, rfl⟩ rfl
theorem k102_25 : qx sc D 102 25 [vr a, l1, l2, l3, l4, l5] st u bb σ Q ↔ qx sc D 102 26 [vr a, l1, l2, l3, l4, l5] (vr a :: st) u bb σ Q := r_aload_n (k := 0) (by decide +kernel) rfl
theorem k102_26 : qx sc D 102 26 [l0, l1, l2, vi x, l4, l5] st u bb σ Q ↔ qx sc D 102 27 [l0, l1, l2, vi x, l4, l5] (vi x :: st) u bb σ Q := r_iload_n (k := 3) (by decide +kernel) rfl
theorem k102_27 : qx sc (D + 1) 102 27 ls [vi x0, vr 0] (0, 0) bb σ Q ↔ qx sc D 122 0 [vr 0, vi x0, vn] [] (0, 0) bb σ (q_kn sc (D + 1) 102 30 ls [] (0, 0) Q) := r_callv (idx := 107) (n := 1) (m := 3) (by decide +kernel) rfl (Nat.le_of_ble_eq_true rfl) ⟨Nat.le_of_ble_eq_true rfl, Nat.le_of_ble_eq_true rfl, rfl⟩ rfl
theorem k102_30 : qx sc D 102 30 [vr a, l1, l2, l3, l4, l5] st u bb σ Q ↔ qx sc D 102 31 [vr a, l1, l2, l3, l4, l5] (vr a :: st) u bb σ Q := r_aload_n (k := 0) (by decide +kernel) rfl
theorem k102_31 : qx sc D 102 31 [l0, l1, l2, l3, vi x, l5] st u bb σ Q ↔ qx sc D 102 33 [l0, l1, l2, l3, vi x, l5] (vi x :: st) u bb σ Q := r_iload (k := 4) (by decide +kernel) rfl
theorem k102_33 : qx sc (D + 1) 102 33 ls [vi x0, vr 0] (0, 0) bb σ Q ↔ qx sc D 122 0 [vr 0, vi x0, vn] [] (0, 0) bb σ (q_kn sc (D + 1) 102 36 ls [] (0, 0) Q) := r_callv (idx := 107) (n := 1) (m := 3) (by decide +kernel) rfl (Nat.le_of_ble_eq_true rfl) ⟨Nat.le_of_ble_eq_true rfl, Nat.le_of_ble_eq_true rfl, rfl⟩ rfl
theorem k102_36 : qx sc D 102 36 [vr a, l1, l2, l3, l4, l5] st u bb σ Q ↔ qx sc D 102 37 [vr a, l1, l2, l3, l4, l5] (vr a :: st) u bb σ Q := r_aload_n (k := 0) (by decide +kernel) rfl
theorem k102_37 : qx sc D 102 37 [l0, l1, l2, l3, l4, vi x] st u bb σ Q ↔ qx sc D 102 39 [l0, l1, l2, l3, l4, vi x] (vi x :: st) u bb σ Q := r_iload (k := 5) (by decide +kernel) rfl
theorem k102_39 : qx sc (D + 1) 102 39 ls [vi x0, vr 0] (0, 0) bb σ Q ↔ qx sc D 122 0 [vr 0, vi x0, vn] [] (0, 0) bb σ (q_kn sc (D + 1) 102 42 ls [] (0, 0) Q) := r_callv (idx := 107) (n := 1) (m := 3) (by decide +kernel) rfl (Nat.le_of_ble_eq_true rfl) ⟨Nat.le_of_ble_eq_true rfl, Nat.le_of_ble_eq_true rfl, rfl⟩ rfl
theorem k102_42 : qx sc D 102 42 [vr a, l1, l2, l3, l4, l5] st u bb σ Q ↔ qx sc D 102 43 [vr a, l1, l2, l3, l4, l5] (vr a :: st) u bb σ Q := r_aload_n (k := 0) (by decide +kernel) rfl
theorem k102_43 : qx sc D 102 43 ls (vr 0 :: st) u bb σ Q ↔ qx sc D 102 46 ls (vi (σ 0 13) :: st) u bb σ Q := r_getI (idx := 104) (c := 14) (k := 13) (by decide +kernel)
theorem k102_46 : qx sc D 102 46 ls [vi x] (0, 0) bb σ Q ↔ Q (.inl (some (vi x))) bb σ := r_ret (by decide +kernel)
-- 103: RowProver.hangs(I)I
theorem k103_0 : qx sc D 103 0 [vr a, l1] st u bb σ Q ↔ qx sc D 103 1 [vr a, l1] (vr a :: st) u bb σ Q := r_aload_n (k := 0) (by decide +kernel) rfl
theorem k103_1 : qx sc D 103 1 [l0, vi x] st u bb σ Q ↔ qx sc D 103 2 [l0, vi x] (vi x :: st) u bb σ Q := r_iload_n (k := 1) (by decide +kernel) rfl
theorem k103_2 : qx sc (D + 1) 103 2 ls [vi x0, vr 0] (0, 0) bb σ Q ↔ qx sc D 107 0 [vr 0, vi x0] [] (0, 0) bb σ (q_kn sc (D + 1) 103 5 ls [] (1, 6) Q) := r_callv (idx := 185) (n := 1) (m := 2) (by decide +kernel) rfl (Nat.le_of_ble_eq_true rfl) ⟨Nat.le_of_ble_eq_true rfl, Nat.le_of_ble_eq_true rfl, rfl⟩ rfl
theorem k103_5 : qx sc D 103 5 [vr a, l1] st u bb σ Q ↔ qx sc D 103 6 [vr a, l1] (vr a :: st) u bb σ Q := r_aload_n (k := 0) (by decide +kernel) rfl
theorem k103_6 : qx sc D 103 6 ls (vr 0 :: st) u bb σ Q ↔ qx sc D 103 9 ls (vr 66 :: st) u bb σ Q := r_getR (idx := 65) (c := 14) (k := 8) (by decide +kernel)
theorem k103_9 : qx sc D 103 9 [l0, vi x] st u bb σ Q ↔ qx sc D 103 10 [l0, vi x] (vi x :: st) u bb σ Q := r_iload_n (k := 1) (by decide +kernel) rfl
theorem k103_10 : qx sc (D + 1) 103 10 ls [vi x0, vr 66] (1, 6) bb σ Q ↔ qx sc D 35 0 [vr 66, vi x0] [] (0, 0) bb σ (q_kn sc (D + 1) 103 13 ls [] (1, 6) Q) := r_callv (idx := 237) (n := 1) (m := 2) (by decide +kernel) rfl (Nat.le_of_ble_eq_true rfl) ⟨Nat.le_of_ble_eq_true rfl, Nat.le_of_ble_eq_true rfl, rfl⟩ rfl
theorem k103_13 : qx sc D 103 13 ls [vi x] (1, 6) bb σ Q ↔ Q (.inl (some (vi x))) bb σ := r_ret (by decide +kernel)
-- 104: RowProver.input(II)I
theorem k104_0 : qx sc D 104 0 [vr a, l1, l2, l3] st u bb σ Q ↔ qx sc D 104 1 [vr a, l1, l2, l3] (vr a :: st) u bb σ Q := r_aload_n (k := 0) (by decide +kernel) rfl
theorem k104_1 : qx sc D 104 1 [l0, vi x, l2, l3] st u bb σ Q ↔ qx sc D 104 2 [l0, vi x, l2, l3] (vi x :: st) u bb σ Q := r_iload_n (k := 1) (by decide +kernel) rfl
theorem k104_2 : qx sc (D + 1) 104 2 ls [vi x0, vr 0] (0, 0) bb σ Q ↔ qx sc D 109 0 [vr 0, vi x0] [] (0, 0) bb σ (q_kn sc (D + 1) 104 5 ls [] (1, 6) Q) := r_callv (idx := 243) (n := 1) (m := 2) (by decide +kernel) rfl (Nat.le_of_ble_eq_true rfl) ⟨Nat.le_of_ble_eq_true rfl, Nat.le_of_ble_eq_true rfl, rfl⟩ rfl
theorem k104_5 : qx sc D 104 5 [vr a, l1, l2, l3] st u bb σ Q ↔ qx sc D 104 6 [vr a, l1, l2, l3] (vr a :: st) u bb σ Q := r_aload_n (k := 0) (by decide +kernel) rfl
theorem k104_6 : qx sc D 104 6 [l0, l1, vi x, l3] st u bb σ Q ↔ qx sc D 104 7 [l0, l1, vi x, l3] (vi x :: st) u bb σ Q := r_iload_n (k := 2) (by decide +kernel) rfl
theorem k104_7 : qx sc (D + 1) 104 7 ls [vi x0, vr 0] (1, 6) bb σ Q ↔ qx sc D 110 0 [vr 0, vi x0] [] (0, 0) bb σ (q_kn sc (D + 1) 104 10 ls [] (2, 12) Q) := r_callv (idx := 246) (n := 1) (m := 2) (by decide +kernel) rfl (Nat.le_of_ble_eq_true rfl) ⟨Nat.le_of_ble_eq_true rfl, Nat.le_of_ble_eq_true rfl, rfl⟩ rfl
theorem k104_10 : qx sc D 104 10 [vr a, l1, l2, l3] st u bb σ Q ↔ qx sc D 104 11 [vr a, l1, l2, l3] (vr a :: st) u bb σ Q := r_aload_n (k := 0) (by decide +kernel) rfl
theorem k104_11 : qx sc D 104 11 ls (vr 0 :: st) u bb σ Q ↔ qx sc D 104 14 ls (vr 2 :: st) u bb σ Q := r_getR (idx := 13) (c := 14) (k := 1) (by decide +kernel)
theorem k104_14 : qx sc D 104 14 [l0, vi x, l2, l3] st u bb σ Q ↔ qx sc D 104 15 [l0, vi x, l2, l3] (vi x :: st) u bb σ Q := r_iload_n (k := 1) (by decide +kernel) rfl
theorem k104_15 : qx sc D 104 15 ls (vi i :: vr a :: st) u bb σ Q ↔ (q_ty a = 0 ∧ 0 ≤ i ∧ i < q_ln a) ∧ qx sc D 104 16 ls (vi (σ a i) :: st) u bb σ Q := r_iald (by decide +kernel)
theorem k104_16 : qx sc D 104 16 [l0, l1, l2, l3] (vi x :: st) u bb σ Q ↔ qx sc D 104 17 [l0, l1, l2, vi x] st u bb σ Q := r_istore_n (k := 3) (by decide +kernel) (Nat.le_of_ble_eq_true rfl)
theorem k104_17 : qx sc D 104 17 [vr a, l1, l2, l3] st u bb σ Q ↔ qx sc D 104 18 [vr a, l1, l2, l3] (vr a :: st) u bb σ Q := r_aload_n (k := 0) (by decide +kernel) rfl
theorem k104_18 : qx sc D 104 18 ls (vr 0 :: st) u bb σ Q ↔ qx sc D 104 21 ls (vr 2 :: st) u bb σ Q := r_getR (idx := 13) (c := 14) (k := 1) (by decide +kernel)
theorem k104_21 : qx sc D 104 21 [l0, vi x, l2, l3] st u bb σ Q ↔ qx sc D 104 22 [l0, vi x, l2, l3] (vi x :: st) u bb σ Q := r_iload_n (k := 1) (by decide +kernel) rfl
theorem k104_22 : qx sc D 104 22 [l0, l1, vi x, l3] st u bb σ Q ↔ qx sc D 104 23 [l0, l1, vi x, l3] (vi x :: st) u bb σ Q := r_iload_n (k := 2) (by decide +kernel) rfl
theorem k104_23 : qx sc D 104 23 ls (vi x :: vi i :: vr a :: st) u bb σ Q ↔ (q_ty a = 0 ∧ 0 ≤ i ∧ i < q_ln a) ∧ qx sc D 104 24 ls st u bb (q_up σ a i x) Q := r_iast (by decide +kernel)
theorem k104_24 : qx sc D 104 24 [l0, l1, l2, vi x] st u bb σ Q ↔ qx sc D 104 25 [l0, l1, l2, vi x] (vi x :: st) u bb σ Q := r_iload_n (k := 3) (by decide +kernel) rfl
theorem k104_25 : qx sc D 104 25 ls [vi x] (2, 12) bb σ Q ↔ Q (.inl (some (vi x))) bb σ := r_ret (by decide +kernel)
-- 105: RowProver.length(II)I
theorem k105_0 : qx sc D 105 0 [vr a, l1, l2, l3] st u bb σ Q ↔ qx sc D 105 1 [vr a, l1, l2, l3] (vr a :: st) u bb σ Q := r_aload_n (k := 0) (by decide +kernel) rfl
theorem k105_1 : qx sc D 105 1 [l0, vi x, l2, l3] st u bb σ Q ↔ qx sc D 105 2 [l0, vi x, l2, l3] (vi x :: st) u bb σ Q := r_iload_n (k := 1) (by decide +kernel) rfl
theorem k105_2 : qx sc (D + 1) 105 2 ls [vi x0, vr 0] (0, 0) bb σ Q ↔ qx sc D 112 0 [vr 0, vi x0] [] (0, 0) bb σ (q_kn sc (D + 1) 105 5 ls [] (1, 6) Q) := r_callv (idx := 169) (n := 1) (m := 2) (by decide +kernel) rfl (Nat.le_of_ble_eq_true rfl) ⟨Nat.le_of_ble_eq_true rfl, Nat.le_of_ble_eq_true rfl, rfl⟩ rfl
theorem k105_5 : qx sc D 105 5 [l0, l1, vi x, l3] st u bb σ Q ↔ qx sc D 105 6 [l0, l1, vi x, l3] (vi x :: st) u bb σ Q := r_iload_n (k := 2) (by decide +kernel) rfl
theorem k105_6 : qx sc D 105 6 ls (vi x :: st) u bb σ Q ↔ (x < 0 → qx sc D 105 15 ls st u bb σ Q) ∧ (¬ (x < 0) → qx sc D 105 9 ls st u bb σ Q) := r_if_lt (off := 9) (t := 15) (by decide +kernel)
theorem k105_9 : qx sc D 105 9 [l0, l1, vi x, l3] st u bb σ Q ↔ qx sc D 105 10 [l0, l1, vi x, l3] (vi x :: st) u bb σ Q := r_iload_n (k := 2) (by decide +kernel) rfl
theorem k105_10 : qx sc D 105 10 ls st u bb σ Q ↔ qx sc D 105 12 ls (vi 40 :: st) u bb σ Q := r_bipush (by decide +kernel)
theorem k105_12 : qx sc D 105 12 ls (vi b' :: vi a' :: st) u bb σ Q ↔ (b' < a' → qx sc D 105 15 ls st u bb σ Q) ∧ (¬ (b' < a') → qx sc D 105 25 ls st u bb σ Q) := r_ic_le (off := 13) (t := 25) (by decide +kernel)
theorem k105_15 : qx sc D 105 15 ls [] (1, 6) bb σ Q ↔ Q (.inr 0) false σ := r_throw (idx := 118) (by decide +kernel)
theorem k105_25 : qx sc D 105 25 [vr a, l1, l2, l3] st u bb σ Q ↔ qx sc D 105 26 [vr a, l1, l2, l3] (vr a :: st) u bb σ Q := r_aload_n (k := 0) (by decide +kernel) rfl
theorem k105_26 : qx sc D 105 26 ls (vr 0 :: st) u bb σ Q ↔ qx sc D 105 29 ls (vr 3 :: st) u bb σ Q := r_getR (idx := 16) (c := 14) (k := 2) (by decide +kernel)
theorem k105_29 : qx sc D 105 29 [l0, vi x, l2, l3] st u bb σ Q ↔ qx sc D 105 30 [l0, vi x, l2, l3] (vi x :: st) u bb σ Q := r_iload_n (k := 1) (by decide +kernel) rfl
theorem k105_30 : qx sc D 105 30 ls (vi i :: vr a :: st) u bb σ Q ↔ (q_ty a = 0 ∧ 0 ≤ i ∧ i < q_ln a) ∧ qx sc D 105 31 ls (vi (σ a i) :: st) u bb σ Q := r_iald (by decide +kernel)
theorem k105_31 : qx sc D 105 31 [l0, l1, l2, l3] (vi x :: st) u bb σ Q ↔ qx sc D 105 32 [l0, l1, l2, vi x] st u bb σ Q := r_istore_n (k := 3) (by decide +kernel) (Nat.le_of_ble_eq_true rfl)
theorem k105_32 : qx sc D 105 32 [vr a, l1, l2, l3] st u bb σ Q ↔ qx sc D 105 33 [vr a, l1, l2, l3] (vr a :: st) u bb σ Q := r_aload_n (k := 0) (by decide +kernel) rfl
theorem k105_33 : qx sc D 105 33 ls (vr 0 :: st) u bb σ Q ↔ qx sc D 105 36 ls (vr 3 :: st) u bb σ Q := r_getR (idx := 16) (c := 14) (k := 2) (by decide +kernel)
theorem k105_36 : qx sc D 105 36 [l0, vi x, l2, l3] st u bb σ Q ↔ qx sc D 105 37 [l0, vi x, l2, l3] (vi x :: st) u bb σ Q := r_iload_n (k := 1) (by decide +kernel) rfl
theorem k105_37 : qx sc D 105 37 [l0, l1, vi x, l3] st u bb σ Q ↔ qx sc D 105 38 [l0, l1, vi x, l3] (vi x :: st) u bb σ Q := r_iload_n (k := 2) (by decide +kernel) rfl
theorem k105_38 : qx sc D 105 38 ls (vi x :: vi i :: vr a :: st) u bb σ Q ↔ (q_ty a = 0 ∧ 0 ≤ i ∧ i < q_ln a) ∧ qx sc D 105 39 ls st u bb (q_up σ a i x) Q := r_iast (by decide +kernel)
theorem k105_39 : qx sc D 105 39 [l0, l1, l2, vi x] st u bb σ Q ↔ qx sc D 105 40 [l0, l1, l2, vi x] (vi x :: st) u bb σ Q := r_iload_n (k := 3) (by decide +kernel) rfl
theorem k105_40 : qx sc D 105 40 ls [vi x] (1, 6) bb σ Q ↔ Q (.inl (some (vi x))) bb σ := r_ret (by decide +kernel)
-- 106: RowProver.loop(II)I
theorem k106_0 : qx sc D 106 0 [vr a, l1, l2, l3] st u bb σ Q ↔ qx sc D 106 1 [vr a, l1, l2, l3] (vr a :: st) u bb σ Q := r_aload_n (k := 0) (by decide +kernel) rfl
theorem k106_1 : qx sc D 106 1 [l0, vi x, l2, l3] st u bb σ Q ↔ qx sc D 106 2 [l0, vi x, l2, l3] (vi x :: st) u bb σ Q := r_iload_n (k := 1) (by decide +kernel) rfl
theorem k106_2 : qx sc (D + 1) 106 2 ls [vi x0, vr 0] (0, 0) bb σ Q ↔ qx sc D 111 0 [vr 0, vi x0] [] (0, 0) bb σ (q_kn sc (D + 1) 106 5 ls [] (1, 6) Q) := r_callv (idx := 220) (n := 1) (m := 2) (by decide +kernel) rfl (Nat.le_of_ble_eq_true rfl) ⟨Nat.le_of_ble_eq_true rfl, Nat.le_of_ble_eq_true rfl, rfl⟩ rfl
theorem k106_5 : qx sc D 106 5 [vr a, l1, l2, l3] st u bb σ Q ↔ qx sc D 106 6 [vr a, l1, l2, l3] (vr a :: st) u bb σ Q := r_aload_n (k := 0) (by decide +kernel) rfl
theorem k106_6 : qx sc D 106 6 ls (vr 0 :: st) u bb σ Q ↔ 0 ≤ σ 0 11 ∧ qx sc D 106 9 ls (vr (σ 0 11).toNat :: st) u bb σ Q := r_getM (idx := 90) (c := 14) (k := 11) (by decide +kernel)
theorem k106_9 (hc : q_C c) : qx sc D 106 9 ls (vr c :: st) u bb σ Q ↔ qx sc D 106 12 ls (vr (c + 15) :: st) u bb σ Q := r_getRc (idx := 223) (k := 17) (by decide +kernel) hc
theorem k106_12 : qx sc D 106 12 [l0, vi x, l2, l3] st u bb σ Q ↔ qx sc D 106 13 [l0, vi x, l2, l3] (vi x :: st) u bb σ Q := r_iload_n (k := 1) (by decide +kernel) rfl
theorem k106_13 : qx sc D 106 13 ls (vi i :: vr a :: st) u bb σ Q ↔ (q_ty a = 0 ∧ 0 ≤ i ∧ i < q_ln a) ∧ qx sc D 106 14 ls (vi (σ a i) :: st) u bb σ Q := r_iald (by decide +kernel)
theorem k106_14 : qx sc D 106 14 [l0, l1, l2, l3] (vi x :: st) u bb σ Q ↔ qx sc D 106 15 [l0, l1, l2, vi x] st u bb σ Q := r_istore_n (k := 3) (by decide +kernel) (Nat.le_of_ble_eq_true rfl)
theorem k106_15 : qx sc D 106 15 [l0, l1, vi x, l3] st u bb σ Q ↔ qx sc D 106 16 [l0, l1, vi x, l3] (vi x :: st) u bb σ Q := r_iload_n (k := 2) (by decide +kernel) rfl
theorem k106_16 : qx sc D 106 16 ls (vi x :: st) u bb σ Q ↔ qx sc D 106 (if x < 0 ∨ 4 < x then 94 else [52, 54, 64, 74, 84].getD (x - 0).toNat 0) ls st u bb σ Q := r_tsw (d := 78) (lo := 0) (hi := 4) (offs := #[36, 38, 48, 58, 68]) (dt := 94) (tg := [52, 54, 64, 74, 84]) (by decide +kernel)
theorem k106_52 : qx sc D 106 52 [l0, l1, l2, vi x] st u bb σ Q ↔ qx sc D 106 53 [l0, l1, l2, vi x] (vi x :: st) u bb σ Q := r_iload_n (k := 3) (by decide +kernel) rfl
theorem k106_53 : qx sc D 106 53 ls [vi x] (1, 6) bb σ Q ↔ Q (.inl (some (vi x))) bb σ := r_ret (by decide +kernel)
theorem k106_54 : qx sc D 106 54 [vr a, l1, l2, l3] st u bb σ Q ↔ qx sc D 106 55 [vr a, l1, l2, l3] (vr a :: st) u bb σ Q := r_aload_n (k := 0) (by decide +kernel) rfl
theorem k106_55 : qx sc D 106 55 ls (vr 0 :: st) u bb σ Q ↔ 0 ≤ σ 0 11 ∧ qx sc D 106 58 ls (vr (σ 0 11).toNat :: st) u bb σ Q := r_getM (idx := 90) (c := 14) (k := 11) (by decide +kernel)
theorem k106_58 (hc : q_C c) : qx sc D 106 58 ls (vr c :: st) u bb σ Q ↔ qx sc D 106 61 ls (vr (c + 9) :: st) u bb σ Q := r_getRc (idx := 143) (k := 11) (by decide +kernel) hc
theorem k106_61 : qx sc D 106 61 [l0, l1, l2, vi x] st u bb σ Q ↔ qx sc D 106 62 [l0, l1, l2, vi x] (vi x :: st) u bb σ Q := r_iload_n (k := 3) (by decide +kernel) rfl
theorem k106_62 : qx sc D 106 62 ls (vi i :: vr a :: st) u bb σ Q ↔ (q_ty a = 0 ∧ 0 ≤ i ∧ i < q_ln a) ∧ qx sc D 106 63 ls (vi (σ a i) :: st) u bb σ Q := r_iald (by decide +kernel)
theorem k106_63 : qx sc D 106 63 ls [vi x] (1, 6) bb σ Q ↔ Q (.inl (some (vi x))) bb σ := r_ret (by decide +kernel)
theorem k106_64 : qx sc D 106 64 [vr a, l1, l2, l3] st u bb σ Q ↔ qx sc D 106 65 [vr a, l1, l2, l3] (vr a :: st) u bb σ Q := r_aload_n (k := 0) (by decide +kernel) rfl
theorem k106_65 : qx sc D 106 65 ls (vr 0 :: st) u bb σ Q ↔ qx sc D 106 68 ls (vr 72 :: st) u bb σ Q := r_getR (idx := 74) (c := 14) (k := 9) (by decide +kernel)
theorem k106_68 : qx sc D 106 68 ls (vr 72 :: st) u bb σ Q ↔ qx sc D 106 71 ls (vr 75 :: st) u bb σ Q := r_getR (idx := 226) (c := 5) (k := 6) (by decide +kernel)
theorem k106_71 : qx sc D 106 71 [l0, vi x, l2, l3] st u bb σ Q ↔ qx sc D 106 72 [l0, vi x, l2, l3] (vi x :: st) u bb σ Q := r_iload_n (k := 1) (by decide +kernel) rfl
theorem k106_72 : qx sc D 106 72 ls (vi i :: vr a :: st) u bb σ Q ↔ (q_ty a = 0 ∧ 0 ≤ i ∧ i < q_ln a) ∧ qx sc D 106 73 ls (vi (σ a i) :: st) u bb σ Q := r_iald (by decide +kernel)
theorem k106_73 : qx sc D 106 73 ls [vi x] (1, 6) bb σ Q ↔ Q (.inl (some (vi x))) bb σ := r_ret (by decide +kernel)
theorem k106_74 : qx sc D 106 74 [vr a, l1, l2, l3] st u bb σ Q ↔ qx sc D 106 75 [vr a, l1, l2, l3] (vr a :: st) u bb σ Q := r_aload_n (k := 0) (by decide +kernel) rfl
theorem k106_75 : qx sc D 106 75 ls (vr 0 :: st) u bb σ Q ↔ qx sc D 106 78 ls (vr 27 :: st) u bb σ Q := r_getR (idx := 38) (c := 14) (k := 5) (by decide +kernel)
theorem k106_78 : qx sc D 106 78 ls (vr 27 :: st) u bb σ Q ↔ qx sc D 106 81 ls (vr 32 :: st) u bb σ Q := r_getR (idx := 229) (c := 6) (k := 4) (by decide +kernel)
theorem k106_81 : qx sc D 106 81 [l0, l1, l2, vi x] st u bb σ Q ↔ qx sc D 106 82 [l0, l1, l2, vi x] (vi x :: st) u bb σ Q := r_iload_n (k := 3) (by decide +kernel) rfl
theorem k106_82 : qx sc D 106 82 ls (vi i :: vr a :: st) u bb σ Q ↔ (q_ty a = 0 ∧ 0 ≤ i ∧ i < q_ln a) ∧ qx sc D 106 83 ls (vi (σ a i) :: st) u bb σ Q := r_iald (by decide +kernel)
theorem k106_83 : qx sc D 106 83 ls [vi x] (1, 6) bb σ Q ↔ Q (.inl (some (vi x))) bb σ := r_ret (by decide +kernel)
theorem k106_84 : qx sc D 106 84 [vr a, l1, l2, l3] st u bb σ Q ↔ qx sc D 106 85 [vr a, l1, l2, l3] (vr a :: st) u bb σ Q := r_aload_n (k := 0) (by decide +kernel) rfl
theorem k106_85 : qx sc D 106 85 ls (vr 0 :: st) u bb σ Q ↔ qx sc D 106 88 ls (vr 72 :: st) u bb σ Q := r_getR (idx := 74) (c := 14) (k := 9) (by decide +kernel)
theorem k106_88 : qx sc D 106 88 ls (vr 72 :: st) u bb σ Q ↔ qx sc D 106 91 ls (vr 76 :: st) u bb σ Q := r_getR (idx := 232) (c := 5) (k := 7) (by decide +kernel)
theorem k106_91 : qx sc D 106 91 [l0, vi x, l2, l3] st u bb σ Q ↔ qx sc D 106 92 [l0, vi x, l2, l3] (vi x :: st) u bb σ Q := r_iload_n (k := 1) (by decide +kernel) rfl
theorem k106_92 : qx sc D 106 92 ls (vi i :: vr a :: st) u bb σ Q ↔ (q_ty a = 0 ∧ 0 ≤ i ∧ i < q_ln a) ∧ qx sc D 106 93 ls (vi (σ a i) :: st) u bb σ Q := r_iald (by decide +kernel)
theorem k106_93 : qx sc D 106 93 ls [vi x] (1, 6) bb σ Q ↔ Q (.inl (some (vi x))) bb σ := r_ret (by decide +kernel)
theorem k106_94 : qx sc D 106 94 ls [] (1, 6) bb σ Q ↔ Q (.inr 2) false σ := r_throw (idx := 146) (by decide +kernel)
-- 107: RowProver.needCheck(I)V
theorem k107_0 : qx sc D 107 0 [l0, vi x] st u bb σ Q ↔ qx sc D 107 1 [l0, vi x] (vi x :: st) u bb σ Q := r_iload_n (k := 1) (by decide +kernel) rfl
theorem k107_1 : qx sc D 107 1 ls (vi x :: st) u bb σ Q ↔ (x < 0 → qx sc D 107 15 ls st u bb σ Q) ∧ (¬ (x < 0) → qx sc D 107 4 ls st u bb σ Q) := r_if_lt (off := 14) (t := 15) (by decide +kernel)
theorem k107_4 : qx sc D 107 4 [l0, vi x] st u bb σ Q ↔ qx sc D 107 5 [l0, vi x] (vi x :: st) u bb σ Q := r_iload_n (k := 1) (by decide +kernel) rfl
theorem k107_5 : qx sc D 107 5 [vr a, l1] st u bb σ Q ↔ qx sc D 107 6 [vr a, l1] (vr a :: st) u bb σ Q := r_aload_n (k := 0) (by decide +kernel) rfl
theorem k107_6 : qx sc D 107 6 ls (vr 0 :: st) u bb σ Q ↔ 0 ≤ σ 0 11 ∧ qx sc D 107 9 ls (vr (σ 0 11).toNat :: st) u bb σ Q := r_getM (idx := 90) (c := 14) (k := 11) (by decide +kernel)
theorem k107_9 (hc : q_C c) : qx sc D 107 9 ls (vr c :: st) u bb σ Q ↔ qx sc D 107 12 ls (vi (σ c 1) :: st) u bb σ Q := r_getIc (idx := 282) (k := 1) (by decide +kernel) hc
theorem k107_12 : qx sc D 107 12 ls (vi b' :: vi a' :: st) u bb σ Q ↔ (a' < b' → qx sc D 107 26 ls st u bb σ Q) ∧ (¬ (a' < b') → qx sc D 107 15 ls st u bb σ Q) := r_ic_lt (off := 14) (t := 26) (by decide +kernel)
theorem k107_15 : qx sc D 107 15 ls [] (0, 0) bb σ Q ↔ Q (.inr 1) false σ := r_throw (idx := 310) (by decide +kernel)
theorem k107_26 : qx sc D 107 26 ls [] (0, 0) bb σ Q ↔ Q (.inl none) bb σ := r_retV (by decide +kernel)
-- 108: RowProver.needHow(I)V
theorem k108_0 : qx sc D 108 0 [l0, vi x] st u bb σ Q ↔ qx sc D 108 1 [l0, vi x] (vi x :: st) u bb σ Q := r_iload_n (k := 1) (by decide +kernel) rfl
theorem k108_1 : qx sc D 108 1 ls (vi x :: st) u bb σ Q ↔ (x < 0 → qx sc D 108 9 ls st u bb σ Q) ∧ (¬ (x < 0) → qx sc D 108 4 ls st u bb σ Q) := r_if_lt (off := 8) (t := 9) (by decide +kernel)
theorem k108_4 : qx sc D 108 4 [l0, vi x] st u bb σ Q ↔ qx sc D 108 5 [l0, vi x] (vi x :: st) u bb σ Q := r_iload_n (k := 1) (by decide +kernel) rfl
theorem k108_5 : qx sc D 108 5 ls st u bb σ Q ↔ qx sc D 108 6 ls (vi 2 :: st) u bb σ Q := r_iconst (by decide +kernel)
theorem k108_6 : qx sc D 108 6 ls (vi b' :: vi a' :: st) u bb σ Q ↔ (b' < a' → qx sc D 108 9 ls st u bb σ Q) ∧ (¬ (b' < a') → qx sc D 108 20 ls st u bb σ Q) := r_ic_le (off := 14) (t := 20) (by decide +kernel)
theorem k108_9 : qx sc D 108 9 ls [] (0, 0) bb σ Q ↔ Q (.inr 0) false σ := r_throw (idx := 118) (by decide +kernel)
theorem k108_20 : qx sc D 108 20 ls [] (0, 0) bb σ Q ↔ Q (.inl none) bb σ := r_retV (by decide +kernel)
-- 109: RowProver.needInput(I)V
theorem k109_0 : qx sc D 109 0 [l0, vi x] st u bb σ Q ↔ qx sc D 109 1 [l0, vi x] (vi x :: st) u bb σ Q := r_iload_n (k := 1) (by decide +kernel) rfl
theorem k109_1 : qx sc D 109 1 ls (vi x :: st) u bb σ Q ↔ (x < 0 → qx sc D 109 9 ls st u bb σ Q) ∧ (¬ (x < 0) → qx sc D 109 4 ls st u bb σ Q) := r_if_lt (off := 8) (t := 9) (by decide +kernel)
theorem k109_4 : qx sc D 109 4 [l0, vi x] st u bb σ Q ↔ qx sc D 109 5 [l0, vi x] (vi x :: st) u bb σ Q := r_iload_n (k := 1) (by decide +kernel) rfl
theorem k109_5 : qx sc D 109 5 ls st u bb σ Q ↔ qx sc D 109 6 ls (vi 3 :: st) u bb σ Q := r_iconst (by decide +kernel)
theorem k109_6 : qx sc D 109 6 ls (vi b' :: vi a' :: st) u bb σ Q ↔ (a' < b' → qx sc D 109 20 ls st u bb σ Q) ∧ (¬ (a' < b') → qx sc D 109 9 ls st u bb σ Q) := r_ic_lt (off := 14) (t := 20) (by decide +kernel)
theorem k109_9 : qx sc D 109 9 ls [] (0, 0) bb σ Q ↔ Q (.inr 0) false σ := r_throw (idx := 118) (by decide +kernel)
theorem k109_20 : qx sc D 109 20 ls [] (0, 0) bb σ Q ↔ Q (.inl none) bb σ := r_retV (by decide +kernel)
-- 110: RowProver.needInputNumber(I)V
theorem k110_0 : qx sc D 110 0 [l0, vi x] st u bb σ Q ↔ qx sc D 110 1 [l0, vi x] (vi x :: st) u bb σ Q := r_iload_n (k := 1) (by decide +kernel) rfl
theorem k110_1 : qx sc D 110 1 ls st u bb σ Q ↔ qx sc D 110 3 ls (vi (-99) :: st) u bb σ Q := r_bipush (by decide +kernel)
theorem k110_3 : qx sc D 110 3 ls (vi b' :: vi a' :: st) u bb σ Q ↔ (a' < b' → qx sc D 110 12 ls st u bb σ Q) ∧ (¬ (a' < b') → qx sc D 110 6 ls st u bb σ Q) := r_ic_lt (off := 9) (t := 12) (by decide +kernel)
theorem k110_6 : qx sc D 110 6 [l0, vi x] st u bb σ Q ↔ qx sc D 110 7 [l0, vi x] (vi x :: st) u bb σ Q := r_iload_n (k := 1) (by decide +kernel) rfl
theorem k110_7 : qx sc D 110 7 ls st u bb σ Q ↔ qx sc D 110 9 ls (vi 99 :: st) u bb σ Q := r_bipush (by decide +kernel)
theorem k110_9 : qx sc D 110 9 ls (vi b' :: vi a' :: st) u bb σ Q ↔ (b' < a' → qx sc D 110 12 ls st u bb σ Q) ∧ (¬ (b' < a') → qx sc D 110 23 ls st u bb σ Q) := r_ic_le (off := 14) (t := 23) (by decide +kernel)
theorem k110_12 : qx sc D 110 12 ls [] (0, 0) bb σ Q ↔ Q (.inr 0) false σ := r_throw (idx := 118) (by decide +kernel)
theorem k110_23 : qx sc D 110 23 ls [] (0, 0) bb σ Q ↔ Q (.inl none) bb σ := r_retV (by decide +kernel)
-- 111: RowProver.needLoop(I)V
theorem k111_0 : qx sc D 111 0 [l0, vi x] st u bb σ Q ↔ qx sc D 111 1 [l0, vi x] (vi x :: st) u bb σ Q := r_iload_n (k := 1) (by decide +kernel) rfl
theorem k111_1 : qx sc D 111 1 ls (vi x :: st) u bb σ Q ↔ (x < 0 → qx sc D 111 15 ls st u bb σ Q) ∧ (¬ (x < 0) → qx sc D 111 4 ls st u bb σ Q) := r_if_lt (off := 14) (t := 15) (by decide +kernel)
theorem k111_4 : qx sc D 111 4 [l0, vi x] st u bb σ Q ↔ qx sc D 111 5 [l0, vi x] (vi x :: st) u bb σ Q := r_iload_n (k := 1) (by decide +kernel) rfl
theorem k111_5 : qx sc D 111 5 [vr a, l1] st u bb σ Q ↔ qx sc D 111 6 [vr a, l1] (vr a :: st) u bb σ Q := r_aload_n (k := 0) (by decide +kernel) rfl
theorem k111_6 : qx sc D 111 6 ls (vr 0 :: st) u bb σ Q ↔ 0 ≤ σ 0 11 ∧ qx sc D 111 9 ls (vr (σ 0 11).toNat :: st) u bb σ Q := r_getM (idx := 90) (c := 14) (k := 11) (by decide +kernel)
theorem k111_9 (hc : q_C c) : qx sc D 111 9 ls (vr c :: st) u bb σ Q ↔ qx sc D 111 12 ls (vi (σ c 2) :: st) u bb σ Q := r_getIc (idx := 285) (k := 2) (by decide +kernel) hc
theorem k111_12 : qx sc D 111 12 ls (vi b' :: vi a' :: st) u bb σ Q ↔ (a' < b' → qx sc D 111 26 ls st u bb σ Q) ∧ (¬ (a' < b') → qx sc D 111 15 ls st u bb σ Q) := r_ic_lt (off := 14) (t := 26) (by decide +kernel)
theorem k111_15 : qx sc D 111 15 ls [] (0, 0) bb σ Q ↔ Q (.inr 1) false σ := r_throw (idx := 310) (by decide +kernel)
theorem k111_26 : qx sc D 111 26 ls [] (0, 0) bb σ Q ↔ Q (.inl none) bb σ := r_retV (by decide +kernel)
-- 112: RowProver.needRow(I)V
theorem k112_0 : qx sc D 112 0 [l0, vi x] st u bb σ Q ↔ qx sc D 112 1 [l0, vi x] (vi x :: st) u bb σ Q := r_iload_n (k := 1) (by decide +kernel) rfl
theorem k112_1 : qx sc D 112 1 ls (vi x :: st) u bb σ Q ↔ (x < 0 → qx sc D 112 9 ls st u bb σ Q) ∧ (¬ (x < 0) → qx sc D 112 4 ls st u bb σ Q) := r_if_lt (off := 8) (t := 9) (by decide +kernel)
theorem k112_4 : qx sc D 112 4 [l0, vi x] st u bb σ Q ↔ qx sc D 112 5 [l0, vi x] (vi x :: st) u bb σ Q := r_iload_n (k := 1) (by decide +kernel) rfl
theorem k112_5 : qx sc D 112 5 ls st u bb σ Q ↔ qx sc D 112 6 ls (vi 3 :: st) u bb σ Q := r_iconst (by decide +kernel)
theorem k112_6 : qx sc D 112 6 ls (vi b' :: vi a' :: st) u bb σ Q ↔ (a' < b' → qx sc D 112 20 ls st u bb σ Q) ∧ (¬ (a' < b') → qx sc D 112 9 ls st u bb σ Q) := r_ic_lt (off := 14) (t := 20) (by decide +kernel)
theorem k112_9 : qx sc D 112 9 ls [] (0, 0) bb σ Q ↔ Q (.inr 1) false σ := r_throw (idx := 310) (by decide +kernel)
theorem k112_20 : qx sc D 112 20 ls [] (0, 0) bb σ Q ↔ Q (.inl none) bb σ := r_retV (by decide +kernel)
-- 113: RowProver.needStatement(I)V
theorem k113_0 : qx sc D 113 0 [l0, vi x] st u bb σ Q ↔ qx sc D 113 1 [l0, vi x] (vi x :: st) u bb σ Q := r_iload_n (k := 1) (by decide +kernel) rfl
theorem k113_1 : qx sc D 113 1 ls (vi x :: st) u bb σ Q ↔ (x < 0 → qx sc D 113 15 ls st u bb σ Q) ∧ (¬ (x < 0) → qx sc D 113 4 ls st u bb σ Q) := r_if_lt (off := 14) (t := 15) (by decide +kernel)
theorem k113_4 : qx sc D 113 4 [l0, vi x] st u bb σ Q ↔ qx sc D 113 5 [l0, vi x] (vi x :: st) u bb σ Q := r_iload_n (k := 1) (by decide +kernel) rfl
theorem k113_5 : qx sc D 113 5 [vr a, l1] st u bb σ Q ↔ qx sc D 113 6 [vr a, l1] (vr a :: st) u bb σ Q := r_aload_n (k := 0) (by decide +kernel) rfl
theorem k113_6 : qx sc D 113 6 ls (vr 0 :: st) u bb σ Q ↔ 0 ≤ σ 0 11 ∧ qx sc D 113 9 ls (vr (σ 0 11).toNat :: st) u bb σ Q := r_getM (idx := 90) (c := 14) (k := 11) (by decide +kernel)
theorem k113_9 (hc : q_C c) : qx sc D 113 9 ls (vr c :: st) u bb σ Q ↔ qx sc D 113 12 ls (vi (σ c 0) :: st) u bb σ Q := r_getIc (idx := 125) (k := 0) (by decide +kernel) hc
theorem k113_12 : qx sc D 113 12 ls (vi b' :: vi a' :: st) u bb σ Q ↔ (a' < b' → qx sc D 113 26 ls st u bb σ Q) ∧ (¬ (a' < b') → qx sc D 113 15 ls st u bb σ Q) := r_ic_lt (off := 14) (t := 26) (by decide +kernel)
theorem k113_15 : qx sc D 113 15 ls [] (0, 0) bb σ Q ↔ Q (.inr 1) false σ := r_throw (idx := 310) (by decide +kernel)
theorem k113_26 : qx sc D 113 26 ls [] (0, 0) bb σ Q ↔ Q (.inl none) bb σ := r_retV (by decide +kernel)
-- 114: RowProver.needVersion(I)V
theorem k114_0 : qx sc D 114 0 [l0, vi x] st u bb σ Q ↔ qx sc D 114 1 [l0, vi x] (vi x :: st) u bb σ Q := r_iload_n (k := 1) (by decide +kernel) rfl
theorem k114_1 : qx sc D 114 1 ls (vi x :: st) u bb σ Q ↔ (x < 0 → qx sc D 114 15 ls st u bb σ Q) ∧ (¬ (x < 0) → qx sc D 114 4 ls st u bb σ Q) := r_if_lt (off := 14) (t := 15) (by decide +kernel)
theorem k114_4 : qx sc D 114 4 [l0, vi x] st u bb σ Q ↔ qx sc D 114 5 [l0, vi x] (vi x :: st) u bb σ Q := r_iload_n (k := 1) (by decide +kernel) rfl
theorem k114_5 : qx sc D 114 5 [vr a, l1] st u bb σ Q ↔ qx sc D 114 6 [vr a, l1] (vr a :: st) u bb σ Q := r_aload_n (k := 0) (by decide +kernel) rfl
theorem k114_6 : qx sc D 114 6 ls (vr 0 :: st) u bb σ Q ↔ qx sc D 114 9 ls (vr 9 :: st) u bb σ Q := r_getR (idx := 31) (c := 14) (k := 4) (by decide +kernel)
theorem k114_9 : qx sc D 114 9 ls (vr 9 :: st) u bb σ Q ↔ qx sc D 114 12 ls (vi (σ 9 0) :: st) u bb σ Q := r_getI (idx := 279) (c := 13) (k := 0) (by decide +kernel)
theorem k114_12 : qx sc D 114 12 ls (vi b' :: vi a' :: st) u bb σ Q ↔ (a' < b' → qx sc D 114 26 ls st u bb σ Q) ∧ (¬ (a' < b') → qx sc D 114 15 ls st u bb σ Q) := r_ic_lt (off := 14) (t := 26) (by decide +kernel)
theorem k114_15 : qx sc D 114 15 ls [] (0, 0) bb σ Q ↔ Q (.inr 1) false σ := r_throw (idx := 310) (by decide +kernel)
theorem k114_26 : qx sc D 114 26 ls [] (0, 0) bb σ Q ↔ Q (.inl none) bb σ := r_retV (by decide +kernel)
-- 115: RowProver.out(II)I
theorem k115_0 : qx sc D 115 0 [vr a, l1, l2] st u bb σ Q ↔ qx sc D 115 1 [vr a, l1, l2] (vr a :: st) u bb σ Q := r_aload_n (k := 0) (by decide +kernel) rfl
theorem k115_1 : qx sc D 115 1 [l0, vi x, l2] st u bb σ Q ↔ qx sc D 115 2 [l0, vi x, l2] (vi x :: st) u bb σ Q := r_iload_n (k := 1) (by decide +kernel) rfl
theorem k115_2 : qx sc (D + 1) 115 2 ls [vi x0, vr 0] (0, 0) bb σ Q ↔ qx sc D 108 0 [vr 0, vi x0] [] (0, 0) bb σ (q_kn sc (D + 1) 115 5 ls [] (1, 6) Q) := r_callv (idx := 249) (n := 1) (m := 2) (by decide +kernel) rfl (Nat.le_of_ble_eq_true rfl) ⟨Nat.le_of_ble_eq_true rfl, Nat.le_of_ble_eq_true rfl, rfl⟩ rfl
theorem k115_5 : qx sc D 115 5 [vr a, l1, l2] st u bb σ Q ↔ qx sc D 115 6 [vr a, l1, l2] (vr a :: st) u bb σ Q := r_aload_n (k := 0) (by decide +kernel) rfl
theorem k115_6 : qx sc D 115 6 ls (vr 0 :: st) u bb σ Q ↔ qx sc D 115 9 ls (vr 77 :: st) u bb σ Q := r_getR (idx := 83) (c := 14) (k := 10) (by decide +kernel)
theorem k115_9 : qx sc D 115 9 [vr a, l1, l2] st u bb σ Q ↔ qx sc D 115 10 [vr a, l1, l2] (vr a :: st) u bb σ Q := r_aload_n (k := 0) (by decide +kernel) rfl
theorem k115_10 : qx sc D 115 10 ls (vr 0 :: st) u bb σ Q ↔ 0 ≤ σ 0 11 ∧ qx sc D 115 13 ls (vr (σ 0 11).toNat :: st) u bb σ Q := r_getM (idx := 90) (c := 14) (k := 11) (by decide +kernel)
theorem k115_13 : qx sc D 115 13 [l0, vi x, l2] st u bb σ Q ↔ qx sc D 115 14 [l0, vi x, l2] (vi x :: st) u bb σ Q := r_iload_n (k := 1) (by decide +kernel) rfl
theorem k115_14 : qx sc (D + 1) 115 14 ls [vi x1, vr a0, vr 77] (1, 6) bb σ Q ↔ qx sc D 72 0 [vr 77, vr a0, vi x1, vn, vn] [] (0, 0) bb σ (q_kn sc (D + 1) 115 17 ls [] (1, 6) Q) := r_callv (idx := 254) (n := 2) (m := 5) (by decide +kernel) rfl (Nat.le_of_ble_eq_true rfl) ⟨Nat.le_of_ble_eq_true rfl, Nat.le_of_ble_eq_true rfl, rfl⟩ rfl
theorem k115_17 : qx sc D 115 17 [l0, l1, vi x] st u bb σ Q ↔ qx sc D 115 18 [l0, l1, vi x] (vi x :: st) u bb σ Q := r_iload_n (k := 2) (by decide +kernel) rfl
theorem k115_18 : qx sc D 115 18 ls (vi x :: st) u bb σ Q ↔ (x < 0 → qx sc D 115 34 ls st u bb σ Q) ∧ (¬ (x < 0) → qx sc D 115 21 ls st u bb σ Q) := r_if_lt (off := 16) (t := 34) (by decide +kernel)
theorem k115_21 : qx sc D 115 21 [l0, l1, vi x] st u bb σ Q ↔ qx sc D 115 22 [l0, l1, vi x] (vi x :: st) u bb σ Q := r_iload_n (k := 2) (by decide +kernel) rfl
theorem k115_22 : qx sc D 115 22 [vr a, l1, l2] st u bb σ Q ↔ qx sc D 115 23 [vr a, l1, l2] (vr a :: st) u bb σ Q := r_aload_n (k := 0) (by decide +kernel) rfl
theorem k115_23 : qx sc D 115 23 ls (vr 0 :: st) u bb σ Q ↔ qx sc D 115 26 ls (vr 77 :: st) u bb σ Q := r_getR (idx := 83) (c := 14) (k := 10) (by decide +kernel)
theorem k115_26 : qx sc D 115 26 ls (vr 77 :: st) u bb σ Q ↔ qx sc D 115 29 ls (vr 87 :: st) u bb σ Q := r_getR (idx := 258) (c := 10) (k := 14) (by decide +kernel)
theorem k115_29 : qx sc D 115 29 ls st u bb σ Q ↔ qx sc D 115 30 ls (vi 3 :: st) u bb σ Q := r_iconst (by decide +kernel)
theorem k115_30 : qx sc D 115 30 ls (vi i :: vr a :: st) u bb σ Q ↔ (q_ty a = 0 ∧ 0 ≤ i ∧ i < q_ln a) ∧ qx sc D 115 31 ls (vi (σ a i) :: st) u bb σ Q := r_iald (by decide +kernel)
theorem k115_31 : qx sc D 115 31 ls (vi b' :: vi a' :: st) u bb σ Q ↔ (a' < b' → qx sc D 115 45 ls st u bb σ Q) ∧ (¬ (a' < b') → qx sc D 115 34 ls st u bb σ Q) := r_ic_lt (off := 14) (t := 45) (by decide +kernel)
theorem k115_34 : qx sc D 115 34 ls [] (1, 6) bb σ Q ↔ Q (.inr 2) false σ := r_throw (idx := 146) (by decide +kernel)
theorem k115_45 : qx sc D 115 45 [vr a, l1, l2] st u bb σ Q ↔ qx sc D 115 46 [vr a, l1, l2] (vr a :: st) u bb σ Q := r_aload_n (k := 0) (by decide +kernel) rfl
theorem k115_46 : qx sc D 115 46 ls (vr 0 :: st) u bb σ Q ↔ qx sc D 115 49 ls (vr 77 :: st) u bb σ Q := r_getR (idx := 83) (c := 14) (k := 10) (by decide +kernel)
theorem k115_49 : qx sc D 115 49 ls (vr 77 :: st) u bb σ Q ↔ qx sc D 115 52 ls (vr 86 :: st) u bb σ Q := r_getR (idx := 263) (c := 10) (k := 13) (by decide +kernel)
theorem k115_52 : qx sc D 115 52 [l0, l1, vi x] st u bb σ Q ↔ qx sc D 115 53 [l0, l1, vi x] (vi x :: st) u bb σ Q := r_iload_n (k := 2) (by decide +kernel) rfl
theorem k115_53 : qx sc D 115 53 ls (vi i :: vr a :: st) u bb σ Q ↔ (q_ty a = 0 ∧ 0 ≤ i ∧ i < q_ln a) ∧ qx sc D 115 54 ls (vi (σ a i) :: st) u bb σ Q := r_iald (by decide +kernel)
theorem k115_54 : qx sc D 115 54 ls [vi x] (1, 6) bb σ Q ↔ Q (.inl (some (vi x))) bb σ := r_ret (by decide +kernel)
-- 116: RowProver.place(III)I
theorem k116_0 : qx sc D 116 0 [vr a, l1, l2, l3] st u bb σ Q ↔ qx sc D 116 1 [vr a, l1, l2, l3] (vr a :: st) u bb σ Q := r_aload_n (k := 0) (by decide +kernel) rfl
theorem k116_1 : qx sc D 116 1 [l0, l1, vi x, l3] st u bb σ Q ↔ qx sc D 116 2 [l0, l1, vi x, l3] (vi x :: st) u bb σ Q := r_iload_n (k := 2) (by decide +kernel) rfl
theorem k116_2 : qx sc (D + 1) 116 2 ls [vi x0, vr 0] (0, 0) bb σ Q ↔ qx sc D 112 0 [vr 0, vi x0] [] (0, 0) bb σ (q_kn sc (D + 1) 116 5 ls [] (1, 6) Q) := r_callv (idx := 169) (n := 1) (m := 2) (by decide +kernel) rfl (Nat.le_of_ble_eq_true rfl) ⟨Nat.le_of_ble_eq_true rfl, Nat.le_of_ble_eq_true rfl, rfl⟩ rfl
theorem k116_5 : qx sc D 116 5 [vr a, l1, l2, l3] st u bb σ Q ↔ qx sc D 116 6 [vr a, l1, l2, l3] (vr a :: st) u bb σ Q := r_aload_n (k := 0) (by decide +kernel) rfl
theorem k116_6 : qx sc D 116 6 [l0, vi x, l2, l3] st u bb σ Q ↔ qx sc D 116 7 [l0, vi x, l2, l3] (vi x :: st) u bb σ Q := r_iload_n (k := 1) (by decide +kernel) rfl
theorem k116_7 : qx sc (D + 1) 116 7 ls [vi x0, vr 0] (1, 6) bb σ Q ↔ qx sc D 108 0 [vr 0, vi x0] [] (0, 0) bb σ (q_kn sc (D + 1) 116 10 ls [] (2, 12) Q) := r_callv (idx := 249) (n := 1) (m := 2) (by decide +kernel) rfl (Nat.le_of_ble_eq_true rfl) ⟨Nat.le_of_ble_eq_true rfl, Nat.le_of_ble_eq_true rfl, rfl⟩ rfl
theorem k116_10 : qx sc D 116 10 [vr a, l1, l2, l3] st u bb σ Q ↔ qx sc D 116 11 [vr a, l1, l2, l3] (vr a :: st) u bb σ Q := r_aload_n (k := 0) (by decide +kernel) rfl
theorem k116_11 : qx sc D 116 11 ls (vr 0 :: st) u bb σ Q ↔ qx sc D 116 14 ls (vr 77 :: st) u bb σ Q := r_getR (idx := 83) (c := 14) (k := 10) (by decide +kernel)
theorem k116_14 : qx sc D 116 14 [vr a, l1, l2, l3] st u bb σ Q ↔ qx sc D 116 15 [vr a, l1, l2, l3] (vr a :: st) u bb σ Q := r_aload_n (k := 0) (by decide +kernel) rfl
theorem k116_15 : qx sc D 116 15 ls (vr 0 :: st) u bb σ Q ↔ 0 ≤ σ 0 11 ∧ qx sc D 116 18 ls (vr (σ 0 11).toNat :: st) u bb σ Q := r_getM (idx := 90) (c := 14) (k := 11) (by decide +kernel)
theorem k116_18 : qx sc D 116 18 [l0, vi x, l2, l3] st u bb σ Q ↔ qx sc D 116 19 [l0, vi x, l2, l3] (vi x :: st) u bb σ Q := r_iload_n (k := 1) (by decide +kernel) rfl
theorem k116_19 : qx sc (D + 1) 116 19 ls [vi x1, vr a0, vr 77] (2, 12) bb σ Q ↔ qx sc D 72 0 [vr 77, vr a0, vi x1, vn, vn] [] (0, 0) bb σ (q_kn sc (D + 1) 116 22 ls [] (2, 12) Q) := r_callv (idx := 254) (n := 2) (m := 5) (by decide +kernel) rfl (Nat.le_of_ble_eq_true rfl) ⟨Nat.le_of_ble_eq_true rfl, Nat.le_of_ble_eq_true rfl, rfl⟩ rfl
theorem k116_22 : qx sc D 116 22 [vr a, l1, l2, l3] st u bb σ Q ↔ qx sc D 116 23 [vr a, l1, l2, l3] (vr a :: st) u bb σ Q := r_aload_n (k := 0) (by decide +kernel) rfl
theorem k116_23 : qx sc D 116 23 ls (vr 0 :: st) u bb σ Q ↔ 0 ≤ σ 0 11 ∧ qx sc D 116 26 ls (vr (σ 0 11).toNat :: st) u bb σ Q := r_getM (idx := 90) (c := 14) (k := 11) (by decide +kernel)
theorem k116_26 (hc : q_C c) : qx sc D 116 26 ls (vr c :: st) u bb σ Q ↔ qx sc D 116 29 ls (vr (c + 1) :: st) u bb σ Q := r_getRc (idx := 172) (k := 3) (by decide +kernel) hc
theorem k116_29 : qx sc D 116 29 [l0, l1, vi x, l3] st u bb σ Q ↔ qx sc D 116 30 [l0, l1, vi x, l3] (vi x :: st) u bb σ Q := r_iload_n (k := 2) (by decide +kernel) rfl
theorem k116_30 : qx sc D 116 30 ls (vi i :: vr a :: st) u bb σ Q ↔ (q_ty a = 0 ∧ 0 ≤ i ∧ i < q_ln a) ∧ qx sc D 116 31 ls (vi (σ a i) :: st) u bb σ Q := r_iald (by decide +kernel)
theorem k116_31 : qx sc D 116 31 ls st u bb σ Q ↔ qx sc D 116 32 ls (vi (-1) :: st) u bb σ Q := r_iconst (by decide +kernel)
theorem k116_32 : qx sc D 116 32 ls (vi b' :: vi a' :: st) u bb σ Q ↔ (a' = b' → qx sc D 116 52 ls st u bb σ Q) ∧ (¬ (a' = b') → qx sc D 116 35 ls st u bb σ Q) := r_ic_eq (off := 20) (t := 52) (by decide +kernel)
theorem k116_35 : qx sc D 116 35 [l0, l1, l2, vi x] st u bb σ Q ↔ qx sc D 116 36 [l0, l1, l2, vi x] (vi x :: st) u bb σ Q := r_iload_n (k := 3) (by decide +kernel) rfl
theorem k116_36 : qx sc D 116 36 ls (vi x :: st) u bb σ Q ↔ (x < 0 → qx sc D 116 52 ls st u bb σ Q) ∧ (¬ (x < 0) → qx sc D 116 39 ls st u bb σ Q) := r_if_lt (off := 16) (t := 52) (by decide +kernel)
theorem k116_39 : qx sc D 116 39 [l0, l1, l2, vi x] st u bb σ Q ↔ qx sc D 116 40 [l0, l1, l2, vi x] (vi x :: st) u bb σ Q := r_iload_n (k := 3) (by decide +kernel) rfl
theorem k116_40 : qx sc D 116 40 [vr a, l1, l2, l3] st u bb σ Q ↔ qx sc D 116 41 [vr a, l1, l2, l3] (vr a :: st) u bb σ Q := r_aload_n (k := 0) (by decide +kernel) rfl
theorem k116_41 : qx sc D 116 41 ls (vr 0 :: st) u bb σ Q ↔ qx sc D 116 44 ls (vr 77 :: st) u bb σ Q := r_getR (idx := 83) (c := 14) (k := 10) (by decide +kernel)
theorem k116_44 : qx sc D 116 44 ls (vr 77 :: st) u bb σ Q ↔ qx sc D 116 47 ls (vr 85 :: st) u bb σ Q := r_getR (idx := 266) (c := 10) (k := 12) (by decide +kernel)
theorem k116_47 : qx sc D 116 47 [l0, l1, vi x, l3] st u bb σ Q ↔ qx sc D 116 48 [l0, l1, vi x, l3] (vi x :: st) u bb σ Q := r_iload_n (k := 2) (by decide +kernel) rfl
theorem k116_48 : qx sc D 116 48 ls (vi i :: vr a :: st) u bb σ Q ↔ (q_ty a = 0 ∧ 0 ≤ i ∧ i < q_ln a) ∧ qx sc D 116 49 ls (vi (σ a i) :: st) u bb σ Q := r_iald (by decide +kernel)
theorem k116_49 : qx sc D 116 49 ls (vi b' :: vi a' :: st) u bb σ Q ↔ (a' < b' → qx sc D 116 63 ls st u bb σ Q) ∧ (¬ (a' < b') → qx sc D 116 52 ls st u bb σ Q) := r_ic_lt (off := 14) (t := 63) (by decide +kernel)
theorem k116_52 : qx sc D 116 52 ls [] (2, 12) bb σ Q ↔ Q (.inr 2) false σ := r_throw (idx := 146) (by decide +kernel)
theorem k116_63 : qx sc D 116 63 [vr a, l1, l2, l3] st u bb σ Q ↔ qx sc D 116 64 [vr a, l1, l2, l3] (vr a :: st) u bb σ Q := r_aload_n (k := 0) (by decide +kernel) rfl
theorem k116_64 : qx sc D 116 64 ls (vr 0 :: st) u bb σ Q ↔ qx sc D 116 67 ls (vr 77 :: st) u bb σ Q := r_getR (idx := 83) (c := 14) (k := 10) (by decide +kernel)
theorem k116_67 : qx sc D 116 67 ls (vr 77 :: st) u bb σ Q ↔ qx sc D 116 70 ls (vr 81 :: st) u bb σ Q := r_getR (idx := 271) (c := 10) (k := 11) (by decide +kernel)
theorem k116_70 : qx sc D 116 70 [l0, l1, vi x, l3] st u bb σ Q ↔ qx sc D 116 71 [l0, l1, vi x, l3] (vi x :: st) u bb σ Q := r_iload_n (k := 2) (by decide +kernel) rfl
theorem k116_71 : qx sc D 116 71 ls (vi i :: vr a :: st) u bb σ Q ↔ (q_ty a = 4 ∧ 0 ≤ i ∧ i < q_ln a) ∧ qx sc D 116 72 ls (vr (a + 1 + i.toNat) :: st) u bb σ Q := r_aald (by decide +kernel)
theorem k116_72 : qx sc D 116 72 [l0, l1, l2, vi x] st u bb σ Q ↔ qx sc D 116 73 [l0, l1, l2, vi x] (vi x :: st) u bb σ Q := r_iload_n (k := 3) (by decide +kernel) rfl
theorem k116_73 : qx sc D 116 73 ls (vi i :: vr a :: st) u bb σ Q ↔ (q_ty a = 0 ∧ 0 ≤ i ∧ i < q_ln a) ∧ qx sc D 116 74 ls (vi (σ a i) :: st) u bb σ Q := r_iald (by decide +kernel)
theorem k116_74 : qx sc D 116 74 ls [vi x] (2, 12) bb σ Q ↔ Q (.inl (some (vi x))) bb σ := r_ret (by decide +kernel)
-- 117: RowProver.read()I
theorem k117_0 : qx sc D 117 0 [vr a, l1, l2] st u bb σ Q ↔ qx sc D 117 1 [vr a, l1, l2] (vr a :: st) u bb σ Q := r_aload_n (k := 0) (by decide +kernel) rfl
theorem k117_1 : qx sc D 117 1 ls (vr 0 :: st) u bb σ Q ↔ qx sc D 117 4 ls (vi (σ 0 13) :: st) u bb σ Q := r_getI (idx := 104) (c := 14) (k := 13) (by decide +kernel)
theorem k117_4 : qx sc D 117 4 [l0, l1, l2] (vi x :: st) u bb σ Q ↔ qx sc D 117 5 [l0, vi x, l2] st u bb σ Q := r_istore_n (k := 1) (by decide +kernel) (Nat.le_of_ble_eq_true rfl)
theorem k117_5 : qx sc D 117 5 [vr a, l1, l2] st u bb σ Q ↔ qx sc D 117 6 [vr a, l1, l2] (vr a :: st) u bb σ Q := r_aload_n (k := 0) (by decide +kernel) rfl
theorem k117_6 : qx sc D 117 6 ls st u bb σ Q ↔ qx sc D 117 7 ls (vi 0 :: st) u bb σ Q := r_iconst (by decide +kernel)
theorem k117_7 : qx sc D 117 7 ls (vi x :: vr 0 :: st) u bb σ Q ↔ qx sc D 117 10 ls st u bb (q_up σ 0 13 x) Q := r_putI (idx := 104) (c := 14) (k := 13) (by decide +kernel)
theorem k117_10 : qx sc D 117 10 [vr a, l1, l2] st u bb σ Q ↔ qx sc D 117 11 [vr a, l1, l2] (vr a :: st) u bb σ Q := r_aload_n (k := 0) (by decide +kernel) rfl
theorem k117_11 : qx sc D 117 11 ls (vr 0 :: st) u bb σ Q ↔ qx sc D 117 14 ls (vr 4 :: st) u bb σ Q := r_getR (idx := 24) (c := 14) (k := 3) (by decide +kernel)
theorem k117_14 : qx sc D 117 14 [vr a, l1, l2] st u bb σ Q ↔ qx sc D 117 15 [vr a, l1, l2] (vr a :: st) u bb σ Q := r_aload_n (k := 0) (by decide +kernel) rfl
theorem k117_15 : qx sc D 117 15 ls (vr 0 :: st) u bb σ Q ↔ 0 ≤ σ 0 12 ∧ qx sc D 117 18 ls (vr (σ 0 12).toNat :: st) u bb σ Q := r_getM (idx := 94) (c := 14) (k := 12) (by decide +kernel)
theorem k117_18 : qx sc D 117 18 [l0, vi x, l2] st u bb σ Q ↔ qx sc D 117 19 [l0, vi x, l2] (vi x :: st) u bb σ Q := r_iload_n (k := 1) (by decide +kernel) rfl
theorem k117_19 : qx sc (D + 1) 117 19 ls [vi x1, vr a0, vr 4] (0, 0) bb σ Q ↔ qx sc D 45 0 [vr 4, vr a0, vi x1, vn] [] (0, 0) bb σ (q_kn sc (D + 1) 117 22 ls [] (0, 0) Q) := r_callv (idx := 111) (n := 2) (m := 4) (by decide +kernel) rfl (Nat.le_of_ble_eq_true rfl) ⟨Nat.le_of_ble_eq_true rfl, Nat.le_of_ble_eq_true rfl, rfl⟩ rfl
theorem k117_22 : qx sc D 117 22 ls (vi x :: st) u bb σ Q ↔ (x = 0 → qx sc D 117 25 ls st u bb σ Q) ∧ (¬ (x = 0) → qx sc D 117 46 ls st u bb σ Q) := r_if_ne (off := 24) (t := 46) (by decide +kernel)
theorem k117_25 : qx sc D 117 25 [vr a, l1, l2] st u bb σ Q ↔ qx sc D 117 26 [vr a, l1, l2] (vr a :: st) u bb σ Q := r_aload_n (k := 0) (by decide +kernel) rfl
theorem k117_26 : qx sc D 117 26 [vr a, l1, l2] st u bb σ Q ↔ qx sc D 117 27 [vr a, l1, l2] (vr a :: st) u bb σ Q := r_aload_n (k := 0) (by decide +kernel) rfl
theorem k117_27 : qx sc D 117 27 ls (vr 0 :: st) u bb σ Q ↔ qx sc D 117 30 ls (vr 4 :: st) u bb σ Q := r_getR (idx := 24) (c := 14) (k := 3) (by decide +kernel)
theorem k117_30 : qx sc D 117 30 ls (vr 4 :: st) u bb σ Q ↔ qx sc D 117 33 ls (vi (σ 4 4) :: st) u bb σ Q := r_getI (idx := 115) (c := 9) (k := 4) (by decide +kernel)
theorem k117_33 : qx sc D 117 33 ls (vi x :: vr 0 :: st) u bb σ Q ↔ qx sc D 117 36 ls st u bb (q_up σ 0 14 x) Q := r_putI (idx := 97) (c := 14) (k := 14) (by decide +kernel)
theorem k117_36 : qx sc D 117 36 ls [] (0, 0) bb σ Q ↔ Q (.inr 0) false σ := r_throw (idx := 118) (by decide +kernel)
theorem k117_46 : qx sc D 117 46 [vr a, l1, l2] st u bb σ Q ↔ qx sc D 117 47 [vr a, l1, l2] (vr a :: st) u bb σ Q := r_aload_n (k := 0) (by decide +kernel) rfl
theorem k117_47 : qx sc D 117 47 ls st u bb σ Q ↔ qx sc D 117 48 ls (vi (-1) :: st) u bb σ Q := r_iconst (by decide +kernel)
theorem k117_48 : qx sc D 117 48 ls (vi x :: vr 0 :: st) u bb σ Q ↔ qx sc D 117 51 ls st u bb (q_up σ 0 14 x) Q := r_putI (idx := 97) (c := 14) (k := 14) (by decide +kernel)
theorem k117_51 : qx sc D 117 51 [vr a, l1, l2] st u bb σ Q ↔ qx sc D 117 52 [vr a, l1, l2] (vr a :: st) u bb σ Q := r_aload_n (k := 0) (by decide +kernel) rfl
theorem k117_52 : qx sc D 117 52 ls (vr 0 :: st) u bb σ Q ↔ 0 ≤ σ 0 12 ∧ qx sc D 117 55 ls (vr (σ 0 12).toNat :: st) u bb σ Q := r_getM (idx := 94) (c := 14) (k := 12) (by decide +kernel)
theorem k117_55 : qx sc D 117 55 [l0, l1, l2] (vr a :: st) u bb σ Q ↔ qx sc D 117 56 [l0, l1, vr a] st u bb σ Q := r_astore_n (k := 2) (by decide +kernel) (Nat.le_of_ble_eq_true rfl)
theorem k117_56 : qx sc D 117 56 [vr a, l1, l2] st u bb σ Q ↔ qx sc D 117 57 [vr a, l1, l2] (vr a :: st) u bb σ Q := r_aload_n (k := 0) (by decide +kernel) rfl
theorem k117_57 : qx sc D 117 57 [vr a, l1, l2] st u bb σ Q ↔ qx sc D 117 58 [vr a, l1, l2] (vr a :: st) u bb σ Q := r_aload_n (k := 0) (by decide +kernel) rfl
theorem k117_58 : qx sc D 117 58 ls (vr 0 :: st) u bb σ Q ↔ 0 ≤ σ 0 11 ∧ qx sc D 117 61 ls (vr (σ 0 11).toNat :: st) u bb σ Q := r_getM (idx := 90) (c := 14) (k := 11) (by decide +kernel)
theorem k117_61 : qx sc D 117 61 ls (vr b :: vr 0 :: st) u bb σ Q ↔ b < 1000000 ∧ qx sc D 117 64 ls st u bb (q_up σ 0 12 b) Q := r_putM (idx := 94) (c := 14) (k := 12) (by decide +kernel)
theorem k117_64 : qx sc D 117 64 [vr a, l1, l2] st u bb σ Q ↔ qx sc D 117 65 [vr a, l1, l2] (vr a :: st) u bb σ Q := r_aload_n (k := 0) (by decide +kernel) rfl
theorem k117_65 : qx sc D 117 65 [l0, l1, vr a] st u bb σ Q ↔ qx sc D 117 66 [l0, l1, vr a] (vr a :: st) u bb σ Q := r_aload_n (k := 2) (by decide +kernel) rfl
theorem k117_66 : qx sc D 117 66 ls (vr b :: vr 0 :: st) u bb σ Q ↔ b < 1000000 ∧ qx sc D 117 69 ls st u bb (q_up σ 0 11 b) Q := r_putM (idx := 90) (c := 14) (k := 11) (by decide +kernel)
theorem k117_69 : qx sc D 117 69 [vr a, l1, l2] st u bb σ Q ↔ qx sc D 117 70 [vr a, l1, l2] (vr a :: st) u bb σ Q := r_aload_n (k := 0) (by decide +kernel) rfl
theorem k117_70 : qx sc (D + 1) 117 70 ls [vr 0] (0, 0) bb σ Q ↔ qx sc D 95 0 [vr 0] [] (0, 0) bb σ (q_kn sc (D + 1) 117 73 ls [] (0, 0) Q) := r_callv (idx := 101) (n := 0) (m := 1) (by decide +kernel) rfl (Nat.le_of_ble_eq_true rfl) ⟨Nat.le_of_ble_eq_true rfl, Nat.le_of_ble_eq_true rfl, rfl⟩ rfl
theorem k117_73 : qx sc D 117 73 [vr a, l1, l2] st u bb σ Q ↔ qx sc D 117 74 [vr a, l1, l2] (vr a :: st) u bb σ Q := r_aload_n (k := 0) (by decide +kernel) rfl
theorem k117_74 : qx sc D 117 74 ls (vr 0 :: st) u bb σ Q ↔ 0 ≤ σ 0 11 ∧ qx sc D 117 77 ls (vr (σ 0 11).toNat :: st) u bb σ Q := r_getM (idx := 90) (c := 14) (k := 11) (by decide +kernel)
theorem k117_77 (hc : q_C c) : qx sc D 117 77 ls (vr c :: st) u bb σ Q ↔ qx sc D 117 80 ls (vi (σ c 0) :: st) u bb σ Q := r_getIc (idx := 125) (k := 0) (by decide +kernel) hc
theorem k117_80 : qx sc D 117 80 ls [vi x] (0, 0) bb σ Q ↔ Q (.inl (some (vi x))) bb σ := r_ret (by decide +kernel)
-- 118: RowProver.run(II)I
theorem k118_0 : qx sc D 118 0 [vr a, l1, l2] st u bb σ Q ↔ qx sc D 118 1 [vr a, l1, l2] (vr a :: st) u bb σ Q := r_aload_n (k := 0) (by decide +kernel) rfl
theorem k118_1 : qx sc D 118 1 [l0, vi x, l2] st u bb σ Q ↔ qx sc D 118 2 [l0, vi x, l2] (vi x :: st) u bb σ Q := r_iload_n (k := 1) (by decide +kernel) rfl
theorem k118_2 : qx sc (D + 1) 118 2 ls [vi x0, vr 0] (0, 0) bb σ Q ↔ qx sc D 108 0 [vr 0, vi x0] [] (0, 0) bb σ (q_kn sc (D + 1) 118 5 ls [] (1, 6) Q) := r_callv (idx := 249) (n := 1) (m := 2) (by decide +kernel) rfl (Nat.le_of_ble_eq_true rfl) ⟨Nat.le_of_ble_eq_true rfl, Nat.le_of_ble_eq_true rfl, rfl⟩ rfl
theorem k118_5 : qx sc D 118 5 [l0, l1, vi x] st u bb σ Q ↔ qx sc D 118 6 [l0, l1, vi x] (vi x :: st) u bb σ Q := r_iload_n (k := 2) (by decide +kernel) rfl
theorem k118_6 : qx sc D 118 6 ls (vi x :: st) u bb σ Q ↔ (x < 0 → qx sc D 118 15 ls st u bb σ Q) ∧ (¬ (x < 0) → qx sc D 118 9 ls st u bb σ Q) := r_if_lt (off := 9) (t := 15) (by decide +kernel)
theorem k118_9 : qx sc D 118 9 [l0, l1, vi x] st u bb σ Q ↔ qx sc D 118 10 [l0, l1, vi x] (vi x :: st) u bb σ Q := r_iload_n (k := 2) (by decide +kernel) rfl
theorem k118_10 : qx sc D 118 10 ls st u bb σ Q ↔ qx sc D 118 12 ls (vi 7 :: st) u bb σ Q := r_bipush (by decide +kernel)
theorem k118_12 : qx sc D 118 12 ls (vi b' :: vi a' :: st) u bb σ Q ↔ (a' < b' → qx sc D 118 25 ls st u bb σ Q) ∧ (¬ (a' < b') → qx sc D 118 15 ls st u bb σ Q) := r_ic_lt (off := 13) (t := 25) (by decide +kernel)
theorem k118_15 : qx sc D 118 15 ls [] (1, 6) bb σ Q ↔ Q (.inr 2) false σ := r_throw (idx := 146) (by decide +kernel)
theorem k118_25 : qx sc D 118 25 [vr a, l1, l2] st u bb σ Q ↔ qx sc D 118 26 [vr a, l1, l2] (vr a :: st) u bb σ Q := r_aload_n (k := 0) (by decide +kernel) rfl
theorem k118_26 : qx sc D 118 26 ls (vr 0 :: st) u bb σ Q ↔ qx sc D 118 29 ls (vr 77 :: st) u bb σ Q := r_getR (idx := 83) (c := 14) (k := 10) (by decide +kernel)
theorem k118_29 : qx sc D 118 29 [vr a, l1, l2] st u bb σ Q ↔ qx sc D 118 30 [vr a, l1, l2] (vr a :: st) u bb σ Q := r_aload_n (k := 0) (by decide +kernel) rfl
theorem k118_30 : qx sc D 118 30 ls (vr 0 :: st) u bb σ Q ↔ 0 ≤ σ 0 11 ∧ qx sc D 118 33 ls (vr (σ 0 11).toNat :: st) u bb σ Q := r_getM (idx := 90) (c := 14) (k := 11) (by decide +kernel)
theorem k118_33 : qx sc D 118 33 [l0, vi x, l2] st u bb σ Q ↔ qx sc D 118 34 [l0, vi x, l2] (vi x :: st) u bb σ Q := r_iload_n (k := 1) (by decide +kernel) rfl
theorem k118_34 : qx sc (D + 1) 118 34 ls [vi x1, vr a0, vr 77] (1, 6) bb σ Q ↔ qx sc D 72 0 [vr 77, vr a0, vi x1, vn, vn] [] (0, 0) bb σ (q_kn sc (D + 1) 118 37 ls [] (1, 6) Q) := r_callv (idx := 254) (n := 2) (m := 5) (by decide +kernel) rfl (Nat.le_of_ble_eq_true rfl) ⟨Nat.le_of_ble_eq_true rfl, Nat.le_of_ble_eq_true rfl, rfl⟩ rfl
theorem k118_37 : qx sc D 118 37 [vr a, l1, l2] st u bb σ Q ↔ qx sc D 118 38 [vr a, l1, l2] (vr a :: st) u bb σ Q := r_aload_n (k := 0) (by decide +kernel) rfl
theorem k118_38 : qx sc D 118 38 ls (vr 0 :: st) u bb σ Q ↔ qx sc D 118 41 ls (vr 77 :: st) u bb σ Q := r_getR (idx := 83) (c := 14) (k := 10) (by decide +kernel)
theorem k118_41 : qx sc D 118 41 ls (vr 77 :: st) u bb σ Q ↔ qx sc D 118 44 ls (vr 87 :: st) u bb σ Q := r_getR (idx := 258) (c := 10) (k := 14) (by decide +kernel)
theorem k118_44 : qx sc D 118 44 [l0, l1, vi x] st u bb σ Q ↔ qx sc D 118 45 [l0, l1, vi x] (vi x :: st) u bb σ Q := r_iload_n (k := 2) (by decide +kernel) rfl
theorem k118_45 : qx sc D 118 45 ls (vi i :: vr a :: st) u bb σ Q ↔ (q_ty a = 0 ∧ 0 ≤ i ∧ i < q_ln a) ∧ qx sc D 118 46 ls (vi (σ a i) :: st) u bb σ Q := r_iald (by decide +kernel)
theorem k118_46 : qx sc D 118 46 ls [vi x] (1, 6) bb σ Q ↔ Q (.inl (some (vi x))) bb σ := r_ret (by decide +kernel)
-- 119: RowProver.saves(IIIZ)I
theorem k119_0 : qx sc D 119 0 [vr a, l1, l2, l3, l4, l5, l6, l7, l8, l9] st u bb σ Q ↔ qx sc D 119 1 [vr a, l1, l2, l3, l4, l5, l6, l7, l8, l9] (vr a :: st) u bb σ Q := r_aload_n (k := 0) (by decide +kernel) rfl
theorem k119_1 : qx sc D 119 1 [l0, vi x, l2, l3, l4, l5, l6, l7, l8, l9] st u bb σ Q ↔ qx sc D 119 2 [l0, vi x, l2, l3, l4, l5, l6, l7, l8, l9] (vi x :: st) u bb σ Q := r_iload_n (k := 1) (by decide +kernel) rfl
theorem k119_2 : qx sc (D + 1) 119 2 ls [vi x0, vr 0] (0, 0) bb σ Q ↔ qx sc D 109 0 [vr 0, vi x0] [] (0, 0) bb σ (q_kn sc (D + 1) 119 5 ls [] (1, 6) Q) := r_callv (idx := 243) (n := 1) (m := 2) (by decide +kernel) rfl (Nat.le_of_ble_eq_true rfl) ⟨Nat.le_of_ble_eq_true rfl, Nat.le_of_ble_eq_true rfl, rfl⟩ rfl
theorem k119_5 : qx sc D 119 5 [vr a, l1, l2, l3, l4, l5, l6, l7, l8, l9] st u bb σ Q ↔ qx sc D 119 6 [vr a, l1, l2, l3, l4, l5, l6, l7, l8, l9] (vr a :: st) u bb σ Q := r_aload_n (k := 0) (by decide +kernel) rfl
theorem k119_6 : qx sc D 119 6 [l0, l1, vi x, l3, l4, l5, l6, l7, l8, l9] st u bb σ Q ↔ qx sc D 119 7 [l0, l1, vi x, l3, l4, l5, l6, l7, l8, l9] (vi x :: st) u bb σ Q := r_iload_n (k := 2) (by decide +kernel) rfl
theorem k119_7 : qx sc (D + 1) 119 7 ls [vi x0, vr 0] (1, 6) bb σ Q ↔ qx sc D 110 0 [vr 0, vi x0] [] (0, 0) bb σ (q_kn sc (D + 1) 119 10 ls [] (2, 12) Q) := r_callv (idx := 246) (n := 1) (m := 2) (by decide +kernel) rfl (Nat.le_of_ble_eq_true rfl) ⟨Nat.le_of_ble_eq_true rfl, Nat.le_of_ble_eq_true rfl, rfl⟩ rfl
theorem k119_10 : qx sc D 119 10 [vr a, l1, l2, l3, l4, l5, l6, l7, l8, l9] st u bb σ Q ↔ qx sc D 119 11 [vr a, l1, l2, l3, l4, l5, l6, l7, l8, l9] (vr a :: st) u bb σ Q := r_aload_n (k := 0) (by decide +kernel) rfl
theorem k119_11 : qx sc D 119 11 [l0, l1, l2, vi x, l4, l5, l6, l7, l8, l9] st u bb σ Q ↔ qx sc D 119 12 [l0, l1, l2, vi x, l4, l5, l6, l7, l8, l9] (vi x :: st) u bb σ Q := r_iload_n (k := 3) (by decide +kernel) rfl
theorem k119_12 : qx sc (D + 1) 119 12 ls [vi x0, vr 0] (2, 12) bb σ Q ↔ qx sc D 110 0 [vr 0, vi x0] [] (0, 0) bb σ (q_kn sc (D + 1) 119 15 ls [] (3, 18) Q) := r_callv (idx := 246) (n := 1) (m := 2) (by decide +kernel) rfl (Nat.le_of_ble_eq_true rfl) ⟨Nat.le_of_ble_eq_true rfl, Nat.le_of_ble_eq_true rfl, rfl⟩ rfl
theorem k119_15 : qx sc D 119 15 [l0, l1, vi x, l3, l4, l5, l6, l7, l8, l9] st u bb σ Q ↔ qx sc D 119 16 [l0, l1, vi x, l3, l4, l5, l6, l7, l8, l9] (vi x :: st) u bb σ Q := r_iload_n (k := 2) (by decide +kernel) rfl
theorem k119_16 : qx sc D 119 16 [l0, l1, l2, vi x, l4, l5, l6, l7, l8, l9] st u bb σ Q ↔ qx sc D 119 17 [l0, l1, l2, vi x, l4, l5, l6, l7, l8, l9] (vi x :: st) u bb σ Q := r_iload_n (k := 3) (by decide +kernel) rfl
theorem k119_17 : qx sc D 119 17 ls (vi b' :: vi a' :: st) u bb σ Q ↔ (b' < a' → qx sc D 119 28 ls st u bb σ Q) ∧ (¬ (b' < a') → qx sc D 119 20 ls st u bb σ Q) := r_ic_gt (off := 11) (t := 28) (by decide +kernel)
theorem k119_20 : qx sc D 119 20 [l0, l1, l2, vi x, l4, l5, l6, l7, l8, l9] st u bb σ Q ↔ qx sc D 119 21 [l0, l1, l2, vi x, l4, l5, l6, l7, l8, l9] (vi x :: st) u bb σ Q := r_iload_n (k := 3) (by decide +kernel) rfl
theorem k119_21 : qx sc D 119 21 [l0, l1, vi x, l3, l4, l5, l6, l7, l8, l9] st u bb σ Q ↔ qx sc D 119 22 [l0, l1, vi x, l3, l4, l5, l6, l7, l8, l9] (vi x :: st) u bb σ Q := r_iload_n (k := 2) (by decide +kernel) rfl
theorem k119_22 : qx sc D 119 22 ls (vi b' :: vi a' :: st) u bb σ Q ↔ q_R (a' - b') ∧ qx sc D 119 23 ls (vi (a' - b') :: st) u bb σ Q := r_isub (by decide +kernel)
theorem k119_23 : qx sc D 119 23 ls st u bb σ Q ↔ qx sc D 119 25 ls (vi 20 :: st) u bb σ Q := r_bipush (by decide +kernel)
theorem k119_25 : qx sc D 119 25 ls (vi b' :: vi a' :: st) u bb σ Q ↔ (b' < a' → qx sc D 119 28 ls st u bb σ Q) ∧ (¬ (b' < a') → qx sc D 119 39 ls st u bb σ Q) := r_ic_le (off := 14) (t := 39) (by decide +kernel)
theorem k119_28 : qx sc D 119 28 ls [] (3, 18) bb σ Q ↔ Q (.inr 0) false σ := r_throw (idx := 118) (by decide +kernel)
theorem k119_39 : qx sc D 119 39 [vr a, l1, l2, l3, l4, l5, l6, l7, l8, l9] st u bb σ Q ↔ qx sc D 119 40 [vr a, l1, l2, l3, l4, l5, l6, l7, l8, l9] (vr a :: st) u bb σ Q := r_aload_n (k := 0) (by decide +kernel) rfl
theorem k119_40 : qx sc D 119 40 ls (vr 0 :: st) u bb σ Q ↔ qx sc D 119 43 ls (vr 2 :: st) u bb σ Q := r_getR (idx := 13) (c := 14) (k := 1) (by decide +kernel)
theorem k119_43 : qx sc D 119 43 [l0, vi x, l2, l3, l4, l5, l6, l7, l8, l9] st u bb σ Q ↔ qx sc D 119 44 [l0, vi x, l2, l3, l4, l5, l6, l7, l8, l9] (vi x :: st) u bb σ Q := r_iload_n (k := 1) (by decide +kernel) rfl
theorem k119_44 : qx sc D 119 44 ls (vi i :: vr a :: st) u bb σ Q ↔ (q_ty a = 0 ∧ 0 ≤ i ∧ i < q_ln a) ∧ qx sc D 119 45 ls (vi (σ a i) :: st) u bb σ Q := r_iald (by decide +kernel)
theorem k119_45 : qx sc D 119 45 [l0, l1, l2, l3, l4, l5, l6, l7, l8, l9] (vi x :: st) u bb σ Q ↔ qx sc D 119 47 [l0, l1, l2, l3, l4, vi x, l6, l7, l8, l9] st u bb σ Q := r_istore (k := 5) (by decide +kernel) (Nat.le_of_ble_eq_true rfl)
theorem k119_47 : qx sc D 119 47 ls st u bb σ Q ↔ qx sc D 119 48 ls (vi 0 :: st) u bb σ Q := r_iconst (by decide +kernel)
theorem k119_48 : qx sc D 119 48 [l0, l1, l2, l3, l4, l5, l6, l7, l8, l9] (vi x :: st) u bb σ Q ↔ qx sc D 119 50 [l0, l1, l2, l3, l4, l5, vi x, l7, l8, l9] st u bb σ Q := r_istore (k := 6) (by decide +kernel) (Nat.le_of_ble_eq_true rfl)
theorem k119_50 : qx sc D 119 50 [l0, l1, vi x, l3, l4, l5, l6, l7, l8, l9] st u bb σ Q ↔ qx sc D 119 51 [l0, l1, vi x, l3, l4, l5, l6, l7, l8, l9] (vi x :: st) u bb σ Q := r_iload_n (k := 2) (by decide +kernel) rfl
theorem k119_51 : qx sc D 119 51 [l0, l1, l2, l3, l4, l5, l6, l7, l8, l9] (vi x :: st) u bb σ Q ↔ qx sc D 119 53 [l0, l1, l2, l3, l4, l5, l6, vi x, l8, l9] st u bb σ Q := r_istore (k := 7) (by decide +kernel) (Nat.le_of_ble_eq_true rfl)
theorem k119_53 : qx sc D 119 53 [l0, l1, vi x, l3, l4, l5, l6, l7, l8, l9] st u bb σ Q ↔ qx sc D 119 54 [l0, l1, vi x, l3, l4, l5, l6, l7, l8, l9] (vi x :: st) u bb σ Q := r_iload_n (k := 2) (by decide +kernel) rfl
theorem k119_54 : qx sc D 119 54 [l0, l1, l2, l3, l4, l5, l6, l7, l8, l9] (vi x :: st) u bb σ Q ↔ qx sc D 119 56 [l0, l1, l2, l3, l4, l5, l6, l7, vi x, l9] st u bb σ Q := r_istore (k := 8) (by decide +kernel) (Nat.le_of_ble_eq_true rfl)
theorem k119_56 : qx sc D 119 56 [l0, l1, l2, l3, l4, l5, l6, l7, vi x, l9] st u bb σ Q ↔ qx sc D 119 58 [l0, l1, l2, l3, l4, l5, l6, l7, vi x, l9] (vi x :: st) u bb σ Q := r_iload (k := 8) (by decide +kernel) rfl
theorem k119_58 : qx sc D 119 58 [l0, l1, l2, vi x, l4, l5, l6, l7, l8, l9] st u bb σ Q ↔ qx sc D 119 59 [l0, l1, l2, vi x, l4, l5, l6, l7, l8, l9] (vi x :: st) u bb σ Q := r_iload_n (k := 3) (by decide +kernel) rfl
theorem k119_59 : qx sc D 119 59 ls (vi b' :: vi a' :: st) u bb σ Q ↔ (b' < a' → qx sc D 119 146 ls st u bb σ Q) ∧ (¬ (b' < a') → qx sc D 119 62 ls st u bb σ Q) := r_ic_gt (off := 87) (t := 146) (by decide +kernel)
theorem k119_62 : qx sc D 119 62 [vr a, l1, l2, l3, l4, l5, l6, l7, l8, l9] st u bb σ Q ↔ qx sc D 119 63 [vr a, l1, l2, l3, l4, l5, l6, l7, l8, l9] (vr a :: st) u bb σ Q := r_aload_n (k := 0) (by decide +kernel) rfl
theorem k119_63 : qx sc D 119 63 ls (vr 0 :: st) u bb σ Q ↔ qx sc D 119 66 ls (vr 2 :: st) u bb σ Q := r_getR (idx := 13) (c := 14) (k := 1) (by decide +kernel)
theorem k119_66 : qx sc D 119 66 [l0, vi x, l2, l3, l4, l5, l6, l7, l8, l9] st u bb σ Q ↔ qx sc D 119 67 [l0, vi x, l2, l3, l4, l5, l6, l7, l8, l9] (vi x :: st) u bb σ Q := r_iload_n (k := 1) (by decide +kernel) rfl
theorem k119_67 : qx sc D 119 67 [l0, l1, l2, l3, l4, l5, l6, l7, vi x, l9] st u bb σ Q ↔ qx sc D 119 69 [l0, l1, l2, l3, l4, l5, l6, l7, vi x, l9] (vi x :: st) u bb σ Q := r_iload (k := 8) (by decide +kernel) rfl
theorem k119_69 : qx sc D 119 69 ls (vi x :: vi i :: vr a :: st) u bb σ Q ↔ (q_ty a = 0 ∧ 0 ≤ i ∧ i < q_ln a) ∧ qx sc D 119 70 ls st u bb (q_up σ a i x) Q := r_iast (by decide +kernel)
theorem k119_70 : qx sc D 119 70 [vr a, l1, l2, l3, l4, l5, l6, l7, l8, l9] st u bb σ Q ↔ qx sc D 119 71 [vr a, l1, l2, l3, l4, l5, l6, l7, l8, l9] (vr a :: st) u bb σ Q := r_aload_n (k := 0) (by decide +kernel) rfl
theorem k119_71 : qx sc D 119 71 ls (vr 0 :: st) u bb σ Q ↔ qx sc D 119 74 ls (vr 77 :: st) u bb σ Q := r_getR (idx := 83) (c := 14) (k := 10) (by decide +kernel)
theorem k119_74 : qx sc D 119 74 [vr a, l1, l2, l3, l4, l5, l6, l7, l8, l9] st u bb σ Q ↔ qx sc D 119 75 [vr a, l1, l2, l3, l4, l5, l6, l7, l8, l9] (vr a :: st) u bb σ Q := r_aload_n (k := 0) (by decide +kernel) rfl
theorem k119_75 : qx sc D 119 75 ls (vr 0 :: st) u bb σ Q ↔ 0 ≤ σ 0 11 ∧ qx sc D 119 78 ls (vr (σ 0 11).toNat :: st) u bb σ Q := r_getM (idx := 90) (c := 14) (k := 11) (by decide +kernel)
theorem k119_78 : qx sc D 119 78 ls st u bb σ Q ↔ qx sc D 119 79 ls (vi 0 :: st) u bb σ Q := r_iconst (by decide +kernel)
theorem k119_79 : qx sc (D + 1) 119 79 ls [vi x1, vr a0, vr 77] (3, 18) bb σ Q ↔ qx sc D 72 0 [vr 77, vr a0, vi x1, vn, vn] [] (0, 0) bb σ (q_kn sc (D + 1) 119 82 ls [] (3, 18) Q) := r_callv (idx := 254) (n := 2) (m := 5) (by decide +kernel) rfl (Nat.le_of_ble_eq_true rfl) ⟨Nat.le_of_ble_eq_true rfl, Nat.le_of_ble_eq_true rfl, rfl⟩ rfl
theorem k119_82 : qx sc D 119 82 [vr a, l1, l2, l3, l4, l5, l6, l7, l8, l9] st u bb σ Q ↔ qx sc D 119 83 [vr a, l1, l2, l3, l4, l5, l6, l7, l8, l9] (vr a :: st) u bb σ Q := r_aload_n (k := 0) (by decide +kernel) rfl
theorem k119_83 : qx sc D 119 83 ls (vr 0 :: st) u bb σ Q ↔ qx sc D 119 86 ls (vr 77 :: st) u bb σ Q := r_getR (idx := 83) (c := 14) (k := 10) (by decide +kernel)
theorem k119_86 : qx sc D 119 86 ls (vr 77 :: st) u bb σ Q ↔ qx sc D 119 89 ls (vr 87 :: st) u bb σ Q := r_getR (idx := 258) (c := 10) (k := 14) (by decide +kernel)
theorem k119_89 : qx sc D 119 89 ls st u bb σ Q ↔ qx sc D 119 90 ls (vi 4 :: st) u bb σ Q := r_iconst (by decide +kernel)
theorem k119_90 : qx sc D 119 90 ls (vi i :: vr a :: st) u bb σ Q ↔ (q_ty a = 0 ∧ 0 ≤ i ∧ i < q_ln a) ∧ qx sc D 119 91 ls (vi (σ a i) :: st) u bb σ Q := r_iald (by decide +kernel)
theorem k119_91 : qx sc D 119 91 [l0, l1, l2, l3, l4, l5, l6, l7, l8, l9] (vi x :: st) u bb σ Q ↔ qx sc D 119 93 [l0, l1, l2, l3, l4, l5, l6, l7, l8, vi x] st u bb σ Q := r_istore (k := 9) (by decide +kernel) (Nat.le_of_ble_eq_true rfl)
theorem k119_93 : qx sc D 119 93 [vr a, l1, l2, l3, l4, l5, l6, l7, l8, l9] st u bb σ Q ↔ qx sc D 119 94 [vr a, l1, l2, l3, l4, l5, l6, l7, l8, l9] (vr a :: st) u bb σ Q := r_aload_n (k := 0) (by decide +kernel) rfl
theorem k119_94 : qx sc D 119 94 ls (vr 0 :: st) u bb σ Q ↔ qx sc D 119 97 ls (vr 77 :: st) u bb σ Q := r_getR (idx := 83) (c := 14) (k := 10) (by decide +kernel)
theorem k119_97 : qx sc D 119 97 [vr a, l1, l2, l3, l4, l5, l6, l7, l8, l9] st u bb σ Q ↔ qx sc D 119 98 [vr a, l1, l2, l3, l4, l5, l6, l7, l8, l9] (vr a :: st) u bb σ Q := r_aload_n (k := 0) (by decide +kernel) rfl
theorem k119_98 : qx sc D 119 98 ls (vr 0 :: st) u bb σ Q ↔ 0 ≤ σ 0 11 ∧ qx sc D 119 101 ls (vr (σ 0 11).toNat :: st) u bb σ Q := r_getM (idx := 90) (c := 14) (k := 11) (by decide +kernel)
theorem k119_101 : qx sc D 119 101 ls st u bb σ Q ↔ qx sc D 119 102 ls (vi 2 :: st) u bb σ Q := r_iconst (by decide +kernel)
theorem k119_102 : qx sc (D + 1) 119 102 ls [vi x1, vr a0, vr 77] (3, 18) bb σ Q ↔ qx sc D 72 0 [vr 77, vr a0, vi x1, vn, vn] [] (0, 0) bb σ (q_kn sc (D + 1) 119 105 ls [] (3, 18) Q) := r_callv (idx := 254) (n := 2) (m := 5) (by decide +kernel) rfl (Nat.le_of_ble_eq_true rfl) ⟨Nat.le_of_ble_eq_true rfl, Nat.le_of_ble_eq_true rfl, rfl⟩ rfl
theorem k119_105 : qx sc D 119 105 [l0, l1, l2, l3, l4, l5, l6, l7, l8, vi x] st u bb σ Q ↔ qx sc D 119 107 [l0, l1, l2, l3, l4, l5, l6, l7, l8, vi x] (vi x :: st) u bb σ Q := r_iload (k := 9) (by decide +kernel) rfl
theorem k119_107 : qx sc D 119 107 [vr a, l1, l2, l3, l4, l5, l6, l7, l8, l9] st u bb σ Q ↔ qx sc D 119 108 [vr a, l1, l2, l3, l4, l5, l6, l7, l8, l9] (vr a :: st) u bb σ Q := r_aload_n (k := 0) (by decide +kernel) rfl
theorem k119_108 : qx sc D 119 108 ls (vr 0 :: st) u bb σ Q ↔ qx sc D 119 111 ls (vr 77 :: st) u bb σ Q := r_getR (idx := 83) (c := 14) (k := 10) (by decide +kernel)
theorem k119_111 : qx sc D 119 111 ls (vr 77 :: st) u bb σ Q ↔ qx sc D 119 114 ls (vr 87 :: st) u bb σ Q := r_getR (idx := 258) (c := 10) (k := 14) (by decide +kernel)
theorem k119_114 : qx sc D 119 114 ls st u bb σ Q ↔ qx sc D 119 115 ls (vi 4 :: st) u bb σ Q := r_iconst (by decide +kernel)
theorem k119_115 : qx sc D 119 115 ls (vi i :: vr a :: st) u bb σ Q ↔ (q_ty a = 0 ∧ 0 ≤ i ∧ i < q_ln a) ∧ qx sc D 119 116 ls (vi (σ a i) :: st) u bb σ Q := r_iald (by decide +kernel)
theorem k119_116 : qx sc D 119 116 ls (vi b' :: vi a' :: st) u bb σ Q ↔ q_R (a' - b') ∧ qx sc D 119 117 ls (vi (a' - b') :: st) u bb σ Q := r_isub (by decide +kernel)
theorem k119_117 : qx sc D 119 117 [l0, l1, l2, l3, l4, l5, l6, l7, l8, l9] (vi x :: st) u bb σ Q ↔ qx sc D 119 119 [l0, l1, l2, l3, l4, l5, l6, l7, l8, vi x] st u bb σ Q := r_istore (k := 9) (by decide +kernel) (Nat.le_of_ble_eq_true rfl)
theorem k119_119 : qx sc D 119 119 [l0, l1, l2, l3, l4, l5, l6, l7, vi x, l9] st u bb σ Q ↔ qx sc D 119 121 [l0, l1, l2, l3, l4, l5, l6, l7, vi x, l9] (vi x :: st) u bb σ Q := r_iload (k := 8) (by decide +kernel) rfl
theorem k119_121 : qx sc D 119 121 [l0, l1, vi x, l3, l4, l5, l6, l7, l8, l9] st u bb σ Q ↔ qx sc D 119 122 [l0, l1, vi x, l3, l4, l5, l6, l7, l8, l9] (vi x :: st) u bb σ Q := r_iload_n (k := 2) (by decide +kernel) rfl
theorem k119_122 : qx sc D 119 122 ls (vi b' :: vi a' :: st) u bb σ Q ↔ (a' = b' → qx sc D 119 132 ls st u bb σ Q) ∧ (¬ (a' = b') → qx sc D 119 125 ls st u bb σ Q) := r_ic_eq (off := 10) (t := 132) (by decide +kernel)
theorem k119_125 : qx sc D 119 125 [l0, l1, l2, l3, l4, l5, l6, l7, l8, vi x] st u bb σ Q ↔ qx sc D 119 127 [l0, l1, l2, l3, l4, l5, l6, l7, l8, vi x] (vi x :: st) u bb σ Q := r_iload (k := 9) (by decide +kernel) rfl
theorem k119_127 : qx sc D 119 127 [l0, l1, l2, l3, l4, l5, vi x, l7, l8, l9] st u bb σ Q ↔ qx sc D 119 129 [l0, l1, l2, l3, l4, l5, vi x, l7, l8, l9] (vi x :: st) u bb σ Q := r_iload (k := 6) (by decide +kernel) rfl
theorem k119_129 : qx sc D 119 129 ls (vi b' :: vi a' :: st) u bb σ Q ↔ (b' < a' → qx sc D 119 132 ls st u bb σ Q) ∧ (¬ (b' < a') → qx sc D 119 140 ls st u bb σ Q) := r_ic_le (off := 11) (t := 140) (by decide +kernel)
theorem k119_132 : qx sc D 119 132 [l0, l1, l2, l3, l4, l5, l6, l7, l8, vi x] st u bb σ Q ↔ qx sc D 119 134 [l0, l1, l2, l3, l4, l5, l6, l7, l8, vi x] (vi x :: st) u bb σ Q := r_iload (k := 9) (by decide +kernel) rfl
theorem k119_134 : qx sc D 119 134 [l0, l1, l2, l3, l4, l5, l6, l7, l8, l9] (vi x :: st) u bb σ Q ↔ qx sc D 119 136 [l0, l1, l2, l3, l4, l5, vi x, l7, l8, l9] st u bb σ Q := r_istore (k := 6) (by decide +kernel) (Nat.le_of_ble_eq_true rfl)
theorem k119_136 : qx sc D 119 136 [l0, l1, l2, l3, l4, l5, l6, l7, vi x, l9] st u bb σ Q ↔ qx sc D 119 138 [l0, l1, l2, l3, l4, l5, l6, l7, vi x, l9] (vi x :: st) u bb σ Q := r_iload (k := 8) (by decide +kernel) rfl
theorem k119_138 : qx sc D 119 138 [l0, l1, l2, l3, l4, l5, l6, l7, l8, l9] (vi x :: st) u bb σ Q ↔ qx sc D 119 140 [l0, l1, l2, l3, l4, l5, l6, vi x, l8, l9] st u bb σ Q := r_istore (k := 7) (by decide +kernel) (Nat.le_of_ble_eq_true rfl)
theorem k119_140 : qx sc D 119 140 [l0, l1, l2, l3, l4, l5, l6, l7, vi x, l9] st u bb σ Q ↔ q_R (x + 1) ∧ qx sc D 119 143 [l0, l1, l2, l3, l4, l5, l6, l7, vi (x + 1), l9] st u bb σ Q := r_iinc (k := 8) (n := 1) (by decide +kernel) rfl
theorem k119_143 : qx sc D 119 143 ls st u bb σ Q ↔ qx sc D 119 56 ls st u bb σ Q := r_goto (off := (-87)) (by decide +kernel)
theorem k119_146 : qx sc D 119 146 [vr a, l1, l2, l3, l4, l5, l6, l7, l8, l9] st u bb σ Q ↔ qx sc D 119 147 [vr a, l1, l2, l3, l4, l5, l6, l7, l8, l9] (vr a :: st) u bb σ Q := r_aload_n (k := 0) (by decide +kernel) rfl
theorem k119_147 : qx sc D 119 147 ls (vr 0 :: st) u bb σ Q ↔ qx sc D 119 150 ls (vr 2 :: st) u bb σ Q := r_getR (idx := 13) (c := 14) (k := 1) (by decide +kernel)
theorem k119_150 : qx sc D 119 150 [l0, vi x, l2, l3, l4, l5, l6, l7, l8, l9] st u bb σ Q ↔ qx sc D 119 151 [l0, vi x, l2, l3, l4, l5, l6, l7, l8, l9] (vi x :: st) u bb σ Q := r_iload_n (k := 1) (by decide +kernel) rfl
theorem k119_151 : qx sc D 119 151 [l0, l1, l2, l3, l4, vi x, l6, l7, l8, l9] st u bb σ Q ↔ qx sc D 119 153 [l0, l1, l2, l3, l4, vi x, l6, l7, l8, l9] (vi x :: st) u bb σ Q := r_iload (k := 5) (by decide +kernel) rfl
theorem k119_153 : qx sc D 119 153 ls (vi x :: vi i :: vr a :: st) u bb σ Q ↔ (q_ty a = 0 ∧ 0 ≤ i ∧ i < q_ln a) ∧ qx sc D 119 154 ls st u bb (q_up σ a i x) Q := r_iast (by decide +kernel)
theorem k119_154 : qx sc D 119 154 [l0, l1, l2, l3, vi x, l5, l6, l7, l8, l9] st u bb σ Q ↔ qx sc D 119 156 [l0, l1, l2, l3, vi x, l5, l6, l7, l8, l9] (vi x :: st) u bb σ Q := r_iload (k := 4) (by decide +kernel) rfl
theorem k119_156 : qx sc D 119 156 ls (vi x :: st) u bb σ Q ↔ (x = 0 → qx sc D 119 164 ls st u bb σ Q) ∧ (¬ (x = 0) → qx sc D 119 159 ls st u bb σ Q) := r_if_eq (off := 8) (t := 164) (by decide +kernel)
theorem k119_159 : qx sc D 119 159 [l0, l1, l2, l3, l4, l5, vi x, l7, l8, l9] st u bb σ Q ↔ qx sc D 119 161 [l0, l1, l2, l3, l4, l5, vi x, l7, l8, l9] (vi x :: st) u bb σ Q := r_iload (k := 6) (by decide +kernel) rfl
theorem k119_161 : qx sc D 119 161 ls st u bb σ Q ↔ qx sc D 119 166 ls st u bb σ Q := r_goto (off := 5) (by decide +kernel)
theorem k119_164 : qx sc D 119 164 [l0, l1, l2, l3, l4, l5, l6, vi x, l8, l9] st u bb σ Q ↔ qx sc D 119 166 [l0, l1, l2, l3, l4, l5, l6, vi x, l8, l9] (vi x :: st) u bb σ Q := r_iload (k := 7) (by decide +kernel) rfl
theorem k119_166 : qx sc D 119 166 ls [vi x] (3, 18) bb σ Q ↔ Q (.inl (some (vi x))) bb σ := r_ret (by decide +kernel)
-- 120: RowProver.stands(IZ)I
theorem k120_0 : qx sc D 120 0 [vr a, l1, l2] st u bb σ Q ↔ qx sc D 120 1 [vr a, l1, l2] (vr a :: st) u bb σ Q := r_aload_n (k := 0) (by decide +kernel) rfl
theorem k120_1 : qx sc D 120 1 [l0, vi x, l2] st u bb σ Q ↔ qx sc D 120 2 [l0, vi x, l2] (vi x :: st) u bb σ Q := r_iload_n (k := 1) (by decide +kernel) rfl
theorem k120_2 : qx sc (D + 1) 120 2 ls [vi x0, vr 0] (0, 0) bb σ Q ↔ qx sc D 114 0 [vr 0, vi x0] [] (0, 0) bb σ (q_kn sc (D + 1) 120 5 ls [] (1, 6) Q) := r_callv (idx := 151) (n := 1) (m := 2) (by decide +kernel) rfl (Nat.le_of_ble_eq_true rfl) ⟨Nat.le_of_ble_eq_true rfl, Nat.le_of_ble_eq_true rfl, rfl⟩ rfl
theorem k120_5 : qx sc D 120 5 [l0, l1, vi x] st u bb σ Q ↔ qx sc D 120 6 [l0, l1, vi x] (vi x :: st) u bb σ Q := r_iload_n (k := 2) (by decide +kernel) rfl
theorem k120_6 : qx sc D 120 6 ls (vi x :: st) u bb σ Q ↔ (x = 0 → qx sc D 120 21 ls st u bb σ Q) ∧ (¬ (x = 0) → qx sc D 120 9 ls st u bb σ Q) := r_if_eq (off := 15) (t := 21) (by decide +kernel)
theorem k120_9 : qx sc D 120 9 [vr a, l1, l2] st u bb σ Q ↔ qx sc D 120 10 [vr a, l1, l2] (vr a :: st) u bb σ Q := r_aload_n (k := 0) (by decide +kernel) rfl
theorem k120_10 : qx sc D 120 10 ls (vr 0 :: st) u bb σ Q ↔ qx sc D 120 13 ls (vr 9 :: st) u bb σ Q := r_getR (idx := 31) (c := 14) (k := 4) (by decide +kernel)
theorem k120_13 : qx sc D 120 13 ls (vr 9 :: st) u bb σ Q ↔ qx sc D 120 16 ls (vr 17 :: st) u bb σ Q := r_getR (idx := 209) (c := 13) (k := 8) (by decide +kernel)
theorem k120_16 : qx sc D 120 16 [l0, vi x, l2] st u bb σ Q ↔ qx sc D 120 17 [l0, vi x, l2] (vi x :: st) u bb σ Q := r_iload_n (k := 1) (by decide +kernel) rfl
theorem k120_17 : qx sc D 120 17 ls (vi i :: vr a :: st) u bb σ Q ↔ (q_ty a = 0 ∧ 0 ≤ i ∧ i < q_ln a) ∧ qx sc D 120 18 ls (vi (σ a i) :: st) u bb σ Q := r_iald (by decide +kernel)
theorem k120_18 : qx sc D 120 18 ls st u bb σ Q ↔ qx sc D 120 30 ls st u bb σ Q := r_goto (off := 12) (by decide +kernel)
theorem k120_21 : qx sc D 120 21 [vr a, l1, l2] st u bb σ Q ↔ qx sc D 120 22 [vr a, l1, l2] (vr a :: st) u bb σ Q := r_aload_n (k := 0) (by decide +kernel) rfl
theorem k120_22 : qx sc D 120 22 ls (vr 0 :: st) u bb σ Q ↔ qx sc D 120 25 ls (vr 9 :: st) u bb σ Q := r_getR (idx := 31) (c := 14) (k := 4) (by decide +kernel)
theorem k120_25 : qx sc D 120 25 ls (vr 9 :: st) u bb σ Q ↔ qx sc D 120 28 ls (vr 16 :: st) u bb σ Q := r_getR (idx := 206) (c := 13) (k := 7) (by decide +kernel)
theorem k120_28 : qx sc D 120 28 [l0, vi x, l2] st u bb σ Q ↔ qx sc D 120 29 [l0, vi x, l2] (vi x :: st) u bb σ Q := r_iload_n (k := 1) (by decide +kernel) rfl
theorem k120_29 : qx sc D 120 29 ls (vi i :: vr a :: st) u bb σ Q ↔ (q_ty a = 0 ∧ 0 ≤ i ∧ i < q_ln a) ∧ qx sc D 120 30 ls (vi (σ a i) :: st) u bb σ Q := r_iald (by decide +kernel)
theorem k120_30 : qx sc D 120 30 ls [vi x] (1, 6) bb σ Q ↔ Q (.inl (some (vi x))) bb σ := r_ret (by decide +kernel)
-- 121: RowProver.statement(II)I
theorem k121_0 : qx sc D 121 0 [vr a, l1, l2] st u bb σ Q ↔ qx sc D 121 1 [vr a, l1, l2] (vr a :: st) u bb σ Q := r_aload_n (k := 0) (by decide +kernel) rfl
theorem k121_1 : qx sc D 121 1 [l0, vi x, l2] st u bb σ Q ↔ qx sc D 121 2 [l0, vi x, l2] (vi x :: st) u bb σ Q := r_iload_n (k := 1) (by decide +kernel) rfl
theorem k121_2 : qx sc (D + 1) 121 2 ls [vi x0, vr 0] (0, 0) bb σ Q ↔ qx sc D 113 0 [vr 0, vi x0] [] (0, 0) bb σ (q_kn sc (D + 1) 121 5 ls [] (1, 6) Q) := r_callv (idx := 128) (n := 1) (m := 2) (by decide +kernel) rfl (Nat.le_of_ble_eq_true rfl) ⟨Nat.le_of_ble_eq_true rfl, Nat.le_of_ble_eq_true rfl, rfl⟩ rfl
theorem k121_5 : qx sc D 121 5 [l0, l1, vi x] st u bb σ Q ↔ qx sc D 121 6 [l0, l1, vi x] (vi x :: st) u bb σ Q := r_iload_n (k := 2) (by decide +kernel) rfl
theorem k121_6 : qx sc D 121 6 ls (vi x :: st) u bb σ Q ↔ qx sc D 121 (if x < 0 ∨ 4 < x then 90 else [40, 50, 60, 70, 80].getD (x - 0).toNat 0) ls st u bb σ Q := r_tsw (d := 84) (lo := 0) (hi := 4) (offs := #[34, 44, 54, 64, 74]) (dt := 90) (tg := [40, 50, 60, 70, 80]) (by decide +kernel)
theorem k121_40 : qx sc D 121 40 [vr a, l1, l2] st u bb σ Q ↔ qx sc D 121 41 [vr a, l1, l2] (vr a :: st) u bb σ Q := r_aload_n (k := 0) (by decide +kernel) rfl
theorem k121_41 : qx sc D 121 41 ls (vr 0 :: st) u bb σ Q ↔ 0 ≤ σ 0 11 ∧ qx sc D 121 44 ls (vr (σ 0 11).toNat :: st) u bb σ Q := r_getM (idx := 90) (c := 14) (k := 11) (by decide +kernel)
theorem k121_44 (hc : q_C c) : qx sc D 121 44 ls (vr c :: st) u bb σ Q ↔ qx sc D 121 47 ls (vr (c + 2) :: st) u bb σ Q := r_getRc (idx := 131) (k := 4) (by decide +kernel) hc
theorem k121_47 : qx sc D 121 47 [l0, vi x, l2] st u bb σ Q ↔ qx sc D 121 48 [l0, vi x, l2] (vi x :: st) u bb σ Q := r_iload_n (k := 1) (by decide +kernel) rfl
theorem k121_48 : qx sc D 121 48 ls (vi i :: vr a :: st) u bb σ Q ↔ (q_ty a = 0 ∧ 0 ≤ i ∧ i < q_ln a) ∧ qx sc D 121 49 ls (vi (σ a i) :: st) u bb σ Q := r_iald (by decide +kernel)
theorem k121_49 : qx sc D 121 49 ls [vi x] (1, 6) bb σ Q ↔ Q (.inl (some (vi x))) bb σ := r_ret (by decide +kernel)
theorem k121_50 : qx sc D 121 50 [vr a, l1, l2] st u bb σ Q ↔ qx sc D 121 51 [vr a, l1, l2] (vr a :: st) u bb σ Q := r_aload_n (k := 0) (by decide +kernel) rfl
theorem k121_51 : qx sc D 121 51 ls (vr 0 :: st) u bb σ Q ↔ 0 ≤ σ 0 11 ∧ qx sc D 121 54 ls (vr (σ 0 11).toNat :: st) u bb σ Q := r_getM (idx := 90) (c := 14) (k := 11) (by decide +kernel)
theorem k121_54 (hc : q_C c) : qx sc D 121 54 ls (vr c :: st) u bb σ Q ↔ qx sc D 121 57 ls (vr (c + 3) :: st) u bb σ Q := r_getRc (idx := 134) (k := 5) (by decide +kernel) hc
theorem k121_57 : qx sc D 121 57 [l0, vi x, l2] st u bb σ Q ↔ qx sc D 121 58 [l0, vi x, l2] (vi x :: st) u bb σ Q := r_iload_n (k := 1) (by decide +kernel) rfl
theorem k121_58 : qx sc D 121 58 ls (vi i :: vr a :: st) u bb σ Q ↔ (q_ty a = 0 ∧ 0 ≤ i ∧ i < q_ln a) ∧ qx sc D 121 59 ls (vi (σ a i) :: st) u bb σ Q := r_iald (by decide +kernel)
theorem k121_59 : qx sc D 121 59 ls [vi x] (1, 6) bb σ Q ↔ Q (.inl (some (vi x))) bb σ := r_ret (by decide +kernel)
theorem k121_60 : qx sc D 121 60 [vr a, l1, l2] st u bb σ Q ↔ qx sc D 121 61 [vr a, l1, l2] (vr a :: st) u bb σ Q := r_aload_n (k := 0) (by decide +kernel) rfl
theorem k121_61 : qx sc D 121 61 ls (vr 0 :: st) u bb σ Q ↔ 0 ≤ σ 0 11 ∧ qx sc D 121 64 ls (vr (σ 0 11).toNat :: st) u bb σ Q := r_getM (idx := 90) (c := 14) (k := 11) (by decide +kernel)
theorem k121_64 (hc : q_C c) : qx sc D 121 64 ls (vr c :: st) u bb σ Q ↔ qx sc D 121 67 ls (vr (c + 7) :: st) u bb σ Q := r_getRc (idx := 137) (k := 9) (by decide +kernel) hc
theorem k121_67 : qx sc D 121 67 [l0, vi x, l2] st u bb σ Q ↔ qx sc D 121 68 [l0, vi x, l2] (vi x :: st) u bb σ Q := r_iload_n (k := 1) (by decide +kernel) rfl
theorem k121_68 : qx sc D 121 68 ls (vi i :: vr a :: st) u bb σ Q ↔ (q_ty a = 0 ∧ 0 ≤ i ∧ i < q_ln a) ∧ qx sc D 121 69 ls (vi (σ a i) :: st) u bb σ Q := r_iald (by decide +kernel)
theorem k121_69 : qx sc D 121 69 ls [vi x] (1, 6) bb σ Q ↔ Q (.inl (some (vi x))) bb σ := r_ret (by decide +kernel)
theorem k121_70 : qx sc D 121 70 [vr a, l1, l2] st u bb σ Q ↔ qx sc D 121 71 [vr a, l1, l2] (vr a :: st) u bb σ Q := r_aload_n (k := 0) (by decide +kernel) rfl
theorem k121_71 : qx sc D 121 71 ls (vr 0 :: st) u bb σ Q ↔ 0 ≤ σ 0 11 ∧ qx sc D 121 74 ls (vr (σ 0 11).toNat :: st) u bb σ Q := r_getM (idx := 90) (c := 14) (k := 11) (by decide +kernel)
theorem k121_74 (hc : q_C c) : qx sc D 121 74 ls (vr c :: st) u bb σ Q ↔ qx sc D 121 77 ls (vr (c + 8) :: st) u bb σ Q := r_getRc (idx := 140) (k := 10) (by decide +kernel) hc
theorem k121_77 : qx sc D 121 77 [l0, vi x, l2] st u bb σ Q ↔ qx sc D 121 78 [l0, vi x, l2] (vi x :: st) u bb σ Q := r_iload_n (k := 1) (by decide +kernel) rfl
theorem k121_78 : qx sc D 121 78 ls (vi i :: vr a :: st) u bb σ Q ↔ (q_ty a = 0 ∧ 0 ≤ i ∧ i < q_ln a) ∧ qx sc D 121 79 ls (vi (σ a i) :: st) u bb σ Q := r_iald (by decide +kernel)
theorem k121_79 : qx sc D 121 79 ls [vi x] (1, 6) bb σ Q ↔ Q (.inl (some (vi x))) bb σ := r_ret (by decide +kernel)
theorem k121_80 : qx sc D 121 80 [vr a, l1, l2] st u bb σ Q ↔ qx sc D 121 81 [vr a, l1, l2] (vr a :: st) u bb σ Q := r_aload_n (k := 0) (by decide +kernel) rfl
theorem k121_81 : qx sc D 121 81 ls (vr 0 :: st) u bb σ Q ↔ 0 ≤ σ 0 11 ∧ qx sc D 121 84 ls (vr (σ 0 11).toNat :: st) u bb σ Q := r_getM (idx := 90) (c := 14) (k := 11) (by decide +kernel)
theorem k121_84 (hc : q_C c) : qx sc D 121 84 ls (vr c :: st) u bb σ Q ↔ qx sc D 121 87 ls (vr (c + 9) :: st) u bb σ Q := r_getRc (idx := 143) (k := 11) (by decide +kernel) hc
theorem k121_87 : qx sc D 121 87 [l0, vi x, l2] st u bb σ Q ↔ qx sc D 121 88 [l0, vi x, l2] (vi x :: st) u bb σ Q := r_iload_n (k := 1) (by decide +kernel) rfl
theorem k121_88 : qx sc D 121 88 ls (vi i :: vr a :: st) u bb σ Q ↔ (q_ty a = 0 ∧ 0 ≤ i ∧ i < q_ln a) ∧ qx sc D 121 89 ls (vi (σ a i) :: st) u bb σ Q := r_iald (by decide +kernel)
theorem k121_89 : qx sc D 121 89 ls [vi x] (1, 6) bb σ Q ↔ Q (.inl (some (vi x))) bb σ := r_ret (by decide +kernel)
theorem k121_90 : qx sc D 121 90 ls [] (1, 6) bb σ Q ↔ Q (.inr 2) false σ := r_throw (idx := 146) (by decide +kernel)
-- 122: RowProver.tapeNumber(I)V
theorem k122_0 : qx sc D 122 0 ls st u bb σ Q ↔ qx sc D 122 2 ls (vi 24 :: st) u bb σ Q := r_bipush (by decide +kernel)
theorem k122_2 : qx sc D 122 2 [l0, l1, l2] (vi x :: st) u bb σ Q ↔ qx sc D 122 3 [l0, l1, vi x] st u bb σ Q := r_istore_n (k := 2) (by decide +kernel) (Nat.le_of_ble_eq_true rfl)
theorem k122_3 : qx sc D 122 3 [l0, l1, vi x] st u bb σ Q ↔ qx sc D 122 4 [l0, l1, vi x] (vi x :: st) u bb σ Q := r_iload_n (k := 2) (by decide +kernel) rfl
theorem k122_4 : qx sc D 122 4 ls (vi x :: st) u bb σ Q ↔ (x < 0 → qx sc D 122 39 ls st u bb σ Q) ∧ (¬ (x < 0) → qx sc D 122 7 ls st u bb σ Q) := r_if_lt (off := 35) (t := 39) (by decide +kernel)
theorem k122_7 : qx sc D 122 7 [vr a, l1, l2] st u bb σ Q ↔ qx sc D 122 8 [vr a, l1, l2] (vr a :: st) u bb σ Q := r_aload_n (k := 0) (by decide +kernel) rfl
theorem k122_8 : qx sc D 122 8 ls (vr 0 :: st) u bb σ Q ↔ qx sc D 122 11 ls (vr 1 :: st) u bb σ Q := r_getR (idx := 9) (c := 14) (k := 0) (by decide +kernel)
theorem k122_11 : qx sc D 122 11 [vr a, l1, l2] st u bb σ Q ↔ qx sc D 122 12 [vr a, l1, l2] (vr a :: st) u bb σ Q := r_aload_n (k := 0) (by decide +kernel) rfl
theorem k122_12 : qx sc D 122 12 ls (vr 0 :: st) u bb σ Q ↔ qx sc D 122 15 ls (vi (σ 0 13) :: st) u bb σ Q := r_getI (idx := 104) (c := 14) (k := 13) (by decide +kernel)
theorem k122_15 : qx sc D 122 15 [l0, vi x, l2] st u bb σ Q ↔ qx sc D 122 16 [l0, vi x, l2] (vi x :: st) u bb σ Q := r_iload_n (k := 1) (by decide +kernel) rfl
theorem k122_16 : qx sc D 122 16 [l0, l1, vi x] st u bb σ Q ↔ qx sc D 122 17 [l0, l1, vi x] (vi x :: st) u bb σ Q := r_iload_n (k := 2) (by decide +kernel) rfl
theorem k122_17 : qx sc D 122 17 ls (vi b' :: vi a' :: st) u bb σ Q ↔ qx sc D 122 18 ls (vi ((q_I a').toUInt32 >>> ((q_I b').toUInt32 &&& Int32.toUInt32 31)).toInt32.toInt :: st) u bb σ Q := r_iushr (by decide +kernel)
theorem k122_18 : qx sc D 122 18 ls st u bb σ Q ↔ qx sc D 122 21 ls (vi 255 :: st) u bb σ Q := r_sipush (by decide +kernel)
theorem k122_21 : qx sc D 122 21 ls (vi b' :: vi a' :: st) u bb σ Q ↔ qx sc D 122 22 ls (vi (q_I a' &&& q_I b').toInt :: st) u bb σ Q := r_iand (by decide +kernel)
theorem k122_22 : qx sc D 122 22 ls (vi x :: vi i :: vr a :: st) u bb σ Q ↔ (q_ty a = 0 ∧ 0 ≤ i ∧ i < q_ln a) ∧ qx sc D 122 23 ls st u bb (q_up σ a i x) Q := r_iast (by decide +kernel)
theorem k122_23 : qx sc D 122 23 [vr a, l1, l2] st u bb σ Q ↔ qx sc D 122 24 [vr a, l1, l2] (vr a :: st) u bb σ Q := r_aload_n (k := 0) (by decide +kernel) rfl
theorem k122_24 : qx sc D 122 24 ls (vr a :: st) u bb σ Q ↔ qx sc D 122 25 ls (vr a :: vr a :: st) u bb σ Q := r_dupA (by decide +kernel)
theorem k122_25 : qx sc D 122 25 ls (vr 0 :: st) u bb σ Q ↔ qx sc D 122 28 ls (vi (σ 0 13) :: st) u bb σ Q := r_getI (idx := 104) (c := 14) (k := 13) (by decide +kernel)
theorem k122_28 : qx sc D 122 28 ls st u bb σ Q ↔ qx sc D 122 29 ls (vi 1 :: st) u bb σ Q := r_iconst (by decide +kernel)
theorem k122_29 : qx sc D 122 29 ls (vi b' :: vi a' :: st) u bb σ Q ↔ q_R (a' + b') ∧ qx sc D 122 30 ls (vi (a' + b') :: st) u bb σ Q := r_iadd (by decide +kernel)
theorem k122_30 : qx sc D 122 30 ls (vi x :: vr 0 :: st) u bb σ Q ↔ qx sc D 122 33 ls st u bb (q_up σ 0 13 x) Q := r_putI (idx := 104) (c := 14) (k := 13) (by decide +kernel)
theorem k122_33 : qx sc D 122 33 [l0, l1, vi x] st u bb σ Q ↔ q_R (x + (-8)) ∧ qx sc D 122 36 [l0, l1, vi (x + (-8))] st u bb σ Q := r_iinc (k := 2) (n := (-8)) (by decide +kernel) rfl
theorem k122_36 : qx sc D 122 36 ls st u bb σ Q ↔ qx sc D 122 3 ls st u bb σ Q := r_goto (off := (-33)) (by decide +kernel)
theorem k122_39 : qx sc D 122 39 ls [] (0, 0) bb σ Q ↔ Q (.inl none) bb σ := r_retV (by decide +kernel)
-- 123: RowProver.version(II)I
theorem k123_0 : qx sc D 123 0 [vr a, l1, l2] st u bb σ Q ↔ qx sc D 123 1 [vr a, l1, l2] (vr a :: st) u bb σ Q := r_aload_n (k := 0) (by decide +kernel) rfl
theorem k123_1 : qx sc D 123 1 [l0, vi x, l2] st u bb σ Q ↔ qx sc D 123 2 [l0, vi x, l2] (vi x :: st) u bb σ Q := r_iload_n (k := 1) (by decide +kernel) rfl
theorem k123_2 : qx sc (D + 1) 123 2 ls [vi x0, vr 0] (0, 0) bb σ Q ↔ qx sc D 114 0 [vr 0, vi x0] [] (0, 0) bb σ (q_kn sc (D + 1) 123 5 ls [] (1, 6) Q) := r_callv (idx := 151) (n := 1) (m := 2) (by decide +kernel) rfl (Nat.le_of_ble_eq_true rfl) ⟨Nat.le_of_ble_eq_true rfl, Nat.le_of_ble_eq_true rfl, rfl⟩ rfl
theorem k123_5 : qx sc D 123 5 [l0, l1, vi x] st u bb σ Q ↔ qx sc D 123 6 [l0, l1, vi x] (vi x :: st) u bb σ Q := r_iload_n (k := 2) (by decide +kernel) rfl
theorem k123_6 : qx sc D 123 6 ls (vi x :: st) u bb σ Q ↔ qx sc D 123 (if x < 0 ∨ 4 < x then 90 else [40, 50, 60, 70, 80].getD (x - 0).toNat 0) ls st u bb σ Q := r_tsw (d := 84) (lo := 0) (hi := 4) (offs := #[34, 44, 54, 64, 74]) (dt := 90) (tg := [40, 50, 60, 70, 80]) (by decide +kernel)
theorem k123_40 : qx sc D 123 40 [vr a, l1, l2] st u bb σ Q ↔ qx sc D 123 41 [vr a, l1, l2] (vr a :: st) u bb σ Q := r_aload_n (k := 0) (by decide +kernel) rfl
theorem k123_41 : qx sc D 123 41 ls (vr 0 :: st) u bb σ Q ↔ qx sc D 123 44 ls (vr 9 :: st) u bb σ Q := r_getR (idx := 31) (c := 14) (k := 4) (by decide +kernel)
theorem k123_44 : qx sc D 123 44 ls (vr 9 :: st) u bb σ Q ↔ qx sc D 123 47 ls (vr 10 :: st) u bb σ Q := r_getR (idx := 154) (c := 13) (k := 1) (by decide +kernel)
theorem k123_47 : qx sc D 123 47 [l0, vi x, l2] st u bb σ Q ↔ qx sc D 123 48 [l0, vi x, l2] (vi x :: st) u bb σ Q := r_iload_n (k := 1) (by decide +kernel) rfl
theorem k123_48 : qx sc D 123 48 ls (vi i :: vr a :: st) u bb σ Q ↔ (q_ty a = 0 ∧ 0 ≤ i ∧ i < q_ln a) ∧ qx sc D 123 49 ls (vi (σ a i) :: st) u bb σ Q := r_iald (by decide +kernel)
theorem k123_49 : qx sc D 123 49 ls [vi x] (1, 6) bb σ Q ↔ Q (.inl (some (vi x))) bb σ := r_ret (by decide +kernel)
theorem k123_50 : qx sc D 123 50 [vr a, l1, l2] st u bb σ Q ↔ qx sc D 123 51 [vr a, l1, l2] (vr a :: st) u bb σ Q := r_aload_n (k := 0) (by decide +kernel) rfl
theorem k123_51 : qx sc D 123 51 ls (vr 0 :: st) u bb σ Q ↔ qx sc D 123 54 ls (vr 9 :: st) u bb σ Q := r_getR (idx := 31) (c := 14) (k := 4) (by decide +kernel)
theorem k123_54 : qx sc D 123 54 ls (vr 9 :: st) u bb σ Q ↔ qx sc D 123 57 ls (vr 11 :: st) u bb σ Q := r_getR (idx := 155) (c := 13) (k := 2) (by decide +kernel)
theorem k123_57 : qx sc D 123 57 [l0, vi x, l2] st u bb σ Q ↔ qx sc D 123 58 [l0, vi x, l2] (vi x :: st) u bb σ Q := r_iload_n (k := 1) (by decide +kernel) rfl
theorem k123_58 : qx sc D 123 58 ls (vi i :: vr a :: st) u bb σ Q ↔ (q_ty a = 0 ∧ 0 ≤ i ∧ i < q_ln a) ∧ qx sc D 123 59 ls (vi (σ a i) :: st) u bb σ Q := r_iald (by decide +kernel)
theorem k123_59 : qx sc D 123 59 ls [vi x] (1, 6) bb σ Q ↔ Q (.inl (some (vi x))) bb σ := r_ret (by decide +kernel)
theorem k123_60 : qx sc D 123 60 [vr a, l1, l2] st u bb σ Q ↔ qx sc D 123 61 [vr a, l1, l2] (vr a :: st) u bb σ Q := r_aload_n (k := 0) (by decide +kernel) rfl
theorem k123_61 : qx sc D 123 61 ls (vr 0 :: st) u bb σ Q ↔ qx sc D 123 64 ls (vr 9 :: st) u bb σ Q := r_getR (idx := 31) (c := 14) (k := 4) (by decide +kernel)
theorem k123_64 : qx sc D 123 64 ls (vr 9 :: st) u bb σ Q ↔ qx sc D 123 67 ls (vr 12 :: st) u bb σ Q := r_getR (idx := 158) (c := 13) (k := 3) (by decide +kernel)
theorem k123_67 : qx sc D 123 67 [l0, vi x, l2] st u bb σ Q ↔ qx sc D 123 68 [l0, vi x, l2] (vi x :: st) u bb σ Q := r_iload_n (k := 1) (by decide +kernel) rfl
theorem k123_68 : qx sc D 123 68 ls (vi i :: vr a :: st) u bb σ Q ↔ (q_ty a = 0 ∧ 0 ≤ i ∧ i < q_ln a) ∧ qx sc D 123 69 ls (vi (σ a i) :: st) u bb σ Q := r_iald (by decide +kernel)
theorem k123_69 : qx sc D 123 69 ls [vi x] (1, 6) bb σ Q ↔ Q (.inl (some (vi x))) bb σ := r_ret (by decide +kernel)
theorem k123_70 : qx sc D 123 70 [vr a, l1, l2] st u bb σ Q ↔ qx sc D 123 71 [vr a, l1, l2] (vr a :: st) u bb σ Q := r_aload_n (k := 0) (by decide +kernel) rfl
theorem k123_71 : qx sc D 123 71 ls (vr 0 :: st) u bb σ Q ↔ qx sc D 123 74 ls (vr 9 :: st) u bb σ Q := r_getR (idx := 31) (c := 14) (k := 4) (by decide +kernel)
theorem k123_74 : qx sc D 123 74 ls (vr 9 :: st) u bb σ Q ↔ qx sc D 123 77 ls (vr 13 :: st) u bb σ Q := r_getR (idx := 161) (c := 13) (k := 4) (by decide +kernel)
theorem k123_77 : qx sc D 123 77 [l0, vi x, l2] st u bb σ Q ↔ qx sc D 123 78 [l0, vi x, l2] (vi x :: st) u bb σ Q := r_iload_n (k := 1) (by decide +kernel) rfl
theorem k123_78 : qx sc D 123 78 ls (vi i :: vr a :: st) u bb σ Q ↔ (q_ty a = 0 ∧ 0 ≤ i ∧ i < q_ln a) ∧ qx sc D 123 79 ls (vi (σ a i) :: st) u bb σ Q := r_iald (by decide +kernel)
theorem k123_79 : qx sc D 123 79 ls [vi x] (1, 6) bb σ Q ↔ Q (.inl (some (vi x))) bb σ := r_ret (by decide +kernel)
theorem k123_80 : qx sc D 123 80 [vr a, l1, l2] st u bb σ Q ↔ qx sc D 123 81 [vr a, l1, l2] (vr a :: st) u bb σ Q := r_aload_n (k := 0) (by decide +kernel) rfl
theorem k123_81 : qx sc D 123 81 ls (vr 0 :: st) u bb σ Q ↔ qx sc D 123 84 ls (vr 9 :: st) u bb σ Q := r_getR (idx := 31) (c := 14) (k := 4) (by decide +kernel)
theorem k123_84 : qx sc D 123 84 ls (vr 9 :: st) u bb σ Q ↔ qx sc D 123 87 ls (vr 14 :: st) u bb σ Q := r_getR (idx := 164) (c := 13) (k := 5) (by decide +kernel)
theorem k123_87 : qx sc D 123 87 [l0, vi x, l2] st u bb σ Q ↔ qx sc D 123 88 [l0, vi x, l2] (vi x :: st) u bb σ Q := r_iload_n (k := 1) (by decide +kernel) rfl
theorem k123_88 : qx sc D 123 88 ls (vi i :: vr a :: st) u bb σ Q ↔ (q_ty a = 0 ∧ 0 ≤ i ∧ i < q_ln a) ∧ qx sc D 123 89 ls (vi (σ a i) :: st) u bb σ Q := r_iald (by decide +kernel)
theorem k123_89 : qx sc D 123 89 ls [vi x] (1, 6) bb σ Q ↔ Q (.inl (some (vi x))) bb σ := r_ret (by decide +kernel)
theorem k123_90 : qx sc D 123 90 ls [] (1, 6) bb σ Q ↔ Q (.inr 2) false σ := r_throw (idx := 146) (by decide +kernel)
-- 124: RowProver.was(II)I
theorem k124_0 : qx sc D 124 0 [vr a, l1, l2] st u bb σ Q ↔ qx sc D 124 1 [vr a, l1, l2] (vr a :: st) u bb σ Q := r_aload_n (k := 0) (by decide +kernel) rfl
theorem k124_1 : qx sc D 124 1 [l0, l1, vi x] st u bb σ Q ↔ qx sc D 124 2 [l0, l1, vi x] (vi x :: st) u bb σ Q := r_iload_n (k := 2) (by decide +kernel) rfl
theorem k124_2 : qx sc (D + 1) 124 2 ls [vi x0, vr 0] (0, 0) bb σ Q ↔ qx sc D 114 0 [vr 0, vi x0] [] (0, 0) bb σ (q_kn sc (D + 1) 124 5 ls [] (1, 6) Q) := r_callv (idx := 151) (n := 1) (m := 2) (by decide +kernel) rfl (Nat.le_of_ble_eq_true rfl) ⟨Nat.le_of_ble_eq_true rfl, Nat.le_of_ble_eq_true rfl, rfl⟩ rfl
theorem k124_5 : qx sc D 124 5 [vr a, l1, l2] st u bb σ Q ↔ qx sc D 124 6 [vr a, l1, l2] (vr a :: st) u bb σ Q := r_aload_n (k := 0) (by decide +kernel) rfl
theorem k124_6 : qx sc D 124 6 [l0, vi x, l2] st u bb σ Q ↔ qx sc D 124 7 [l0, vi x, l2] (vi x :: st) u bb σ Q := r_iload_n (k := 1) (by decide +kernel) rfl
theorem k124_7 : qx sc (D + 1) 124 7 ls [vi x0, vr 0] (1, 6) bb σ Q ↔ qx sc D 108 0 [vr 0, vi x0] [] (0, 0) bb σ (q_kn sc (D + 1) 124 10 ls [] (2, 12) Q) := r_callv (idx := 249) (n := 1) (m := 2) (by decide +kernel) rfl (Nat.le_of_ble_eq_true rfl) ⟨Nat.le_of_ble_eq_true rfl, Nat.le_of_ble_eq_true rfl, rfl⟩ rfl
theorem k124_10 : qx sc D 124 10 [vr a, l1, l2] st u bb σ Q ↔ qx sc D 124 11 [vr a, l1, l2] (vr a :: st) u bb σ Q := r_aload_n (k := 0) (by decide +kernel) rfl
theorem k124_11 : qx sc D 124 11 ls (vr 0 :: st) u bb σ Q ↔ qx sc D 124 14 ls (vr 77 :: st) u bb σ Q := r_getR (idx := 83) (c := 14) (k := 10) (by decide +kernel)
theorem k124_14 : qx sc D 124 14 [vr a, l1, l2] st u bb σ Q ↔ qx sc D 124 15 [vr a, l1, l2] (vr a :: st) u bb σ Q := r_aload_n (k := 0) (by decide +kernel) rfl
theorem k124_15 : qx sc D 124 15 ls (vr 0 :: st) u bb σ Q ↔ 0 ≤ σ 0 11 ∧ qx sc D 124 18 ls (vr (σ 0 11).toNat :: st) u bb σ Q := r_getM (idx := 90) (c := 14) (k := 11) (by decide +kernel)
theorem k124_18 : qx sc D 124 18 [l0, vi x, l2] st u bb σ Q ↔ qx sc D 124 19 [l0, vi x, l2] (vi x :: st) u bb σ Q := r_iload_n (k := 1) (by decide +kernel) rfl
theorem k124_19 : qx sc (D + 1) 124 19 ls [vi x1, vr a0, vr 77] (2, 12) bb σ Q ↔ qx sc D 72 0 [vr 77, vr a0, vi x1, vn, vn] [] (0, 0) bb σ (q_kn sc (D + 1) 124 22 ls [] (2, 12) Q) := r_callv (idx := 254) (n := 2) (m := 5) (by decide +kernel) rfl (Nat.le_of_ble_eq_true rfl) ⟨Nat.le_of_ble_eq_true rfl, Nat.le_of_ble_eq_true rfl, rfl⟩ rfl
theorem k124_22 : qx sc D 124 22 [vr a, l1, l2] st u bb σ Q ↔ qx sc D 124 23 [vr a, l1, l2] (vr a :: st) u bb σ Q := r_aload_n (k := 0) (by decide +kernel) rfl
theorem k124_23 : qx sc D 124 23 ls (vr 0 :: st) u bb σ Q ↔ qx sc D 124 26 ls (vr 77 :: st) u bb σ Q := r_getR (idx := 83) (c := 14) (k := 10) (by decide +kernel)
theorem k124_26 : qx sc D 124 26 ls (vr 77 :: st) u bb σ Q ↔ qx sc D 124 29 ls (vr 80 :: st) u bb σ Q := r_getR (idx := 274) (c := 10) (k := 10) (by decide +kernel)
theorem k124_29 : qx sc D 124 29 [l0, l1, vi x] st u bb σ Q ↔ qx sc D 124 30 [l0, l1, vi x] (vi x :: st) u bb σ Q := r_iload_n (k := 2) (by decide +kernel) rfl
theorem k124_30 : qx sc D 124 30 ls (vi i :: vr a :: st) u bb σ Q ↔ (q_ty a = 0 ∧ 0 ≤ i ∧ i < q_ln a) ∧ qx sc D 124 31 ls (vi (σ a i) :: st) u bb σ Q := r_iald (by decide +kernel)
theorem k124_31 : qx sc D 124 31 ls [vi x] (2, 12) bb σ Q ↔ Q (.inl (some (vi x))) bb σ := r_ret (by decide +kernel)
-- 249: java/util/Arrays.fill([II)V
theorem k249_0 : qx sc D 249 0 ls st u bb σ Q ↔ qx sc D 249 1 ls (vi 0 :: st) u bb σ Q := r_iconst (by decide +kernel)
theorem k249_1 : qx sc D 249 1 [l0, l1, l2, l3] (vi x :: st) u bb σ Q ↔ qx sc D 249 2 [l0, l1, vi x, l3] st u bb σ Q := r_istore_n (k := 2) (by decide +kernel) (Nat.le_of_ble_eq_true rfl)
theorem k249_2 : qx sc D 249 2 [vr a, l1, l2, l3] st u bb σ Q ↔ qx sc D 249 3 [vr a, l1, l2, l3] (vr a :: st) u bb σ Q := r_aload_n (k := 0) (by decide +kernel) rfl
theorem k249_3 : qx sc D 249 3 ls (vr a :: st) u bb σ Q ↔ q_ty a < 5 ∧ qx sc D 249 4 ls (vi (q_ln a) :: st) u bb σ Q := r_alen (by decide +kernel)
theorem k249_4 : qx sc D 249 4 [l0, l1, l2, l3] (vi x :: st) u bb σ Q ↔ qx sc D 249 5 [l0, l1, l2, vi x] st u bb σ Q := r_istore_n (k := 3) (by decide +kernel) (Nat.le_of_ble_eq_true rfl)
theorem k249_5 : qx sc D 249 5 [l0, l1, vi x, l3] st u bb σ Q ↔ qx sc D 249 6 [l0, l1, vi x, l3] (vi x :: st) u bb σ Q := r_iload_n (k := 2) (by decide +kernel) rfl
theorem k249_6 : qx sc D 249 6 [l0, l1, l2, vi x] st u bb σ Q ↔ qx sc D 249 7 [l0, l1, l2, vi x] (vi x :: st) u bb σ Q := r_iload_n (k := 3) (by decide +kernel) rfl
theorem k249_7 : qx sc D 249 7 ls (vi b' :: vi a' :: st) u bb σ Q ↔ (a' < b' → qx sc D 249 10 ls st u bb σ Q) ∧ (¬ (a' < b') → qx sc D 249 20 ls st u bb σ Q) := r_ic_ge (off := 13) (t := 20) (by decide +kernel)
theorem k249_10 : qx sc D 249 10 [vr a, l1, l2, l3] st u bb σ Q ↔ qx sc D 249 11 [vr a, l1, l2, l3] (vr a :: st) u bb σ Q := r_aload_n (k := 0) (by decide +kernel) rfl
theorem k249_11 : qx sc D 249 11 [l0, l1, vi x, l3] st u bb σ Q ↔ qx sc D 249 12 [l0, l1, vi x, l3] (vi x :: st) u bb σ Q := r_iload_n (k := 2) (by decide +kernel) rfl
theorem k249_12 : qx sc D 249 12 [l0, vi x, l2, l3] st u bb σ Q ↔ qx sc D 249 13 [l0, vi x, l2, l3] (vi x :: st) u bb σ Q := r_iload_n (k := 1) (by decide +kernel) rfl
theorem k249_13 : qx sc D 249 13 ls (vi x :: vi i :: vr a :: st) u bb σ Q ↔ (q_ty a = 0 ∧ 0 ≤ i ∧ i < q_ln a) ∧ qx sc D 249 14 ls st u bb (q_up σ a i x) Q := r_iast (by decide +kernel)
theorem k249_14 : qx sc D 249 14 [l0, l1, vi x, l3] st u bb σ Q ↔ q_R (x + 1) ∧ qx sc D 249 17 [l0, l1, vi (x + 1), l3] st u bb σ Q := r_iinc (k := 2) (n := 1) (by decide +kernel) rfl
theorem k249_17 : qx sc D 249 17 ls st u bb σ Q ↔ qx sc D 249 5 ls st u bb σ Q := r_goto (off := (-12)) (by decide +kernel)
theorem k249_20 : qx sc D 249 20 ls [] (0, 0) bb σ Q ↔ Q (.inl none) bb σ := r_retV (by decide +kernel)
-- 250: java/util/Arrays.fill([IIII)V
theorem k250_0 : qx sc D 250 0 [vr a, l1, l2, l3, l4] st u bb σ Q ↔ qx sc D 250 1 [vr a, l1, l2, l3, l4] (vr a :: st) u bb σ Q := r_aload_n (k := 0) (by decide +kernel) rfl
theorem k250_1 : qx sc D 250 1 ls (vr a :: st) u bb σ Q ↔ q_ty a < 5 ∧ qx sc D 250 2 ls (vi (q_ln a) :: st) u bb σ Q := r_alen (by decide +kernel)
theorem k250_2 : qx sc D 250 2 [l0, vi x, l2, l3, l4] st u bb σ Q ↔ qx sc D 250 3 [l0, vi x, l2, l3, l4] (vi x :: st) u bb σ Q := r_iload_n (k := 1) (by decide +kernel) rfl
theorem k250_3 : qx sc D 250 3 [l0, l1, vi x, l3, l4] st u bb σ Q ↔ qx sc D 250 4 [l0, l1, vi x, l3, l4] (vi x :: st) u bb σ Q := r_iload_n (k := 2) (by decide +kernel) rfl
theorem k250_4 : qx sc (D + 1) 250 4 ls [vi x2, vi x1, vi x0] (0, 0) bb σ Q ↔ qx sc D 251 0 [vi x0, vi x1, vi x2] [] (0, 0) bb σ (q_kn sc (D + 1) 250 7 ls [] (0, 0) Q) := r_calls (idx := 13) (n := 3) (m := 3) (by decide +kernel) rfl (Nat.le_of_ble_eq_true rfl) ⟨Nat.le_of_ble_eq_true rfl, Nat.le_of_ble_eq_true rfl, rfl⟩ rfl
theorem k250_7 : qx sc D 250 7 [l0, vi x, l2, l3, l4] st u bb σ Q ↔ qx sc D 250 8 [l0, vi x, l2, l3, l4] (vi x :: st) u bb σ Q := r_iload_n (k := 1) (by decide +kernel) rfl
theorem k250_8 : qx sc D 250 8 [l0, l1, l2, l3, l4] (vi x :: st) u bb σ Q ↔ qx sc D 250 10 [l0, l1, l2, l3, vi x] st u bb σ Q := r_istore (k := 4) (by decide +kernel) (Nat.le_of_ble_eq_true rfl)
theorem k250_10 : qx sc D 250 10 [l0, l1, l2, l3, vi x] st u bb σ Q ↔ qx sc D 250 12 [l0, l1, l2, l3, vi x] (vi x :: st) u bb σ Q := r_iload (k := 4) (by decide +kernel) rfl
theorem k250_12 : qx sc D 250 12 [l0, l1, vi x, l3, l4] st u bb σ Q ↔ qx sc D 250 13 [l0, l1, vi x, l3, l4] (vi x :: st) u bb σ Q := r_iload_n (k := 2) (by decide +kernel) rfl
theorem k250_13 : qx sc D 250 13 ls (vi b' :: vi a' :: st) u bb σ Q ↔ (a' < b' → qx sc D 250 16 ls st u bb σ Q) ∧ (¬ (a' < b') → qx sc D 250 27 ls st u bb σ Q) := r_ic_ge (off := 14) (t := 27) (by decide +kernel)
theorem k250_16 : qx sc D 250 16 [vr a, l1, l2, l3, l4] st u bb σ Q ↔ qx sc D 250 17 [vr a, l1, l2, l3, l4] (vr a :: st) u bb σ Q := r_aload_n (k := 0) (by decide +kernel) rfl
theorem k250_17 : qx sc D 250 17 [l0, l1, l2, l3, vi x] st u bb σ Q ↔ qx sc D 250 19 [l0, l1, l2, l3, vi x] (vi x :: st) u bb σ Q := r_iload (k := 4) (by decide +kernel) rfl
theorem k250_19 : qx sc D 250 19 [l0, l1, l2, vi x, l4] st u bb σ Q ↔ qx sc D 250 20 [l0, l1, l2, vi x, l4] (vi x :: st) u bb σ Q := r_iload_n (k := 3) (by decide +kernel) rfl
theorem k250_20 : qx sc D 250 20 ls (vi x :: vi i :: vr a :: st) u bb σ Q ↔ (q_ty a = 0 ∧ 0 ≤ i ∧ i < q_ln a) ∧ qx sc D 250 21 ls st u bb (q_up σ a i x) Q := r_iast (by decide +kernel)
theorem k250_21 : qx sc D 250 21 [l0, l1, l2, l3, vi x] st u bb σ Q ↔ q_R (x + 1) ∧ qx sc D 250 24 [l0, l1, l2, l3, vi (x + 1)] st u bb σ Q := r_iinc (k := 4) (n := 1) (by decide +kernel) rfl
theorem k250_24 : qx sc D 250 24 ls st u bb σ Q ↔ qx sc D 250 10 ls st u bb σ Q := r_goto (off := (-14)) (by decide +kernel)
theorem k250_27 : qx sc D 250 27 ls [] (0, 0) bb σ Q ↔ Q (.inl none) bb σ := r_retV (by decide +kernel)
-- 251: java/util/Arrays.rangeCheck(III)V
theorem k251_0 : qx sc D 251 0 [l0, vi x, l2] st u bb σ Q ↔ qx sc D 251 1 [l0, vi x, l2] (vi x :: st) u bb σ Q := r_iload_n (k := 1) (by decide +kernel) rfl
theorem k251_1 : qx sc D 251 1 [l0, l1, vi x] st u bb σ Q ↔ qx sc D 251 2 [l0, l1, vi x] (vi x :: st) u bb σ Q := r_iload_n (k := 2) (by decide +kernel) rfl
theorem k251_2 : qx sc D 251 2 ls (vi b' :: vi a' :: st) u bb σ Q ↔ (b' < a' → qx sc D 251 5 ls st u bb σ Q) ∧ (¬ (b' < a') → qx sc D 251 46 ls st u bb σ Q) := r_ic_le (off := 44) (t := 46) (by decide +kernel)
-- new at k251_5
theorem k251_46 : qx sc D 251 46 [l0, vi x, l2] st u bb σ Q ↔ qx sc D 251 47 [l0, vi x, l2] (vi x :: st) u bb σ Q := r_iload_n (k := 1) (by decide +kernel) rfl
theorem k251_47 : qx sc D 251 47 ls (vi x :: st) u bb σ Q ↔ (x < 0 → qx sc D 251 50 ls st u bb σ Q) ∧ (¬ (x < 0) → qx sc D 251 59 ls st u bb σ Q) := r_if_ge (off := 12) (t := 59) (by decide +kernel)
-- new at k251_50
theorem k251_59 : qx sc D 251 59 [l0, l1, vi x] st u bb σ Q ↔ qx sc D 251 60 [l0, l1, vi x] (vi x :: st) u bb σ Q := r_iload_n (k := 2) (by decide +kernel) rfl
theorem k251_60 : qx sc D 251 60 [vi x, l1, l2] st u bb σ Q ↔ qx sc D 251 61 [vi x, l1, l2] (vi x :: st) u bb σ Q := r_iload_n (k := 0) (by decide +kernel) rfl
theorem k251_61 : qx sc D 251 61 ls (vi b' :: vi a' :: st) u bb σ Q ↔ (b' < a' → qx sc D 251 64 ls st u bb σ Q) ∧ (¬ (b' < a') → qx sc D 251 73 ls st u bb σ Q) := r_ic_le (off := 12) (t := 73) (by decide +kernel)
-- new at k251_64
theorem k251_73 : qx sc D 251 73 ls [] (0, 0) bb σ Q ↔ Q (.inl none) bb σ := r_retV (by decide +kernel)
end K_30_kA
