section K_303_kD
variable {sc : Nat × (Nat → Int32)} {D : Nat} {ls st : List V2} {u : PU} {bb : Bool} {σ : St} {Q : QP} {x i a' b' x0 x1 x2 x3 x4 x5 x20 x21 x22 x23 x24 : Int} {a b c a0 a1 a2 a3 a4 a20 a21 a22 a23 : Nat} {l0 l1 l2 l3 l4 l5 l6 l7 l8 l9 l10 l11 l12 : V2}
-- 1: RowProver$Bounds.fromAhead([III)I
theorem k1_0 : qx sc D 1 0 [vr a, l1, l2, l3, l4] st u bb σ Q ↔ qx sc D 1 1 [vr a, l1, l2, l3, l4] (vr a :: st) u bb σ Q := r_aload_n (k := 0) (by decide +kernel) rfl
theorem k1_1 : qx sc D 1 1 ls (vr 55 :: st) u bb σ Q ↔ qx sc D 1 4 ls (vr 9 :: st) u bb σ Q := r_getR (idx := 19) (c := 3) (k := 0) (by decide +kernel)
theorem k1_4 : qx sc D 1 4 ls (vr 9 :: st) u bb σ Q ↔ qx sc D 1 7 ls (vr 13 :: st) u bb σ Q := r_getR (idx := 82) (c := 13) (k := 4) (by decide +kernel)
theorem k1_7 : qx sc D 1 7 [l0, l1, l2, vi x, l4] st u bb σ Q ↔ qx sc D 1 8 [l0, l1, l2, vi x, l4] (vi x :: st) u bb σ Q := r_iload_n (k := 3) (by decide +kernel) rfl
theorem k1_8 : qx sc D 1 8 ls (vi i :: vr a :: st) u bb σ Q ↔ (q_ty a = 0 ∧ 0 ≤ i ∧ i < q_ln a) ∧ qx sc D 1 9 ls (vi (σ a i) :: st) u bb σ Q := r_iald (by decide +kernel)
theorem k1_9 : qx sc D 1 9 [l0, l1, l2, l3, l4] (vi x :: st) u bb σ Q ↔ qx sc D 1 11 [l0, l1, l2, l3, vi x] st u bb σ Q := r_istore (k := 4) (by decide +kernel) (Nat.le_of_ble_eq_true rfl)
theorem k1_11 : qx sc D 1 11 [l0, l1, l2, l3, vi x] st u bb σ Q ↔ qx sc D 1 13 [l0, l1, l2, l3, vi x] (vi x :: st) u bb σ Q := r_iload (k := 4) (by decide +kernel) rfl
theorem k1_13 : qx sc D 1 13 ls st u bb σ Q ↔ qx sc D 1 14 ls (vi (-1) :: st) u bb σ Q := r_iconst (by decide +kernel)
theorem k1_14 : qx sc D 1 14 ls (vi b' :: vi a' :: st) u bb σ Q ↔ (a' = b' → qx sc D 1 17 ls st u bb σ Q) ∧ (¬ (a' = b') → qx sc D 1 20 ls st u bb σ Q) := r_ic_ne (off := 6) (t := 20) (by decide +kernel)
theorem k1_17 : qx sc D 1 17 ls st u bb σ Q ↔ qx sc D 1 19 ls (vi 99999 :: st) u bb σ Q := r_ldc (idx := 62) (v := 99999) (by decide +kernel)
theorem k1_19 : qx sc D 1 19 ls [vi x] (0, 0) bb σ Q ↔ Q (.inl (some (vi x))) bb σ := r_ret (by decide +kernel)
theorem k1_20 : qx sc D 1 20 [vr a, l1, l2, l3, l4] st u bb σ Q ↔ qx sc D 1 21 [vr a, l1, l2, l3, l4] (vr a :: st) u bb σ Q := r_aload_n (k := 0) (by decide +kernel) rfl
theorem k1_21 : qx sc D 1 21 [l0, vr a, l2, l3, l4] st u bb σ Q ↔ qx sc D 1 22 [l0, vr a, l2, l3, l4] (vr a :: st) u bb σ Q := r_aload_n (k := 1) (by decide +kernel) rfl
theorem k1_22 : qx sc D 1 22 [l0, l1, l2, l3, vi x] st u bb σ Q ↔ qx sc D 1 24 [l0, l1, l2, l3, vi x] (vi x :: st) u bb σ Q := r_iload (k := 4) (by decide +kernel) rfl
theorem k1_24 : qx sc D 1 24 ls (vi i :: vr a :: st) u bb σ Q ↔ (q_ty a = 0 ∧ 0 ≤ i ∧ i < q_ln a) ∧ qx sc D 1 25 ls (vi (σ a i) :: st) u bb σ Q := r_iald (by decide +kernel)
theorem k1_25 : qx sc D 1 25 [l0, l1, vi x, l3, l4] st u bb σ Q ↔ qx sc D 1 26 [l0, l1, vi x, l3, l4] (vi x :: st) u bb σ Q := r_iload_n (k := 2) (by decide +kernel) rfl
theorem k1_26 : qx sc D 1 26 ls st u bb σ Q ↔ qx sc D 1 27 ls (vi 3 :: st) u bb σ Q := r_iconst (by decide +kernel)
theorem k1_27 : qx sc D 1 27 ls (vi b' :: vi a' :: st) u bb σ Q ↔ (a' = b' → qx sc D 1 30 ls st u bb σ Q) ∧ (¬ (a' = b') → qx sc D 1 43 ls st u bb σ Q) := r_ic_ne (off := 16) (t := 43) (by decide +kernel)
theorem k1_30 : qx sc D 1 30 [vr a, l1, l2, l3, l4] st u bb σ Q ↔ qx sc D 1 31 [vr a, l1, l2, l3, l4] (vr a :: st) u bb σ Q := r_aload_n (k := 0) (by decide +kernel) rfl
theorem k1_31 : qx sc D 1 31 ls (vr 55 :: st) u bb σ Q ↔ qx sc D 1 34 ls (vr 9 :: st) u bb σ Q := r_getR (idx := 19) (c := 3) (k := 0) (by decide +kernel)
theorem k1_34 : qx sc D 1 34 ls (vr 9 :: st) u bb σ Q ↔ qx sc D 1 37 ls (vr 15 :: st) u bb σ Q := r_getR (idx := 63) (c := 13) (k := 6) (by decide +kernel)
theorem k1_37 : qx sc D 1 37 [l0, l1, l2, vi x, l4] st u bb σ Q ↔ qx sc D 1 38 [l0, l1, l2, vi x, l4] (vi x :: st) u bb σ Q := r_iload_n (k := 3) (by decide +kernel) rfl
theorem k1_38 : qx sc D 1 38 ls (vi i :: vr a :: st) u bb σ Q ↔ (q_ty a = 0 ∧ 0 ≤ i ∧ i < q_ln a) ∧ qx sc D 1 39 ls (vi (σ a i) :: st) u bb σ Q := r_iald (by decide +kernel)
theorem k1_39 : qx sc D 1 39 ls (vi a' :: st) u bb σ Q ↔ q_R (-a') ∧ qx sc D 1 40 ls (vi (-a') :: st) u bb σ Q := r_ineg (by decide +kernel)
theorem k1_40 : qx sc D 1 40 ls st u bb σ Q ↔ qx sc D 1 52 ls st u bb σ Q := r_goto (off := 12) (by decide +kernel)
theorem k1_43 : qx sc D 1 43 [vr a, l1, l2, l3, l4] st u bb σ Q ↔ qx sc D 1 44 [vr a, l1, l2, l3, l4] (vr a :: st) u bb σ Q := r_aload_n (k := 0) (by decide +kernel) rfl
theorem k1_44 : qx sc D 1 44 ls (vr 55 :: st) u bb σ Q ↔ qx sc D 1 47 ls (vr 9 :: st) u bb σ Q := r_getR (idx := 19) (c := 3) (k := 0) (by decide +kernel)
theorem k1_47 : qx sc D 1 47 ls (vr 9 :: st) u bb σ Q ↔ qx sc D 1 50 ls (vr 15 :: st) u bb σ Q := r_getR (idx := 63) (c := 13) (k := 6) (by decide +kernel)
theorem k1_50 : qx sc D 1 50 [l0, l1, l2, vi x, l4] st u bb σ Q ↔ qx sc D 1 51 [l0, l1, l2, vi x, l4] (vi x :: st) u bb σ Q := r_iload_n (k := 3) (by decide +kernel) rfl
theorem k1_51 : qx sc D 1 51 ls (vi i :: vr a :: st) u bb σ Q ↔ (q_ty a = 0 ∧ 0 ≤ i ∧ i < q_ln a) ∧ qx sc D 1 52 ls (vi (σ a i) :: st) u bb σ Q := r_iald (by decide +kernel)
theorem k1_52 : qx sc (D + 1) 1 52 ls [vi x1, vi x0, vr 55] (0, 0) bb σ Q ↔ qx sc D 5 0 [vr 55, vi x0, vi x1] [] (0, 0) bb σ (q_kn sc (D + 1) 1 55 ls [] (0, 0) Q) := r_callv (idx := 98) (n := 2) (m := 3) (by decide +kernel) rfl (Nat.le_of_ble_eq_true rfl) ⟨Nat.le_of_ble_eq_true rfl, Nat.le_of_ble_eq_true rfl, rfl⟩ rfl
theorem k1_55 : qx sc D 1 55 ls [vi x] (0, 0) bb σ Q ↔ Q (.inl (some (vi x))) bb σ := r_ret (by decide +kernel)
-- 2: RowProver$Bounds.fromTerm([III)I
theorem k2_0 : qx sc D 2 0 [l0, l1, vi x, l3, l4, l5, l6] st u bb σ Q ↔ qx sc D 2 1 [l0, l1, vi x, l3, l4, l5, l6] (vi x :: st) u bb σ Q := r_iload_n (k := 2) (by decide +kernel) rfl
theorem k2_1 : qx sc D 2 1 ls st u bb σ Q ↔ qx sc D 2 2 ls (vi 3 :: st) u bb σ Q := r_iconst (by decide +kernel)
theorem k2_2 : qx sc D 2 2 ls (vi b' :: vi a' :: st) u bb σ Q ↔ (a' = b' → qx sc D 2 5 ls st u bb σ Q) ∧ (¬ (a' = b') → qx sc D 2 9 ls st u bb σ Q) := r_ic_ne (off := 7) (t := 9) (by decide +kernel)
theorem k2_5 : qx sc D 2 5 ls st u bb σ Q ↔ qx sc D 2 6 ls (vi 1 :: st) u bb σ Q := r_iconst (by decide +kernel)
theorem k2_6 : qx sc D 2 6 ls st u bb σ Q ↔ qx sc D 2 10 ls st u bb σ Q := r_goto (off := 4) (by decide +kernel)
theorem k2_9 : qx sc D 2 9 ls st u bb σ Q ↔ qx sc D 2 10 ls (vi 0 :: st) u bb σ Q := r_iconst (by decide +kernel)
theorem k2_10 : qx sc D 2 10 [l0, l1, l2, l3, l4, l5, l6] (vi x :: st) u bb σ Q ↔ qx sc D 2 12 [l0, l1, l2, l3, vi x, l5, l6] st u bb σ Q := r_istore (k := 4) (by decide +kernel) (Nat.le_of_ble_eq_true rfl)
theorem k2_12 : qx sc D 2 12 [vr a, l1, l2, l3, l4, l5, l6] st u bb σ Q ↔ qx sc D 2 13 [vr a, l1, l2, l3, l4, l5, l6] (vr a :: st) u bb σ Q := r_aload_n (k := 0) (by decide +kernel) rfl
theorem k2_13 : qx sc D 2 13 ls (vr 55 :: st) u bb σ Q ↔ qx sc D 2 16 ls (vr 9 :: st) u bb σ Q := r_getR (idx := 19) (c := 3) (k := 0) (by decide +kernel)
theorem k2_16 : qx sc D 2 16 ls (vr 9 :: st) u bb σ Q ↔ qx sc D 2 19 ls (vr 21 :: st) u bb σ Q := r_getR (idx := 75) (c := 13) (k := 10) (by decide +kernel)
theorem k2_19 : qx sc D 2 19 [l0, l1, l2, l3, vi x, l5, l6] st u bb σ Q ↔ qx sc D 2 21 [l0, l1, l2, l3, vi x, l5, l6] (vi x :: st) u bb σ Q := r_iload (k := 4) (by decide +kernel) rfl
theorem k2_21 : qx sc D 2 21 ls (vi i :: vr a :: st) u bb σ Q ↔ (q_ty a = 4 ∧ 0 ≤ i ∧ i < q_ln a) ∧ qx sc D 2 22 ls (vr (a + 1 + i.toNat) :: st) u bb σ Q := r_aald (by decide +kernel)
theorem k2_22 : qx sc D 2 22 [l0, l1, l2, vi x, l4, l5, l6] st u bb σ Q ↔ qx sc D 2 23 [l0, l1, l2, vi x, l4, l5, l6] (vi x :: st) u bb σ Q := r_iload_n (k := 3) (by decide +kernel) rfl
theorem k2_23 : qx sc D 2 23 ls (vi i :: vr a :: st) u bb σ Q ↔ (q_ty a = 0 ∧ 0 ≤ i ∧ i < q_ln a) ∧ qx sc D 2 24 ls (vi (σ a i) :: st) u bb σ Q := r_iald (by decide +kernel)
theorem k2_24 : qx sc D 2 24 [l0, l1, l2, l3, l4, l5, l6] (vi x :: st) u bb σ Q ↔ qx sc D 2 26 [l0, l1, l2, l3, l4, vi x, l6] st u bb σ Q := r_istore (k := 5) (by decide +kernel) (Nat.le_of_ble_eq_true rfl)
theorem k2_26 : qx sc D 2 26 [vr a, l1, l2, l3, l4, l5, l6] st u bb σ Q ↔ qx sc D 2 27 [vr a, l1, l2, l3, l4, l5, l6] (vr a :: st) u bb σ Q := r_aload_n (k := 0) (by decide +kernel) rfl
theorem k2_27 : qx sc D 2 27 ls (vr 55 :: st) u bb σ Q ↔ qx sc D 2 30 ls (vr 9 :: st) u bb σ Q := r_getR (idx := 19) (c := 3) (k := 0) (by decide +kernel)
theorem k2_30 : qx sc D 2 30 ls (vr 9 :: st) u bb σ Q ↔ qx sc D 2 33 ls (vr 24 :: st) u bb σ Q := r_getR (idx := 101) (c := 13) (k := 11) (by decide +kernel)
theorem k2_33 : qx sc D 2 33 [l0, l1, l2, l3, vi x, l5, l6] st u bb σ Q ↔ qx sc D 2 35 [l0, l1, l2, l3, vi x, l5, l6] (vi x :: st) u bb σ Q := r_iload (k := 4) (by decide +kernel) rfl
theorem k2_35 : qx sc D 2 35 ls (vi i :: vr a :: st) u bb σ Q ↔ (q_ty a = 4 ∧ 0 ≤ i ∧ i < q_ln a) ∧ qx sc D 2 36 ls (vr (a + 1 + i.toNat) :: st) u bb σ Q := r_aald (by decide +kernel)
theorem k2_36 : qx sc D 2 36 [l0, l1, l2, vi x, l4, l5, l6] st u bb σ Q ↔ qx sc D 2 37 [l0, l1, l2, vi x, l4, l5, l6] (vi x :: st) u bb σ Q := r_iload_n (k := 3) (by decide +kernel) rfl
theorem k2_37 : qx sc D 2 37 ls (vi i :: vr a :: st) u bb σ Q ↔ (q_ty a = 0 ∧ 0 ≤ i ∧ i < q_ln a) ∧ qx sc D 2 38 ls (vi (σ a i) :: st) u bb σ Q := r_iald (by decide +kernel)
theorem k2_38 : qx sc D 2 38 [l0, l1, l2, l3, l4, l5, l6] (vi x :: st) u bb σ Q ↔ qx sc D 2 40 [l0, l1, l2, l3, l4, l5, vi x] st u bb σ Q := r_istore (k := 6) (by decide +kernel) (Nat.le_of_ble_eq_true rfl)
theorem k2_40 : qx sc D 2 40 [vr a, l1, l2, l3, l4, l5, l6] st u bb σ Q ↔ qx sc D 2 41 [vr a, l1, l2, l3, l4, l5, l6] (vr a :: st) u bb σ Q := r_aload_n (k := 0) (by decide +kernel) rfl
theorem k2_41 : qx sc D 2 41 ls (vr 55 :: st) u bb σ Q ↔ qx sc D 2 44 ls (vr 9 :: st) u bb σ Q := r_getR (idx := 19) (c := 3) (k := 0) (by decide +kernel)
theorem k2_44 : qx sc D 2 44 ls (vr 9 :: st) u bb σ Q ↔ qx sc D 2 47 ls (vr 18 :: st) u bb σ Q := r_getR (idx := 72) (c := 13) (k := 9) (by decide +kernel)
theorem k2_47 : qx sc D 2 47 [l0, l1, l2, l3, vi x, l5, l6] st u bb σ Q ↔ qx sc D 2 49 [l0, l1, l2, l3, vi x, l5, l6] (vi x :: st) u bb σ Q := r_iload (k := 4) (by decide +kernel) rfl
theorem k2_49 : qx sc D 2 49 ls (vi i :: vr a :: st) u bb σ Q ↔ (q_ty a = 4 ∧ 0 ≤ i ∧ i < q_ln a) ∧ qx sc D 2 50 ls (vr (a + 1 + i.toNat) :: st) u bb σ Q := r_aald (by decide +kernel)
theorem k2_50 : qx sc D 2 50 [l0, l1, l2, vi x, l4, l5, l6] st u bb σ Q ↔ qx sc D 2 51 [l0, l1, l2, vi x, l4, l5, l6] (vi x :: st) u bb σ Q := r_iload_n (k := 3) (by decide +kernel) rfl
theorem k2_51 : qx sc D 2 51 ls (vi i :: vr a :: st) u bb σ Q ↔ (q_ty a = 0 ∧ 0 ≤ i ∧ i < q_ln a) ∧ qx sc D 2 52 ls (vi (σ a i) :: st) u bb σ Q := r_iald (by decide +kernel)
theorem k2_52 : qx sc D 2 52 ls (vi x :: st) u bb σ Q ↔ qx sc D 2 (if x < 1 ∨ 3 < x then 132 else [80, 107, 121].getD (x - 1).toNat 0) ls st u bb σ Q := r_tsw (d := 80) (lo := 1) (hi := 3) (offs := #[28, 55, 69]) (dt := 132) (tg := [80, 107, 121]) (by decide +kernel)
theorem k2_80 : qx sc D 2 80 [l0, l1, l2, l3, l4, l5, vi x] st u bb σ Q ↔ qx sc D 2 82 [l0, l1, l2, l3, l4, l5, vi x] (vi x :: st) u bb σ Q := r_iload (k := 6) (by decide +kernel) rfl
theorem k2_82 : qx sc D 2 82 [l0, l1, vi x, l3, l4, l5, l6] st u bb σ Q ↔ qx sc D 2 83 [l0, l1, vi x, l3, l4, l5, l6] (vi x :: st) u bb σ Q := r_iload_n (k := 2) (by decide +kernel) rfl
theorem k2_83 : qx sc D 2 83 ls st u bb σ Q ↔ qx sc D 2 84 ls (vi 3 :: st) u bb σ Q := r_iconst (by decide +kernel)
theorem k2_84 : qx sc D 2 84 ls (vi b' :: vi a' :: st) u bb σ Q ↔ (a' = b' → qx sc D 2 87 ls st u bb σ Q) ∧ (¬ (a' = b') → qx sc D 2 93 ls st u bb σ Q) := r_ic_ne (off := 9) (t := 93) (by decide +kernel)
theorem k2_87 : qx sc D 2 87 [l0, l1, l2, l3, l4, vi x, l6] st u bb σ Q ↔ qx sc D 2 89 [l0, l1, l2, l3, l4, vi x, l6] (vi x :: st) u bb σ Q := r_iload (k := 5) (by decide +kernel) rfl
theorem k2_89 : qx sc D 2 89 ls (vi a' :: st) u bb σ Q ↔ q_R (-a') ∧ qx sc D 2 90 ls (vi (-a') :: st) u bb σ Q := r_ineg (by decide +kernel)
theorem k2_90 : qx sc D 2 90 ls st u bb σ Q ↔ qx sc D 2 105 ls st u bb σ Q := r_goto (off := 15) (by decide +kernel)
theorem k2_93 : qx sc D 2 93 [l0, l1, l2, l3, l4, vi x, l6] st u bb σ Q ↔ qx sc D 2 95 [l0, l1, l2, l3, l4, vi x, l6] (vi x :: st) u bb σ Q := r_iload (k := 5) (by decide +kernel) rfl
theorem k2_95 : qx sc D 2 95 [vr a, l1, l2, l3, l4, l5, l6] st u bb σ Q ↔ qx sc D 2 96 [vr a, l1, l2, l3, l4, l5, l6] (vr a :: st) u bb σ Q := r_aload_n (k := 0) (by decide +kernel) rfl
theorem k2_96 : qx sc D 2 96 ls (vr 55 :: st) u bb σ Q ↔ 0 ≤ σ 55 1 ∧ qx sc D 2 99 ls (vr (σ 55 1).toNat :: st) u bb σ Q := r_getM (idx := 23) (c := 3) (k := 1) (by decide +kernel)
theorem k2_99 (hc : q_C c) : qx sc D 2 99 ls (vr c :: st) u bb σ Q ↔ qx sc D 2 102 ls (vr (c + 1) :: st) u bb σ Q := r_getRc (idx := 27) (k := 3) (by decide +kernel) hc
theorem k2_102 : qx sc D 2 102 [l0, l1, vi x, l3, l4, l5, l6] st u bb σ Q ↔ qx sc D 2 103 [l0, l1, vi x, l3, l4, l5, l6] (vi x :: st) u bb σ Q := r_iload_n (k := 2) (by decide +kernel) rfl
theorem k2_103 : qx sc D 2 103 ls (vi i :: vr a :: st) u bb σ Q ↔ (q_ty a = 0 ∧ 0 ≤ i ∧ i < q_ln a) ∧ qx sc D 2 104 ls (vi (σ a i) :: st) u bb σ Q := r_iald (by decide +kernel)
theorem k2_104 : qx sc D 2 104 ls (vi b' :: vi a' :: st) u bb σ Q ↔ q_R (a' - b') ∧ qx sc D 2 105 ls (vi (a' - b') :: st) u bb σ Q := r_isub (by decide +kernel)
theorem k2_105 : qx sc D 2 105 ls (vi b' :: vi a' :: st) u bb σ Q ↔ q_R (a' + b') ∧ qx sc D 2 106 ls (vi (a' + b') :: st) u bb σ Q := r_iadd (by decide +kernel)
theorem k2_106 : qx sc D 2 106 ls [vi x] (0, 0) bb σ Q ↔ Q (.inl (some (vi x))) bb σ := r_ret (by decide +kernel)
theorem k2_107 : qx sc D 2 107 [vr a, l1, l2, l3, l4, l5, l6] st u bb σ Q ↔ qx sc D 2 108 [vr a, l1, l2, l3, l4, l5, l6] (vr a :: st) u bb σ Q := r_aload_n (k := 0) (by decide +kernel) rfl
theorem k2_108 : qx sc D 2 108 [vr a, l1, l2, l3, l4, l5, l6] st u bb σ Q ↔ qx sc D 2 109 [vr a, l1, l2, l3, l4, l5, l6] (vr a :: st) u bb σ Q := r_aload_n (k := 0) (by decide +kernel) rfl
theorem k2_109 : qx sc D 2 109 [l0, l1, vi x, l3, l4, l5, l6] st u bb σ Q ↔ qx sc D 2 110 [l0, l1, vi x, l3, l4, l5, l6] (vi x :: st) u bb σ Q := r_iload_n (k := 2) (by decide +kernel) rfl
theorem k2_110 : qx sc D 2 110 [l0, l1, l2, l3, l4, vi x, l6] st u bb σ Q ↔ qx sc D 2 112 [l0, l1, l2, l3, l4, vi x, l6] (vi x :: st) u bb σ Q := r_iload (k := 5) (by decide +kernel) rfl
theorem k2_112 : qx sc (D + 1) 2 112 ls [vi x1, vi x0, vr 55, vr a20] (0, 0) bb σ Q ↔ qx sc D 3 0 [vr 55, vi x0, vi x1] [] (0, 0) bb σ (q_kn sc (D + 1) 2 115 ls [vr a20] (0, 0) Q) := r_callv (idx := 104) (n := 2) (m := 3) (by decide +kernel) rfl (Nat.le_of_ble_eq_true rfl) ⟨Nat.le_of_ble_eq_true rfl, Nat.le_of_ble_eq_true rfl, rfl⟩ rfl
theorem k2_115 : qx sc D 2 115 [l0, l1, l2, l3, l4, l5, vi x] st u bb σ Q ↔ qx sc D 2 117 [l0, l1, l2, l3, l4, l5, vi x] (vi x :: st) u bb σ Q := r_iload (k := 6) (by decide +kernel) rfl
theorem k2_117 : qx sc (D + 1) 2 117 ls [vi x1, vi x0, vr 55] (0, 0) bb σ Q ↔ qx sc D 5 0 [vr 55, vi x0, vi x1] [] (0, 0) bb σ (q_kn sc (D + 1) 2 120 ls [] (0, 0) Q) := r_callv (idx := 98) (n := 2) (m := 3) (by decide +kernel) rfl (Nat.le_of_ble_eq_true rfl) ⟨Nat.le_of_ble_eq_true rfl, Nat.le_of_ble_eq_true rfl, rfl⟩ rfl
theorem k2_120 : qx sc D 2 120 ls [vi x] (0, 0) bb σ Q ↔ Q (.inl (some (vi x))) bb σ := r_ret (by decide +kernel)
theorem k2_121 : qx sc D 2 121 [vr a, l1, l2, l3, l4, l5, l6] st u bb σ Q ↔ qx sc D 2 122 [vr a, l1, l2, l3, l4, l5, l6] (vr a :: st) u bb σ Q := r_aload_n (k := 0) (by decide +kernel) rfl
theorem k2_122 : qx sc D 2 122 [l0, vr a, l2, l3, l4, l5, l6] st u bb σ Q ↔ qx sc D 2 123 [l0, vr a, l2, l3, l4, l5, l6] (vr a :: st) u bb σ Q := r_aload_n (k := 1) (by decide +kernel) rfl
theorem k2_123 : qx sc D 2 123 [l0, l1, l2, l3, l4, vi x, l6] st u bb σ Q ↔ qx sc D 2 125 [l0, l1, l2, l3, l4, vi x, l6] (vi x :: st) u bb σ Q := r_iload (k := 5) (by decide +kernel) rfl
theorem k2_125 : qx sc D 2 125 ls (vi i :: vr a :: st) u bb σ Q ↔ (q_ty a = 0 ∧ 0 ≤ i ∧ i < q_ln a) ∧ qx sc D 2 126 ls (vi (σ a i) :: st) u bb σ Q := r_iald (by decide +kernel)
theorem k2_126 : qx sc D 2 126 [l0, l1, l2, l3, l4, l5, vi x] st u bb σ Q ↔ qx sc D 2 128 [l0, l1, l2, l3, l4, l5, vi x] (vi x :: st) u bb σ Q := r_iload (k := 6) (by decide +kernel) rfl
theorem k2_128 : qx sc (D + 1) 2 128 ls [vi x1, vi x0, vr 55] (0, 0) bb σ Q ↔ qx sc D 5 0 [vr 55, vi x0, vi x1] [] (0, 0) bb σ (q_kn sc (D + 1) 2 131 ls [] (0, 0) Q) := r_callv (idx := 98) (n := 2) (m := 3) (by decide +kernel) rfl (Nat.le_of_ble_eq_true rfl) ⟨Nat.le_of_ble_eq_true rfl, Nat.le_of_ble_eq_true rfl, rfl⟩ rfl
theorem k2_131 : qx sc D 2 131 ls [vi x] (0, 0) bb σ Q ↔ Q (.inl (some (vi x))) bb σ := r_ret (by decide +kernel)
theorem k2_132 : qx sc D 2 132 ls st u bb σ Q ↔ qx sc D 2 134 ls (vi 99999 :: st) u bb σ Q := r_ldc (idx := 62) (v := 99999) (by decide +kernel)
theorem k2_134 : qx sc D 2 134 ls [vi x] (0, 0) bb σ Q ↔ Q (.inl (some (vi x))) bb σ := r_ret (by decide +kernel)
-- 3: RowProver$Bounds.lengthWorth(II)I
theorem k3_0 : qx sc D 3 0 [l0, vi x, l2] st u bb σ Q ↔ qx sc D 3 1 [l0, vi x, l2] (vi x :: st) u bb σ Q := r_iload_n (k := 1) (by decide +kernel) rfl
theorem k3_1 : qx sc D 3 1 ls st u bb σ Q ↔ qx sc D 3 2 ls (vi 3 :: st) u bb σ Q := r_iconst (by decide +kernel)
theorem k3_2 : qx sc D 3 2 ls (vi b' :: vi a' :: st) u bb σ Q ↔ (a' = b' → qx sc D 3 5 ls st u bb σ Q) ∧ (¬ (a' = b') → qx sc D 3 16 ls st u bb σ Q) := r_ic_ne (off := 14) (t := 16) (by decide +kernel)
theorem k3_5 : qx sc D 3 5 [vr a, l1, l2] st u bb σ Q ↔ qx sc D 3 6 [vr a, l1, l2] (vr a :: st) u bb σ Q := r_aload_n (k := 0) (by decide +kernel) rfl
theorem k3_6 : qx sc D 3 6 ls (vr 55 :: st) u bb σ Q ↔ 0 ≤ σ 55 1 ∧ qx sc D 3 9 ls (vr (σ 55 1).toNat :: st) u bb σ Q := r_getM (idx := 23) (c := 3) (k := 1) (by decide +kernel)
theorem k3_9 (hc : q_C c) : qx sc D 3 9 ls (vr c :: st) u bb σ Q ↔ qx sc D 3 12 ls (vr (c + 1) :: st) u bb σ Q := r_getRc (idx := 27) (k := 3) (by decide +kernel) hc
theorem k3_12 : qx sc D 3 12 [l0, l1, vi x] st u bb σ Q ↔ qx sc D 3 13 [l0, l1, vi x] (vi x :: st) u bb σ Q := r_iload_n (k := 2) (by decide +kernel) rfl
theorem k3_13 : qx sc D 3 13 ls (vi i :: vr a :: st) u bb σ Q ↔ (q_ty a = 0 ∧ 0 ≤ i ∧ i < q_ln a) ∧ qx sc D 3 14 ls (vi (σ a i) :: st) u bb σ Q := r_iald (by decide +kernel)
theorem k3_14 : qx sc D 3 14 ls (vi a' :: st) u bb σ Q ↔ q_R (-a') ∧ qx sc D 3 15 ls (vi (-a') :: st) u bb σ Q := r_ineg (by decide +kernel)
theorem k3_15 : qx sc D 3 15 ls [vi x] (0, 0) bb σ Q ↔ Q (.inl (some (vi x))) bb σ := r_ret (by decide +kernel)
theorem k3_16 : qx sc D 3 16 [l0, vi x, l2] st u bb σ Q ↔ qx sc D 3 17 [l0, vi x, l2] (vi x :: st) u bb σ Q := r_iload_n (k := 1) (by decide +kernel) rfl
theorem k3_17 : qx sc D 3 17 [l0, l1, vi x] st u bb σ Q ↔ qx sc D 3 18 [l0, l1, vi x] (vi x :: st) u bb σ Q := r_iload_n (k := 2) (by decide +kernel) rfl
theorem k3_18 : qx sc D 3 18 ls (vi b' :: vi a' :: st) u bb σ Q ↔ (a' = b' → qx sc D 3 21 ls st u bb σ Q) ∧ (¬ (a' = b') → qx sc D 3 25 ls st u bb σ Q) := r_ic_ne (off := 7) (t := 25) (by decide +kernel)
theorem k3_21 : qx sc D 3 21 ls st u bb σ Q ↔ qx sc D 3 22 ls (vi 0 :: st) u bb σ Q := r_iconst (by decide +kernel)
theorem k3_22 : qx sc D 3 22 ls st u bb σ Q ↔ qx sc D 3 27 ls st u bb σ Q := r_goto (off := 5) (by decide +kernel)
theorem k3_25 : qx sc D 3 25 ls st u bb σ Q ↔ qx sc D 3 27 ls (vi 99999 :: st) u bb σ Q := r_ldc (idx := 62) (v := 99999) (by decide +kernel)
theorem k3_27 : qx sc D 3 27 ls [vi x] (0, 0) bb σ Q ↔ Q (.inl (some (vi x))) bb σ := r_ret (by decide +kernel)
-- 4: RowProver$Bounds.mostFinite(I)I
theorem k4_0 : qx sc D 4 0 [l0, vi x, l2, l3, l4, l5, l6] st u bb σ Q ↔ qx sc D 4 1 [l0, vi x, l2, l3, l4, l5, l6] (vi x :: st) u bb σ Q := r_iload_n (k := 1) (by decide +kernel) rfl
theorem k4_1 : qx sc D 4 1 ls st u bb σ Q ↔ qx sc D 4 2 ls (vi 3 :: st) u bb σ Q := r_iconst (by decide +kernel)
theorem k4_2 : qx sc D 4 2 ls (vi b' :: vi a' :: st) u bb σ Q ↔ (a' = b' → qx sc D 4 5 ls st u bb σ Q) ∧ (¬ (a' = b') → qx sc D 4 9 ls st u bb σ Q) := r_ic_ne (off := 7) (t := 9) (by decide +kernel)
theorem k4_5 : qx sc D 4 5 ls st u bb σ Q ↔ qx sc D 4 6 ls (vi (-1) :: st) u bb σ Q := r_iconst (by decide +kernel)
theorem k4_6 : qx sc D 4 6 ls st u bb σ Q ↔ qx sc D 4 10 ls st u bb σ Q := r_goto (off := 4) (by decide +kernel)
theorem k4_9 : qx sc D 4 9 ls st u bb σ Q ↔ qx sc D 4 10 ls (vi 1 :: st) u bb σ Q := r_iconst (by decide +kernel)
theorem k4_10 : qx sc D 4 10 [l0, l1, l2, l3, l4, l5, l6] (vi x :: st) u bb σ Q ↔ qx sc D 4 11 [l0, l1, vi x, l3, l4, l5, l6] st u bb σ Q := r_istore_n (k := 2) (by decide +kernel) (Nat.le_of_ble_eq_true rfl)
theorem k4_11 : qx sc D 4 11 ls st u bb σ Q ↔ qx sc D 4 12 ls (vi 0 :: st) u bb σ Q := r_iconst (by decide +kernel)
theorem k4_12 : qx sc D 4 12 [l0, l1, l2, l3, l4, l5, l6] (vi x :: st) u bb σ Q ↔ qx sc D 4 13 [l0, l1, l2, vi x, l4, l5, l6] st u bb σ Q := r_istore_n (k := 3) (by decide +kernel) (Nat.le_of_ble_eq_true rfl)
theorem k4_13 : qx sc D 4 13 ls st u bb σ Q ↔ qx sc D 4 14 ls (vi 0 :: st) u bb σ Q := r_iconst (by decide +kernel)
theorem k4_14 : qx sc D 4 14 [l0, l1, l2, l3, l4, l5, l6] (vi x :: st) u bb σ Q ↔ qx sc D 4 16 [l0, l1, l2, l3, vi x, l5, l6] st u bb σ Q := r_istore (k := 4) (by decide +kernel) (Nat.le_of_ble_eq_true rfl)
theorem k4_16 : qx sc D 4 16 ls st u bb σ Q ↔ qx sc D 4 17 ls (vi 0 :: st) u bb σ Q := r_iconst (by decide +kernel)
theorem k4_17 : qx sc D 4 17 [l0, l1, l2, l3, l4, l5, l6] (vi x :: st) u bb σ Q ↔ qx sc D 4 19 [l0, l1, l2, l3, l4, vi x, l6] st u bb σ Q := r_istore (k := 5) (by decide +kernel) (Nat.le_of_ble_eq_true rfl)
theorem k4_19 : qx sc D 4 19 [l0, l1, l2, l3, l4, vi x, l6] st u bb σ Q ↔ qx sc D 4 21 [l0, l1, l2, l3, l4, vi x, l6] (vi x :: st) u bb σ Q := r_iload (k := 5) (by decide +kernel) rfl
theorem k4_21 : qx sc D 4 21 [vr a, l1, l2, l3, l4, l5, l6] st u bb σ Q ↔ qx sc D 4 22 [vr a, l1, l2, l3, l4, l5, l6] (vr a :: st) u bb σ Q := r_aload_n (k := 0) (by decide +kernel) rfl
theorem k4_22 : qx sc D 4 22 ls (vr 55 :: st) u bb σ Q ↔ qx sc D 4 25 ls (vr 9 :: st) u bb σ Q := r_getR (idx := 19) (c := 3) (k := 0) (by decide +kernel)
theorem k4_25 : qx sc D 4 25 ls (vr 9 :: st) u bb σ Q ↔ qx sc D 4 28 ls (vi (σ 9 0) :: st) u bb σ Q := r_getI (idx := 41) (c := 13) (k := 0) (by decide +kernel)
theorem k4_28 : qx sc D 4 28 ls (vi b' :: vi a' :: st) u bb σ Q ↔ (a' < b' → qx sc D 4 31 ls st u bb σ Q) ∧ (¬ (a' < b') → qx sc D 4 110 ls st u bb σ Q) := r_ic_ge (off := 82) (t := 110) (by decide +kernel)
theorem k4_31 : qx sc D 4 31 [l0, l1, l2, l3, vi x, l5, l6] st u bb σ Q ↔ qx sc D 4 33 [l0, l1, l2, l3, vi x, l5, l6] (vi x :: st) u bb σ Q := r_iload (k := 4) (by decide +kernel) rfl
theorem k4_33 : qx sc D 4 33 ls st u bb σ Q ↔ qx sc D 4 34 ls (vi 0 :: st) u bb σ Q := r_iconst (by decide +kernel)
theorem k4_34 : qx sc D 4 34 [l0, l1, vi x, l3, l4, l5, l6] st u bb σ Q ↔ qx sc D 4 35 [l0, l1, vi x, l3, l4, l5, l6] (vi x :: st) u bb σ Q := r_iload_n (k := 2) (by decide +kernel) rfl
theorem k4_35 : qx sc D 4 35 [vr a, l1, l2, l3, l4, l5, l6] st u bb σ Q ↔ qx sc D 4 36 [vr a, l1, l2, l3, l4, l5, l6] (vr a :: st) u bb σ Q := r_aload_n (k := 0) (by decide +kernel) rfl
theorem k4_36 : qx sc D 4 36 ls (vr 55 :: st) u bb σ Q ↔ qx sc D 4 39 ls (vr 9 :: st) u bb σ Q := r_getR (idx := 19) (c := 3) (k := 0) (by decide +kernel)
theorem k4_39 : qx sc D 4 39 ls (vr 9 :: st) u bb σ Q ↔ qx sc D 4 42 ls (vr 15 :: st) u bb σ Q := r_getR (idx := 63) (c := 13) (k := 6) (by decide +kernel)
theorem k4_42 : qx sc D 4 42 [l0, l1, l2, l3, l4, vi x, l6] st u bb σ Q ↔ qx sc D 4 44 [l0, l1, l2, l3, l4, vi x, l6] (vi x :: st) u bb σ Q := r_iload (k := 5) (by decide +kernel) rfl
theorem k4_44 : qx sc D 4 44 ls (vi i :: vr a :: st) u bb σ Q ↔ (q_ty a = 0 ∧ 0 ≤ i ∧ i < q_ln a) ∧ qx sc D 4 45 ls (vi (σ a i) :: st) u bb σ Q := r_iald (by decide +kernel)
theorem k4_45 : qx sc D 4 45 ls (vi b' :: vi a' :: st) u bb σ Q ↔ q_R (a' * b') ∧ qx sc D 4 46 ls (vi (a' * b') :: st) u bb σ Q := r_imul (by decide +kernel)
theorem k4_46 : qx sc D 4 46 ls [vi b', vi a', vi x20] (0, 0) bb σ Q ↔ qx sc D 4 49 ls [vi (max a' b'), vi x20] (0, 0) bb σ Q := r_max (idx := 66) (y' := 0) (by decide +kernel) (Nat.le_of_ble_eq_true rfl)
theorem k4_49 : qx sc D 4 49 ls (vi b' :: vi a' :: st) u bb σ Q ↔ q_R (a' + b') ∧ qx sc D 4 50 ls (vi (a' + b') :: st) u bb σ Q := r_iadd (by decide +kernel)
theorem k4_50 : qx sc D 4 50 [l0, l1, l2, l3, l4, l5, l6] (vi x :: st) u bb σ Q ↔ qx sc D 4 52 [l0, l1, l2, l3, vi x, l5, l6] st u bb σ Q := r_istore (k := 4) (by decide +kernel) (Nat.le_of_ble_eq_true rfl)
theorem k4_52 : qx sc D 4 52 ls st u bb σ Q ↔ qx sc D 4 53 ls (vi 0 :: st) u bb σ Q := r_iconst (by decide +kernel)
theorem k4_53 : qx sc D 4 53 [l0, l1, l2, l3, l4, l5, l6] (vi x :: st) u bb σ Q ↔ qx sc D 4 55 [l0, l1, l2, l3, l4, l5, vi x] st u bb σ Q := r_istore (k := 6) (by decide +kernel) (Nat.le_of_ble_eq_true rfl)
theorem k4_55 : qx sc D 4 55 [l0, l1, l2, l3, l4, l5, vi x] st u bb σ Q ↔ qx sc D 4 57 [l0, l1, l2, l3, l4, l5, vi x] (vi x :: st) u bb σ Q := r_iload (k := 6) (by decide +kernel) rfl
theorem k4_57 : qx sc D 4 57 ls st u bb σ Q ↔ qx sc D 4 58 ls (vi 1 :: st) u bb σ Q := r_iconst (by decide +kernel)
theorem k4_58 : qx sc D 4 58 ls (vi b' :: vi a' :: st) u bb σ Q ↔ (b' < a' → qx sc D 4 104 ls st u bb σ Q) ∧ (¬ (b' < a') → qx sc D 4 61 ls st u bb σ Q) := r_ic_gt (off := 46) (t := 104) (by decide +kernel)
theorem k4_61 : qx sc D 4 61 [vr a, l1, l2, l3, l4, l5, l6] st u bb σ Q ↔ qx sc D 4 62 [vr a, l1, l2, l3, l4, l5, l6] (vr a :: st) u bb σ Q := r_aload_n (k := 0) (by decide +kernel) rfl
theorem k4_62 : qx sc D 4 62 ls (vr 55 :: st) u bb σ Q ↔ qx sc D 4 65 ls (vr 9 :: st) u bb σ Q := r_getR (idx := 19) (c := 3) (k := 0) (by decide +kernel)
theorem k4_65 : qx sc D 4 65 ls (vr 9 :: st) u bb σ Q ↔ qx sc D 4 68 ls (vr 18 :: st) u bb σ Q := r_getR (idx := 72) (c := 13) (k := 9) (by decide +kernel)
theorem k4_68 : qx sc D 4 68 [l0, l1, l2, l3, l4, l5, vi x] st u bb σ Q ↔ qx sc D 4 70 [l0, l1, l2, l3, l4, l5, vi x] (vi x :: st) u bb σ Q := r_iload (k := 6) (by decide +kernel) rfl
theorem k4_70 : qx sc D 4 70 ls (vi i :: vr a :: st) u bb σ Q ↔ (q_ty a = 4 ∧ 0 ≤ i ∧ i < q_ln a) ∧ qx sc D 4 71 ls (vr (a + 1 + i.toNat) :: st) u bb σ Q := r_aald (by decide +kernel)
theorem k4_71 : qx sc D 4 71 [l0, l1, l2, l3, l4, vi x, l6] st u bb σ Q ↔ qx sc D 4 73 [l0, l1, l2, l3, l4, vi x, l6] (vi x :: st) u bb σ Q := r_iload (k := 5) (by decide +kernel) rfl
theorem k4_73 : qx sc D 4 73 ls (vi i :: vr a :: st) u bb σ Q ↔ (q_ty a = 0 ∧ 0 ≤ i ∧ i < q_ln a) ∧ qx sc D 4 74 ls (vi (σ a i) :: st) u bb σ Q := r_iald (by decide +kernel)
theorem k4_74 : qx sc D 4 74 ls st u bb σ Q ↔ qx sc D 4 75 ls (vi 1 :: st) u bb σ Q := r_iconst (by decide +kernel)
theorem k4_75 : qx sc D 4 75 ls (vi b' :: vi a' :: st) u bb σ Q ↔ (a' = b' → qx sc D 4 78 ls st u bb σ Q) ∧ (¬ (a' = b') → qx sc D 4 98 ls st u bb σ Q) := r_ic_ne (off := 23) (t := 98) (by decide +kernel)
theorem k4_78 : qx sc D 4 78 [l0, l1, l2, vi x, l4, l5, l6] st u bb σ Q ↔ qx sc D 4 79 [l0, l1, l2, vi x, l4, l5, l6] (vi x :: st) u bb σ Q := r_iload_n (k := 3) (by decide +kernel) rfl
theorem k4_79 : qx sc D 4 79 [l0, l1, vi x, l3, l4, l5, l6] st u bb σ Q ↔ qx sc D 4 80 [l0, l1, vi x, l3, l4, l5, l6] (vi x :: st) u bb σ Q := r_iload_n (k := 2) (by decide +kernel) rfl
theorem k4_80 : qx sc D 4 80 [vr a, l1, l2, l3, l4, l5, l6] st u bb σ Q ↔ qx sc D 4 81 [vr a, l1, l2, l3, l4, l5, l6] (vr a :: st) u bb σ Q := r_aload_n (k := 0) (by decide +kernel) rfl
theorem k4_81 : qx sc D 4 81 ls (vr 55 :: st) u bb σ Q ↔ qx sc D 4 84 ls (vr 9 :: st) u bb σ Q := r_getR (idx := 19) (c := 3) (k := 0) (by decide +kernel)
theorem k4_84 : qx sc D 4 84 ls (vr 9 :: st) u bb σ Q ↔ qx sc D 4 87 ls (vr 21 :: st) u bb σ Q := r_getR (idx := 75) (c := 13) (k := 10) (by decide +kernel)
theorem k4_87 : qx sc D 4 87 [l0, l1, l2, l3, l4, l5, vi x] st u bb σ Q ↔ qx sc D 4 89 [l0, l1, l2, l3, l4, l5, vi x] (vi x :: st) u bb σ Q := r_iload (k := 6) (by decide +kernel) rfl
theorem k4_89 : qx sc D 4 89 ls (vi i :: vr a :: st) u bb σ Q ↔ (q_ty a = 4 ∧ 0 ≤ i ∧ i < q_ln a) ∧ qx sc D 4 90 ls (vr (a + 1 + i.toNat) :: st) u bb σ Q := r_aald (by decide +kernel)
theorem k4_90 : qx sc D 4 90 [l0, l1, l2, l3, l4, vi x, l6] st u bb σ Q ↔ qx sc D 4 92 [l0, l1, l2, l3, l4, vi x, l6] (vi x :: st) u bb σ Q := r_iload (k := 5) (by decide +kernel) rfl
theorem k4_92 : qx sc D 4 92 ls (vi i :: vr a :: st) u bb σ Q ↔ (q_ty a = 0 ∧ 0 ≤ i ∧ i < q_ln a) ∧ qx sc D 4 93 ls (vi (σ a i) :: st) u bb σ Q := r_iald (by decide +kernel)
theorem k4_93 : qx sc D 4 93 ls (vi b' :: vi a' :: st) u bb σ Q ↔ q_R (a' * b') ∧ qx sc D 4 94 ls (vi (a' * b') :: st) u bb σ Q := r_imul (by decide +kernel)
theorem k4_94 : qx sc D 4 94 ls [vi b', vi a'] (0, 0) bb σ Q ↔ qx sc D 4 97 ls [vi (max a' b')] (0, 0) bb σ Q := r_max (idx := 66) (y' := 0) (by decide +kernel) (Nat.le_of_ble_eq_true rfl)
theorem k4_97 : qx sc D 4 97 [l0, l1, l2, l3, l4, l5, l6] (vi x :: st) u bb σ Q ↔ qx sc D 4 98 [l0, l1, l2, vi x, l4, l5, l6] st u bb σ Q := r_istore_n (k := 3) (by decide +kernel) (Nat.le_of_ble_eq_true rfl)
theorem k4_98 : qx sc D 4 98 [l0, l1, l2, l3, l4, l5, vi x] st u bb σ Q ↔ q_R (x + 1) ∧ qx sc D 4 101 [l0, l1, l2, l3, l4, l5, vi (x + 1)] st u bb σ Q := r_iinc (k := 6) (n := 1) (by decide +kernel) rfl
theorem k4_101 : qx sc D 4 101 ls st u bb σ Q ↔ qx sc D 4 55 ls st u bb σ Q := r_goto (off := (-46)) (by decide +kernel)
theorem k4_104 : qx sc D 4 104 [l0, l1, l2, l3, l4, vi x, l6] st u bb σ Q ↔ q_R (x + 1) ∧ qx sc D 4 107 [l0, l1, l2, l3, l4, vi (x + 1), l6] st u bb σ Q := r_iinc (k := 5) (n := 1) (by decide +kernel) rfl
theorem k4_107 : qx sc D 4 107 ls st u bb σ Q ↔ qx sc D 4 19 ls st u bb σ Q := r_goto (off := (-88)) (by decide +kernel)
theorem k4_110 : qx sc D 4 110 [l0, l1, l2, vi x, l4, l5, l6] st u bb σ Q ↔ qx sc D 4 111 [l0, l1, l2, vi x, l4, l5, l6] (vi x :: st) u bb σ Q := r_iload_n (k := 3) (by decide +kernel) rfl
theorem k4_111 : qx sc D 4 111 [l0, l1, l2, l3, vi x, l5, l6] st u bb σ Q ↔ qx sc D 4 113 [l0, l1, l2, l3, vi x, l5, l6] (vi x :: st) u bb σ Q := r_iload (k := 4) (by decide +kernel) rfl
theorem k4_113 : qx sc D 4 113 ls (vi b' :: vi a' :: st) u bb σ Q ↔ q_R (a' + b') ∧ qx sc D 4 114 ls (vi (a' + b') :: st) u bb σ Q := r_iadd (by decide +kernel)
theorem k4_114 : qx sc D 4 114 ls [vi x] (0, 0) bb σ Q ↔ Q (.inl (some (vi x))) bb σ := r_ret (by decide +kernel)
-- 5: RowProver$Bounds.moved(II)I
theorem k5_0 : qx sc D 5 0 [l0, vi x, l2] st u bb σ Q ↔ qx sc D 5 1 [l0, vi x, l2] (vi x :: st) u bb σ Q := r_iload_n (k := 1) (by decide +kernel) rfl
theorem k5_1 : qx sc D 5 1 ls st u bb σ Q ↔ qx sc D 5 3 ls (vi 99999 :: st) u bb σ Q := r_ldc (idx := 62) (v := 99999) (by decide +kernel)
theorem k5_3 : qx sc D 5 3 ls (vi b' :: vi a' :: st) u bb σ Q ↔ (a' = b' → qx sc D 5 6 ls st u bb σ Q) ∧ (¬ (a' = b') → qx sc D 5 11 ls st u bb σ Q) := r_ic_ne (off := 8) (t := 11) (by decide +kernel)
theorem k5_6 : qx sc D 5 6 ls st u bb σ Q ↔ qx sc D 5 8 ls (vi 99999 :: st) u bb σ Q := r_ldc (idx := 62) (v := 99999) (by decide +kernel)
theorem k5_8 : qx sc D 5 8 ls st u bb σ Q ↔ qx sc D 5 14 ls st u bb σ Q := r_goto (off := 6) (by decide +kernel)
theorem k5_11 : qx sc D 5 11 [l0, vi x, l2] st u bb σ Q ↔ qx sc D 5 12 [l0, vi x, l2] (vi x :: st) u bb σ Q := r_iload_n (k := 1) (by decide +kernel) rfl
theorem k5_12 : qx sc D 5 12 [l0, l1, vi x] st u bb σ Q ↔ qx sc D 5 13 [l0, l1, vi x] (vi x :: st) u bb σ Q := r_iload_n (k := 2) (by decide +kernel) rfl
theorem k5_13 : qx sc D 5 13 ls (vi b' :: vi a' :: st) u bb σ Q ↔ q_R (a' + b') ∧ qx sc D 5 14 ls (vi (a' + b') :: st) u bb σ Q := r_iadd (by decide +kernel)
theorem k5_14 : qx sc D 5 14 ls [vi x] (0, 0) bb σ Q ↔ Q (.inl (some (vi x))) bb σ := r_ret (by decide +kernel)
-- 6: RowProver$Bounds.solve([III)V
theorem k6_0 : qx sc D 6 0 [vr a, l1, l2, l3, l4, l5, l6, l7, l8] st u bb σ Q ↔ qx sc D 6 1 [vr a, l1, l2, l3, l4, l5, l6, l7, l8] (vr a :: st) u bb σ Q := r_aload_n (k := 0) (by decide +kernel) rfl
theorem k6_1 : qx sc D 6 1 [l0, l1, vi x, l3, l4, l5, l6, l7, l8] st u bb σ Q ↔ qx sc D 6 2 [l0, l1, vi x, l3, l4, l5, l6, l7, l8] (vi x :: st) u bb σ Q := r_iload_n (k := 2) (by decide +kernel) rfl
theorem k6_2 : qx sc (D + 1) 6 2 ls [vi x0, vr 55] (0, 0) bb σ Q ↔ qx sc D 4 0 [vr 55, vi x0, vn, vn, vn, vn, vn] [] (0, 0) bb σ (q_kn sc (D + 1) 6 5 ls [] (0, 0) Q) := r_callv (idx := 37) (n := 1) (m := 7) (by decide +kernel) rfl (Nat.le_of_ble_eq_true rfl) ⟨Nat.le_of_ble_eq_true rfl, Nat.le_of_ble_eq_true rfl, rfl⟩ rfl
theorem k6_5 : qx sc D 6 5 [l0, l1, l2, l3, l4, l5, l6, l7, l8] (vi x :: st) u bb σ Q ↔ qx sc D 6 7 [l0, l1, l2, l3, vi x, l5, l6, l7, l8] st u bb σ Q := r_istore (k := 4) (by decide +kernel) (Nat.le_of_ble_eq_true rfl)
theorem k6_7 : qx sc D 6 7 [l0, vr a, l2, l3, l4, l5, l6, l7, l8] st u bb σ Q ↔ qx sc D 6 8 [l0, vr a, l2, l3, l4, l5, l6, l7, l8] (vr a :: st) u bb σ Q := r_aload_n (k := 1) (by decide +kernel) rfl
theorem k6_8 : qx sc D 6 8 ls st u bb σ Q ↔ qx sc D 6 9 ls (vi 0 :: st) u bb σ Q := r_iconst (by decide +kernel)
theorem k6_9 : qx sc D 6 9 [vr a, l1, l2, l3, l4, l5, l6, l7, l8] st u bb σ Q ↔ qx sc D 6 10 [vr a, l1, l2, l3, l4, l5, l6, l7, l8] (vr a :: st) u bb σ Q := r_aload_n (k := 0) (by decide +kernel) rfl
theorem k6_10 : qx sc D 6 10 ls (vr 55 :: st) u bb σ Q ↔ qx sc D 6 13 ls (vr 9 :: st) u bb σ Q := r_getR (idx := 19) (c := 3) (k := 0) (by decide +kernel)
theorem k6_13 : qx sc D 6 13 ls (vr 9 :: st) u bb σ Q ↔ qx sc D 6 16 ls (vi (σ 9 0) :: st) u bb σ Q := r_getI (idx := 41) (c := 13) (k := 0) (by decide +kernel)
theorem k6_16 : qx sc D 6 16 ls st u bb σ Q ↔ qx sc D 6 18 ls (vi (-99999) :: st) u bb σ Q := r_ldc (idx := 47) (v := (-99999)) (by decide +kernel)
theorem k6_18 : qx sc (D + 1) 6 18 ls [vi x3, vi x2, vi x1, vr a0] (0, 0) bb σ Q ↔ qx sc D 250 0 [vr a0, vi x1, vi x2, vi x3, vn] [] (0, 0) bb σ (q_kn sc (D + 1) 6 21 ls [] (0, 0) Q) := r_calls (idx := 48) (n := 4) (m := 5) (by decide +kernel) rfl (Nat.le_of_ble_eq_true rfl) ⟨Nat.le_of_ble_eq_true rfl, Nat.le_of_ble_eq_true rfl, rfl⟩ rfl
theorem k6_21 : qx sc D 6 21 ls st u bb σ Q ↔ qx sc D 6 22 ls (vi 1 :: st) u bb σ Q := r_iconst (by decide +kernel)
theorem k6_22 : qx sc D 6 22 [l0, l1, l2, l3, l4, l5, l6, l7, l8] (vi x :: st) u bb σ Q ↔ qx sc D 6 24 [l0, l1, l2, l3, l4, vi x, l6, l7, l8] st u bb σ Q := r_istore (k := 5) (by decide +kernel) (Nat.le_of_ble_eq_true rfl)
theorem k6_24 : qx sc D 6 24 ls st u bb σ Q ↔ qx sc D 6 25 ls (vi 0 :: st) u bb σ Q := r_iconst (by decide +kernel)
theorem k6_25 : qx sc D 6 25 [l0, l1, l2, l3, l4, l5, l6, l7, l8] (vi x :: st) u bb σ Q ↔ qx sc D 6 27 [l0, l1, l2, l3, l4, l5, vi x, l7, l8] st u bb σ Q := r_istore (k := 6) (by decide +kernel) (Nat.le_of_ble_eq_true rfl)
theorem k6_27 : qx sc D 6 27 [l0, l1, l2, l3, l4, vi x, l6, l7, l8] st u bb σ Q ↔ qx sc D 6 29 [l0, l1, l2, l3, l4, vi x, l6, l7, l8] (vi x :: st) u bb σ Q := r_iload (k := 5) (by decide +kernel) rfl
theorem k6_29 : qx sc D 6 29 ls (vi x :: st) u bb σ Q ↔ (x = 0 → qx sc D 6 138 ls st u bb σ Q) ∧ (¬ (x = 0) → qx sc D 6 32 ls st u bb σ Q) := r_if_eq (off := 109) (t := 138) (by decide +kernel)
theorem k6_32 : qx sc D 6 32 [l0, l1, l2, l3, l4, l5, vi x, l7, l8] st u bb σ Q ↔ qx sc D 6 34 [l0, l1, l2, l3, l4, l5, vi x, l7, l8] (vi x :: st) u bb σ Q := r_iload (k := 6) (by decide +kernel) rfl
theorem k6_34 : qx sc D 6 34 ls st u bb σ Q ↔ qx sc D 6 36 ls (vi 1000000 :: st) u bb σ Q := r_ldc (idx := 54) (v := 1000000) (by decide +kernel)
theorem k6_36 : qx sc D 6 36 ls (vi b' :: vi a' :: st) u bb σ Q ↔ (a' < b' → qx sc D 6 39 ls st u bb σ Q) ∧ (¬ (a' < b') → qx sc D 6 138 ls st u bb σ Q) := r_ic_ge (off := 102) (t := 138) (by decide +kernel)
theorem k6_39 : qx sc D 6 39 ls st u bb σ Q ↔ qx sc D 6 40 ls (vi 0 :: st) u bb σ Q := r_iconst (by decide +kernel)
theorem k6_40 : qx sc D 6 40 [l0, l1, l2, l3, l4, l5, l6, l7, l8] (vi x :: st) u bb σ Q ↔ qx sc D 6 42 [l0, l1, l2, l3, l4, vi x, l6, l7, l8] st u bb σ Q := r_istore (k := 5) (by decide +kernel) (Nat.le_of_ble_eq_true rfl)
theorem k6_42 : qx sc D 6 42 ls st u bb σ Q ↔ qx sc D 6 43 ls (vi 0 :: st) u bb σ Q := r_iconst (by decide +kernel)
theorem k6_43 : qx sc D 6 43 [l0, l1, l2, l3, l4, l5, l6, l7, l8] (vi x :: st) u bb σ Q ↔ qx sc D 6 45 [l0, l1, l2, l3, l4, l5, l6, vi x, l8] st u bb σ Q := r_istore (k := 7) (by decide +kernel) (Nat.le_of_ble_eq_true rfl)
theorem k6_45 : qx sc D 6 45 [l0, l1, l2, l3, l4, l5, l6, vi x, l8] st u bb σ Q ↔ qx sc D 6 47 [l0, l1, l2, l3, l4, l5, l6, vi x, l8] (vi x :: st) u bb σ Q := r_iload (k := 7) (by decide +kernel) rfl
theorem k6_47 : qx sc D 6 47 [vr a, l1, l2, l3, l4, l5, l6, l7, l8] st u bb σ Q ↔ qx sc D 6 48 [vr a, l1, l2, l3, l4, l5, l6, l7, l8] (vr a :: st) u bb σ Q := r_aload_n (k := 0) (by decide +kernel) rfl
theorem k6_48 : qx sc D 6 48 ls (vr 55 :: st) u bb σ Q ↔ qx sc D 6 51 ls (vr 9 :: st) u bb σ Q := r_getR (idx := 19) (c := 3) (k := 0) (by decide +kernel)
theorem k6_51 : qx sc D 6 51 ls (vr 9 :: st) u bb σ Q ↔ qx sc D 6 54 ls (vi (σ 9 0) :: st) u bb σ Q := r_getI (idx := 41) (c := 13) (k := 0) (by decide +kernel)
theorem k6_54 : qx sc D 6 54 ls (vi b' :: vi a' :: st) u bb σ Q ↔ (a' < b' → qx sc D 6 57 ls st u bb σ Q) ∧ (¬ (a' < b') → qx sc D 6 132 ls st u bb σ Q) := r_ic_ge (off := 78) (t := 132) (by decide +kernel)
theorem k6_57 : qx sc D 6 57 [vr a, l1, l2, l3, l4, l5, l6, l7, l8] st u bb σ Q ↔ qx sc D 6 58 [vr a, l1, l2, l3, l4, l5, l6, l7, l8] (vr a :: st) u bb σ Q := r_aload_n (k := 0) (by decide +kernel) rfl
theorem k6_58 : qx sc D 6 58 [l0, vr a, l2, l3, l4, l5, l6, l7, l8] st u bb σ Q ↔ qx sc D 6 59 [l0, vr a, l2, l3, l4, l5, l6, l7, l8] (vr a :: st) u bb σ Q := r_aload_n (k := 1) (by decide +kernel) rfl
theorem k6_59 : qx sc D 6 59 [l0, l1, vi x, l3, l4, l5, l6, l7, l8] st u bb σ Q ↔ qx sc D 6 60 [l0, l1, vi x, l3, l4, l5, l6, l7, l8] (vi x :: st) u bb σ Q := r_iload_n (k := 2) (by decide +kernel) rfl
theorem k6_60 : qx sc D 6 60 [l0, l1, l2, l3, l4, l5, l6, vi x, l8] st u bb σ Q ↔ qx sc D 6 62 [l0, l1, l2, l3, l4, l5, l6, vi x, l8] (vi x :: st) u bb σ Q := r_iload (k := 7) (by decide +kernel) rfl
theorem k6_62 : qx sc D 6 62 [l0, l1, l2, vi x, l4, l5, l6, l7, l8] st u bb σ Q ↔ qx sc D 6 63 [l0, l1, l2, vi x, l4, l5, l6, l7, l8] (vi x :: st) u bb σ Q := r_iload_n (k := 3) (by decide +kernel) rfl
theorem k6_63 : qx sc (D + 1) 6 63 ls [vi x3, vi x2, vi x1, vr a0, vr 55] (0, 0) bb σ Q ↔ qx sc D 8 0 [vr 55, vr a0, vi x1, vi x2, vi x3, vn] [] (0, 0) bb σ (q_kn sc (D + 1) 6 66 ls [] (0, 0) Q) := r_callv (idx := 55) (n := 4) (m := 6) (by decide +kernel) rfl (Nat.le_of_ble_eq_true rfl) ⟨Nat.le_of_ble_eq_true rfl, Nat.le_of_ble_eq_true rfl, rfl⟩ rfl
theorem k6_66 : qx sc D 6 66 [l0, l1, l2, l3, l4, l5, l6, l7, l8] (vi x :: st) u bb σ Q ↔ qx sc D 6 68 [l0, l1, l2, l3, l4, l5, l6, l7, vi x] st u bb σ Q := r_istore (k := 8) (by decide +kernel) (Nat.le_of_ble_eq_true rfl)
theorem k6_68 : qx sc D 6 68 [vr a, l1, l2, l3, l4, l5, l6, l7, l8] st u bb σ Q ↔ qx sc D 6 69 [vr a, l1, l2, l3, l4, l5, l6, l7, l8] (vr a :: st) u bb σ Q := r_aload_n (k := 0) (by decide +kernel) rfl
theorem k6_69 : qx sc D 6 69 ls (vr 55 :: st) u bb σ Q ↔ qx sc D 6 72 ls (vr 9 :: st) u bb σ Q := r_getR (idx := 19) (c := 3) (k := 0) (by decide +kernel)
theorem k6_72 : qx sc D 6 72 ls (vr 9 :: st) u bb σ Q ↔ qx sc D 6 75 ls (vr 11 :: st) u bb σ Q := r_getR (idx := 59) (c := 13) (k := 2) (by decide +kernel)
theorem k6_75 : qx sc D 6 75 [l0, l1, l2, l3, l4, l5, l6, vi x, l8] st u bb σ Q ↔ qx sc D 6 77 [l0, l1, l2, l3, l4, l5, l6, vi x, l8] (vi x :: st) u bb σ Q := r_iload (k := 7) (by decide +kernel) rfl
theorem k6_77 : qx sc D 6 77 ls (vi i :: vr a :: st) u bb σ Q ↔ (q_ty a = 0 ∧ 0 ≤ i ∧ i < q_ln a) ∧ qx sc D 6 78 ls (vi (σ a i) :: st) u bb σ Q := r_iald (by decide +kernel)
theorem k6_78 : qx sc D 6 78 ls st u bb σ Q ↔ qx sc D 6 80 ls (vi 6 :: st) u bb σ Q := r_bipush (by decide +kernel)
theorem k6_80 : qx sc D 6 80 ls (vi b' :: vi a' :: st) u bb σ Q ↔ (a' = b' → qx sc D 6 83 ls st u bb σ Q) ∧ (¬ (a' = b') → qx sc D 6 120 ls st u bb σ Q) := r_ic_ne (off := 40) (t := 120) (by decide +kernel)
theorem k6_83 : qx sc D 6 83 [l0, l1, l2, l3, l4, l5, l6, l7, vi x] st u bb σ Q ↔ qx sc D 6 85 [l0, l1, l2, l3, l4, l5, l6, l7, vi x] (vi x :: st) u bb σ Q := r_iload (k := 8) (by decide +kernel) rfl
theorem k6_85 : qx sc D 6 85 [l0, l1, l2, l3, vi x, l5, l6, l7, l8] st u bb σ Q ↔ qx sc D 6 87 [l0, l1, l2, l3, vi x, l5, l6, l7, l8] (vi x :: st) u bb σ Q := r_iload (k := 4) (by decide +kernel) rfl
theorem k6_87 : qx sc D 6 87 ls (vi b' :: vi a' :: st) u bb σ Q ↔ (b' < a' → qx sc D 6 90 ls st u bb σ Q) ∧ (¬ (b' < a') → qx sc D 6 95 ls st u bb σ Q) := r_ic_le (off := 8) (t := 95) (by decide +kernel)
theorem k6_90 : qx sc D 6 90 ls st u bb σ Q ↔ qx sc D 6 92 ls (vi 99999 :: st) u bb σ Q := r_ldc (idx := 62) (v := 99999) (by decide +kernel)
theorem k6_92 : qx sc D 6 92 ls st u bb σ Q ↔ qx sc D 6 97 ls st u bb σ Q := r_goto (off := 5) (by decide +kernel)
theorem k6_95 : qx sc D 6 95 [l0, l1, l2, l3, l4, l5, l6, l7, vi x] st u bb σ Q ↔ qx sc D 6 97 [l0, l1, l2, l3, l4, l5, l6, l7, vi x] (vi x :: st) u bb σ Q := r_iload (k := 8) (by decide +kernel) rfl
theorem k6_97 : qx sc D 6 97 [l0, l1, l2, l3, l4, l5, l6, l7, l8] (vi x :: st) u bb σ Q ↔ qx sc D 6 99 [l0, l1, l2, l3, l4, l5, l6, l7, vi x] st u bb σ Q := r_istore (k := 8) (by decide +kernel) (Nat.le_of_ble_eq_true rfl)
theorem k6_99 : qx sc D 6 99 [l0, l1, l2, l3, l4, vi x, l6, l7, l8] st u bb σ Q ↔ qx sc D 6 101 [l0, l1, l2, l3, l4, vi x, l6, l7, l8] (vi x :: st) u bb σ Q := r_iload (k := 5) (by decide +kernel) rfl
theorem k6_101 : qx sc D 6 101 ls (vi x :: st) u bb σ Q ↔ (x = 0 → qx sc D 6 104 ls st u bb σ Q) ∧ (¬ (x = 0) → qx sc D 6 113 ls st u bb σ Q) := r_if_ne (off := 12) (t := 113) (by decide +kernel)
theorem k6_104 : qx sc D 6 104 [l0, l1, l2, l3, l4, l5, l6, l7, vi x] st u bb σ Q ↔ qx sc D 6 106 [l0, l1, l2, l3, l4, l5, l6, l7, vi x] (vi x :: st) u bb σ Q := r_iload (k := 8) (by decide +kernel) rfl
theorem k6_106 : qx sc D 6 106 [l0, vr a, l2, l3, l4, l5, l6, l7, l8] st u bb σ Q ↔ qx sc D 6 107 [l0, vr a, l2, l3, l4, l5, l6, l7, l8] (vr a :: st) u bb σ Q := r_aload_n (k := 1) (by decide +kernel) rfl
theorem k6_107 : qx sc D 6 107 [l0, l1, l2, l3, l4, l5, l6, vi x, l8] st u bb σ Q ↔ qx sc D 6 109 [l0, l1, l2, l3, l4, l5, l6, vi x, l8] (vi x :: st) u bb σ Q := r_iload (k := 7) (by decide +kernel) rfl
theorem k6_109 : qx sc D 6 109 ls (vi i :: vr a :: st) u bb σ Q ↔ (q_ty a = 0 ∧ 0 ≤ i ∧ i < q_ln a) ∧ qx sc D 6 110 ls (vi (σ a i) :: st) u bb σ Q := r_iald (by decide +kernel)
theorem k6_110 : qx sc D 6 110 ls (vi b' :: vi a' :: st) u bb σ Q ↔ (a' = b' → qx sc D 6 117 ls st u bb σ Q) ∧ (¬ (a' = b') → qx sc D 6 113 ls st u bb σ Q) := r_ic_eq (off := 7) (t := 117) (by decide +kernel)
theorem k6_113 : qx sc D 6 113 ls st u bb σ Q ↔ qx sc D 6 114 ls (vi 1 :: st) u bb σ Q := r_iconst (by decide +kernel)
theorem k6_114 : qx sc D 6 114 ls st u bb σ Q ↔ qx sc D 6 118 ls st u bb σ Q := r_goto (off := 4) (by decide +kernel)
theorem k6_117 : qx sc D 6 117 ls st u bb σ Q ↔ qx sc D 6 118 ls (vi 0 :: st) u bb σ Q := r_iconst (by decide +kernel)
theorem k6_118 : qx sc D 6 118 [l0, l1, l2, l3, l4, l5, l6, l7, l8] (vi x :: st) u bb σ Q ↔ qx sc D 6 120 [l0, l1, l2, l3, l4, vi x, l6, l7, l8] st u bb σ Q := r_istore (k := 5) (by decide +kernel) (Nat.le_of_ble_eq_true rfl)
theorem k6_120 : qx sc D 6 120 [l0, vr a, l2, l3, l4, l5, l6, l7, l8] st u bb σ Q ↔ qx sc D 6 121 [l0, vr a, l2, l3, l4, l5, l6, l7, l8] (vr a :: st) u bb σ Q := r_aload_n (k := 1) (by decide +kernel) rfl
theorem k6_121 : qx sc D 6 121 [l0, l1, l2, l3, l4, l5, l6, vi x, l8] st u bb σ Q ↔ qx sc D 6 123 [l0, l1, l2, l3, l4, l5, l6, vi x, l8] (vi x :: st) u bb σ Q := r_iload (k := 7) (by decide +kernel) rfl
theorem k6_123 : qx sc D 6 123 [l0, l1, l2, l3, l4, l5, l6, l7, vi x] st u bb σ Q ↔ qx sc D 6 125 [l0, l1, l2, l3, l4, l5, l6, l7, vi x] (vi x :: st) u bb σ Q := r_iload (k := 8) (by decide +kernel) rfl
theorem k6_125 : qx sc D 6 125 ls (vi x :: vi i :: vr a :: st) u bb σ Q ↔ (q_ty a = 0 ∧ 0 ≤ i ∧ i < q_ln a) ∧ qx sc D 6 126 ls st u bb (q_up σ a i x) Q := r_iast (by decide +kernel)
theorem k6_126 : qx sc D 6 126 [l0, l1, l2, l3, l4, l5, l6, vi x, l8] st u bb σ Q ↔ q_R (x + 1) ∧ qx sc D 6 129 [l0, l1, l2, l3, l4, l5, l6, vi (x + 1), l8] st u bb σ Q := r_iinc (k := 7) (n := 1) (by decide +kernel) rfl
theorem k6_129 : qx sc D 6 129 ls st u bb σ Q ↔ qx sc D 6 45 ls st u bb σ Q := r_goto (off := (-84)) (by decide +kernel)
theorem k6_132 : qx sc D 6 132 [l0, l1, l2, l3, l4, l5, vi x, l7, l8] st u bb σ Q ↔ q_R (x + 1) ∧ qx sc D 6 135 [l0, l1, l2, l3, l4, l5, vi (x + 1), l7, l8] st u bb σ Q := r_iinc (k := 6) (n := 1) (by decide +kernel) rfl
theorem k6_135 : qx sc D 6 135 ls st u bb σ Q ↔ qx sc D 6 27 ls st u bb σ Q := r_goto (off := (-108)) (by decide +kernel)
theorem k6_138 : qx sc D 6 138 ls [] (0, 0) bb σ Q ↔ Q (.inl none) bb σ := r_retV (by decide +kernel)
-- 7: RowProver$Bounds.solveAll(LRowProver$Code;[[II)V
theorem k7_0 : qx sc D 7 0 [vr a, l1, l2, l3, l4] st u bb σ Q ↔ qx sc D 7 1 [vr a, l1, l2, l3, l4] (vr a :: st) u bb σ Q := r_aload_n (k := 0) (by decide +kernel) rfl
theorem k7_1 : qx sc D 7 1 [l0, vr a, l2, l3, l4] st u bb σ Q ↔ qx sc D 7 2 [l0, vr a, l2, l3, l4] (vr a :: st) u bb σ Q := r_aload_n (k := 1) (by decide +kernel) rfl
theorem k7_2 : qx sc D 7 2 ls (vr b :: vr 55 :: st) u bb σ Q ↔ b < 1000000 ∧ qx sc D 7 5 ls st u bb (q_up σ 55 1 b) Q := r_putM (idx := 23) (c := 3) (k := 1) (by decide +kernel)
theorem k7_5 : qx sc D 7 5 ls st u bb σ Q ↔ qx sc D 7 6 ls (vi 0 :: st) u bb σ Q := r_iconst (by decide +kernel)
theorem k7_6 : qx sc D 7 6 [l0, l1, l2, l3, l4] (vi x :: st) u bb σ Q ↔ qx sc D 7 8 [l0, l1, l2, l3, vi x] st u bb σ Q := r_istore (k := 4) (by decide +kernel) (Nat.le_of_ble_eq_true rfl)
theorem k7_8 : qx sc D 7 8 [l0, l1, l2, l3, vi x] st u bb σ Q ↔ qx sc D 7 10 [l0, l1, l2, l3, vi x] (vi x :: st) u bb σ Q := r_iload (k := 4) (by decide +kernel) rfl
theorem k7_10 : qx sc D 7 10 ls st u bb σ Q ↔ qx sc D 7 11 ls (vi 4 :: st) u bb σ Q := r_iconst (by decide +kernel)
theorem k7_11 : qx sc D 7 11 ls (vi b' :: vi a' :: st) u bb σ Q ↔ (a' < b' → qx sc D 7 14 ls st u bb σ Q) ∧ (¬ (a' < b') → qx sc D 7 51 ls st u bb σ Q) := r_ic_ge (off := 40) (t := 51) (by decide +kernel)
theorem k7_14 : qx sc D 7 14 [l0, l1, l2, l3, vi x] st u bb σ Q ↔ qx sc D 7 16 [l0, l1, l2, l3, vi x] (vi x :: st) u bb σ Q := r_iload (k := 4) (by decide +kernel) rfl
theorem k7_16 : qx sc D 7 16 ls st u bb σ Q ↔ qx sc D 7 17 ls (vi 3 :: st) u bb σ Q := r_iconst (by decide +kernel)
theorem k7_17 : qx sc D 7 17 ls (vi b' :: vi a' :: st) u bb σ Q ↔ (a' = b' → qx sc D 7 34 ls st u bb σ Q) ∧ (¬ (a' = b') → qx sc D 7 20 ls st u bb σ Q) := r_ic_eq (off := 17) (t := 34) (by decide +kernel)
theorem k7_20 : qx sc D 7 20 [vr a, l1, l2, l3, l4] st u bb σ Q ↔ qx sc D 7 21 [vr a, l1, l2, l3, l4] (vr a :: st) u bb σ Q := r_aload_n (k := 0) (by decide +kernel) rfl
theorem k7_21 : qx sc D 7 21 ls (vr 55 :: st) u bb σ Q ↔ 0 ≤ σ 55 1 ∧ qx sc D 7 24 ls (vr (σ 55 1).toNat :: st) u bb σ Q := r_getM (idx := 23) (c := 3) (k := 1) (by decide +kernel)
theorem k7_24 (hc : q_C c) : qx sc D 7 24 ls (vr c :: st) u bb σ Q ↔ qx sc D 7 27 ls (vr (c + 1) :: st) u bb σ Q := r_getRc (idx := 27) (k := 3) (by decide +kernel) hc
theorem k7_27 : qx sc D 7 27 [l0, l1, l2, l3, vi x] st u bb σ Q ↔ qx sc D 7 29 [l0, l1, l2, l3, vi x] (vi x :: st) u bb σ Q := r_iload (k := 4) (by decide +kernel) rfl
theorem k7_29 : qx sc D 7 29 ls (vi i :: vr a :: st) u bb σ Q ↔ (q_ty a = 0 ∧ 0 ≤ i ∧ i < q_ln a) ∧ qx sc D 7 30 ls (vi (σ a i) :: st) u bb σ Q := r_iald (by decide +kernel)
theorem k7_30 : qx sc D 7 30 ls st u bb σ Q ↔ qx sc D 7 31 ls (vi (-1) :: st) u bb σ Q := r_iconst (by decide +kernel)
theorem k7_31 : qx sc D 7 31 ls (vi b' :: vi a' :: st) u bb σ Q ↔ (a' = b' → qx sc D 7 45 ls st u bb σ Q) ∧ (¬ (a' = b') → qx sc D 7 34 ls st u bb σ Q) := r_ic_eq (off := 14) (t := 45) (by decide +kernel)
theorem k7_34 : qx sc D 7 34 [vr a, l1, l2, l3, l4] st u bb σ Q ↔ qx sc D 7 35 [vr a, l1, l2, l3, l4] (vr a :: st) u bb σ Q := r_aload_n (k := 0) (by decide +kernel) rfl
theorem k7_35 : qx sc D 7 35 [l0, l1, vr a, l3, l4] st u bb σ Q ↔ qx sc D 7 36 [l0, l1, vr a, l3, l4] (vr a :: st) u bb σ Q := r_aload_n (k := 2) (by decide +kernel) rfl
theorem k7_36 : qx sc D 7 36 [l0, l1, l2, l3, vi x] st u bb σ Q ↔ qx sc D 7 38 [l0, l1, l2, l3, vi x] (vi x :: st) u bb σ Q := r_iload (k := 4) (by decide +kernel) rfl
theorem k7_38 : qx sc D 7 38 ls (vi i :: vr a :: st) u bb σ Q ↔ (q_ty a = 4 ∧ 0 ≤ i ∧ i < q_ln a) ∧ qx sc D 7 39 ls (vr (a + 1 + i.toNat) :: st) u bb σ Q := r_aald (by decide +kernel)
theorem k7_39 : qx sc D 7 39 [l0, l1, l2, l3, vi x] st u bb σ Q ↔ qx sc D 7 41 [l0, l1, l2, l3, vi x] (vi x :: st) u bb σ Q := r_iload (k := 4) (by decide +kernel) rfl
theorem k7_41 : qx sc D 7 41 [l0, l1, l2, vi x, l4] st u bb σ Q ↔ qx sc D 7 42 [l0, l1, l2, vi x, l4] (vi x :: st) u bb σ Q := r_iload_n (k := 3) (by decide +kernel) rfl
theorem k7_42 : qx sc (D + 1) 7 42 ls [vi x2, vi x1, vr a0, vr 55] (0, 0) bb σ Q ↔ qx sc D 6 0 [vr 55, vr a0, vi x1, vi x2, vn, vn, vn, vn, vn] [] (0, 0) bb σ (q_kn sc (D + 1) 7 45 ls [] (0, 0) Q) := r_callv (idx := 33) (n := 3) (m := 9) (by decide +kernel) rfl (Nat.le_of_ble_eq_true rfl) ⟨Nat.le_of_ble_eq_true rfl, Nat.le_of_ble_eq_true rfl, rfl⟩ rfl
theorem k7_45 : qx sc D 7 45 [l0, l1, l2, l3, vi x] st u bb σ Q ↔ q_R (x + 1) ∧ qx sc D 7 48 [l0, l1, l2, l3, vi (x + 1)] st u bb σ Q := r_iinc (k := 4) (n := 1) (by decide +kernel) rfl
theorem k7_48 : qx sc D 7 48 ls st u bb σ Q ↔ qx sc D 7 8 ls st u bb σ Q := r_goto (off := (-40)) (by decide +kernel)
theorem k7_51 : qx sc D 7 51 ls [] (0, 0) bb σ Q ↔ Q (.inl none) bb σ := r_retV (by decide +kernel)
-- 8: RowProver$Bounds.worth([IIII)I
theorem k8_0 : qx sc D 8 0 [vr a, l1, l2, l3, l4, l5] st u bb σ Q ↔ qx sc D 8 1 [vr a, l1, l2, l3, l4, l5] (vr a :: st) u bb σ Q := r_aload_n (k := 0) (by decide +kernel) rfl
theorem k8_1 : qx sc D 8 1 ls (vr 55 :: st) u bb σ Q ↔ qx sc D 8 4 ls (vr 9 :: st) u bb σ Q := r_getR (idx := 19) (c := 3) (k := 0) (by decide +kernel)
theorem k8_4 : qx sc D 8 4 [l0, l1, l2, vi x, l4, l5] st u bb σ Q ↔ qx sc D 8 5 [l0, l1, l2, vi x, l4, l5] (vi x :: st) u bb σ Q := r_iload_n (k := 3) (by decide +kernel) rfl
theorem k8_5 : qx sc (D + 1) 8 5 ls [vi x0, vr 9] (0, 0) bb σ Q ↔ qx sc D 90 0 [vr 9, vi x0] [] (0, 0) bb σ (q_kn sc (D + 1) 8 8 ls [] (0, 0) Q) := r_callv (idx := 78) (n := 1) (m := 2) (by decide +kernel) rfl (Nat.le_of_ble_eq_true rfl) ⟨Nat.le_of_ble_eq_true rfl, Nat.le_of_ble_eq_true rfl, rfl⟩ rfl
theorem k8_8 : qx sc D 8 8 ls (vi x :: st) u bb σ Q ↔ (x = 0 → qx sc D 8 37 ls st u bb σ Q) ∧ (¬ (x = 0) → qx sc D 8 11 ls st u bb σ Q) := r_if_eq (off := 29) (t := 37) (by decide +kernel)
theorem k8_11 : qx sc D 8 11 [l0, vr a, l2, l3, l4, l5] st u bb σ Q ↔ qx sc D 8 12 [l0, vr a, l2, l3, l4, l5] (vr a :: st) u bb σ Q := r_aload_n (k := 1) (by decide +kernel) rfl
theorem k8_12 : qx sc D 8 12 [vr a, l1, l2, l3, l4, l5] st u bb σ Q ↔ qx sc D 8 13 [vr a, l1, l2, l3, l4, l5] (vr a :: st) u bb σ Q := r_aload_n (k := 0) (by decide +kernel) rfl
theorem k8_13 : qx sc D 8 13 ls (vr 55 :: st) u bb σ Q ↔ qx sc D 8 16 ls (vr 9 :: st) u bb σ Q := r_getR (idx := 19) (c := 3) (k := 0) (by decide +kernel)
theorem k8_16 : qx sc D 8 16 ls (vr 9 :: st) u bb σ Q ↔ qx sc D 8 19 ls (vr 13 :: st) u bb σ Q := r_getR (idx := 82) (c := 13) (k := 4) (by decide +kernel)
theorem k8_19 : qx sc D 8 19 [l0, l1, l2, vi x, l4, l5] st u bb σ Q ↔ qx sc D 8 20 [l0, l1, l2, vi x, l4, l5] (vi x :: st) u bb σ Q := r_iload_n (k := 3) (by decide +kernel) rfl
theorem k8_20 : qx sc D 8 20 ls (vi i :: vr a :: st) u bb σ Q ↔ (q_ty a = 0 ∧ 0 ≤ i ∧ i < q_ln a) ∧ qx sc D 8 21 ls (vi (σ a i) :: st) u bb σ Q := r_iald (by decide +kernel)
theorem k8_21 : qx sc D 8 21 ls (vi i :: vr a :: st) u bb σ Q ↔ (q_ty a = 0 ∧ 0 ≤ i ∧ i < q_ln a) ∧ qx sc D 8 22 ls (vi (σ a i) :: st) u bb σ Q := r_iald (by decide +kernel)
theorem k8_22 : qx sc D 8 22 [l0, vr a, l2, l3, l4, l5] st u bb σ Q ↔ qx sc D 8 23 [l0, vr a, l2, l3, l4, l5] (vr a :: st) u bb σ Q := r_aload_n (k := 1) (by decide +kernel) rfl
theorem k8_23 : qx sc D 8 23 [vr a, l1, l2, l3, l4, l5] st u bb σ Q ↔ qx sc D 8 24 [vr a, l1, l2, l3, l4, l5] (vr a :: st) u bb σ Q := r_aload_n (k := 0) (by decide +kernel) rfl
theorem k8_24 : qx sc D 8 24 ls (vr 55 :: st) u bb σ Q ↔ qx sc D 8 27 ls (vr 9 :: st) u bb σ Q := r_getR (idx := 19) (c := 3) (k := 0) (by decide +kernel)
theorem k8_27 : qx sc D 8 27 ls (vr 9 :: st) u bb σ Q ↔ qx sc D 8 30 ls (vr 14 :: st) u bb σ Q := r_getR (idx := 85) (c := 13) (k := 5) (by decide +kernel)
theorem k8_30 : qx sc D 8 30 [l0, l1, l2, vi x, l4, l5] st u bb σ Q ↔ qx sc D 8 31 [l0, l1, l2, vi x, l4, l5] (vi x :: st) u bb σ Q := r_iload_n (k := 3) (by decide +kernel) rfl
theorem k8_31 : qx sc D 8 31 ls (vi i :: vr a :: st) u bb σ Q ↔ (q_ty a = 0 ∧ 0 ≤ i ∧ i < q_ln a) ∧ qx sc D 8 32 ls (vi (σ a i) :: st) u bb σ Q := r_iald (by decide +kernel)
theorem k8_32 : qx sc D 8 32 ls (vi i :: vr a :: st) u bb σ Q ↔ (q_ty a = 0 ∧ 0 ≤ i ∧ i < q_ln a) ∧ qx sc D 8 33 ls (vi (σ a i) :: st) u bb σ Q := r_iald (by decide +kernel)
theorem k8_33 : qx sc D 8 33 ls [vi b', vi a'] (0, 0) bb σ Q ↔ qx sc D 8 36 ls [vi (max a' b')] (0, 0) bb σ Q := r_max (idx := 66) (y' := 0) (by decide +kernel) (Nat.le_of_ble_eq_true rfl)
theorem k8_36 : qx sc D 8 36 ls [vi x] (0, 0) bb σ Q ↔ Q (.inl (some (vi x))) bb σ := r_ret (by decide +kernel)
theorem k8_37 : qx sc D 8 37 [vr a, l1, l2, l3, l4, l5] st u bb σ Q ↔ qx sc D 8 38 [vr a, l1, l2, l3, l4, l5] (vr a :: st) u bb σ Q := r_aload_n (k := 0) (by decide +kernel) rfl
theorem k8_38 : qx sc D 8 38 [l0, vr a, l2, l3, l4, l5] st u bb σ Q ↔ qx sc D 8 39 [l0, vr a, l2, l3, l4, l5] (vr a :: st) u bb σ Q := r_aload_n (k := 1) (by decide +kernel) rfl
theorem k8_39 : qx sc D 8 39 [l0, l1, vi x, l3, l4, l5] st u bb σ Q ↔ qx sc D 8 40 [l0, l1, vi x, l3, l4, l5] (vi x :: st) u bb σ Q := r_iload_n (k := 2) (by decide +kernel) rfl
theorem k8_40 : qx sc D 8 40 [l0, l1, l2, vi x, l4, l5] st u bb σ Q ↔ qx sc D 8 41 [l0, l1, l2, vi x, l4, l5] (vi x :: st) u bb σ Q := r_iload_n (k := 3) (by decide +kernel) rfl
theorem k8_41 : qx sc (D + 1) 8 41 ls [vi x2, vi x1, vr a0, vr 55] (0, 0) bb σ Q ↔ qx sc D 1 0 [vr 55, vr a0, vi x1, vi x2, vn] [] (0, 0) bb σ (q_kn sc (D + 1) 8 44 ls [] (0, 0) Q) := r_callv (idx := 88) (n := 3) (m := 5) (by decide +kernel) rfl (Nat.le_of_ble_eq_true rfl) ⟨Nat.le_of_ble_eq_true rfl, Nat.le_of_ble_eq_true rfl, rfl⟩ rfl
theorem k8_44 : qx sc D 8 44 [l0, l1, l2, l3, l4, l5] (vi x :: st) u bb σ Q ↔ qx sc D 8 46 [l0, l1, l2, l3, l4, vi x] st u bb σ Q := r_istore (k := 5) (by decide +kernel) (Nat.le_of_ble_eq_true rfl)
theorem k8_46 : qx sc D 8 46 [l0, l1, l2, vi x, l4, l5] st u bb σ Q ↔ qx sc D 8 47 [l0, l1, l2, vi x, l4, l5] (vi x :: st) u bb σ Q := r_iload_n (k := 3) (by decide +kernel) rfl
theorem k8_47 : qx sc D 8 47 [l0, l1, l2, l3, vi x, l5] st u bb σ Q ↔ qx sc D 8 49 [l0, l1, l2, l3, vi x, l5] (vi x :: st) u bb σ Q := r_iload (k := 4) (by decide +kernel) rfl
theorem k8_49 : qx sc D 8 49 ls (vi b' :: vi a' :: st) u bb σ Q ↔ (a' = b' → qx sc D 8 52 ls st u bb σ Q) ∧ (¬ (a' = b') → qx sc D 8 57 ls st u bb σ Q) := r_ic_ne (off := 8) (t := 57) (by decide +kernel)
theorem k8_52 : qx sc D 8 52 [l0, l1, l2, l3, l4, vi x] st u bb σ Q ↔ qx sc D 8 54 [l0, l1, l2, l3, l4, vi x] (vi x :: st) u bb σ Q := r_iload (k := 5) (by decide +kernel) rfl
theorem k8_54 : qx sc D 8 54 ls st u bb σ Q ↔ qx sc D 8 69 ls st u bb σ Q := r_goto (off := 15) (by decide +kernel)
theorem k8_57 : qx sc D 8 57 [l0, l1, l2, l3, l4, vi x] st u bb σ Q ↔ qx sc D 8 59 [l0, l1, l2, l3, l4, vi x] (vi x :: st) u bb σ Q := r_iload (k := 5) (by decide +kernel) rfl
theorem k8_59 : qx sc D 8 59 [vr a, l1, l2, l3, l4, l5] st u bb σ Q ↔ qx sc D 8 60 [vr a, l1, l2, l3, l4, l5] (vr a :: st) u bb σ Q := r_aload_n (k := 0) (by decide +kernel) rfl
theorem k8_60 : qx sc D 8 60 [l0, vr a, l2, l3, l4, l5] st u bb σ Q ↔ qx sc D 8 61 [l0, vr a, l2, l3, l4, l5] (vr a :: st) u bb σ Q := r_aload_n (k := 1) (by decide +kernel) rfl
theorem k8_61 : qx sc D 8 61 [l0, l1, vi x, l3, l4, l5] st u bb σ Q ↔ qx sc D 8 62 [l0, l1, vi x, l3, l4, l5] (vi x :: st) u bb σ Q := r_iload_n (k := 2) (by decide +kernel) rfl
theorem k8_62 : qx sc D 8 62 [l0, l1, l2, vi x, l4, l5] st u bb σ Q ↔ qx sc D 8 63 [l0, l1, l2, vi x, l4, l5] (vi x :: st) u bb σ Q := r_iload_n (k := 3) (by decide +kernel) rfl
theorem k8_63 : qx sc (D + 1) 8 63 ls [vi x2, vi x1, vr a0, vr 55, vi x20] (0, 0) bb σ Q ↔ qx sc D 2 0 [vr 55, vr a0, vi x1, vi x2, vn, vn, vn] [] (0, 0) bb σ (q_kn sc (D + 1) 8 66 ls [vi x20] (0, 0) Q) := r_callv (idx := 92) (n := 3) (m := 7) (by decide +kernel) rfl (Nat.le_of_ble_eq_true rfl) ⟨Nat.le_of_ble_eq_true rfl, Nat.le_of_ble_eq_true rfl, rfl⟩ rfl
theorem k8_66 : qx sc D 8 66 ls [vi b', vi a'] (0, 0) bb σ Q ↔ qx sc D 8 69 ls [vi (min a' b')] (0, 0) bb σ Q := r_min (idx := 95) (y' := 0) (by decide +kernel) (Nat.le_of_ble_eq_true rfl)
theorem k8_69 : qx sc D 8 69 ls [vi x] (0, 0) bb σ Q ↔ Q (.inl (some (vi x))) bb σ := r_ret (by decide +kernel)
-- 32: RowProver$Proof.countLost()I
theorem k32_0 : qx sc D 32 0 ls st u bb σ Q ↔ qx sc D 32 1 ls (vi 0 :: st) u bb σ Q := r_iconst (by decide +kernel)
theorem k32_1 : qx sc D 32 1 [l0, l1, l2, l3] (vi x :: st) u bb σ Q ↔ qx sc D 32 2 [l0, vi x, l2, l3] st u bb σ Q := r_istore_n (k := 1) (by decide +kernel) (Nat.le_of_ble_eq_true rfl)
theorem k32_2 : qx sc D 32 2 ls st u bb σ Q ↔ qx sc D 32 3 ls (vi 0 :: st) u bb σ Q := r_iconst (by decide +kernel)
theorem k32_3 : qx sc D 32 3 [l0, l1, l2, l3] (vi x :: st) u bb σ Q ↔ qx sc D 32 4 [l0, l1, vi x, l3] st u bb σ Q := r_istore_n (k := 2) (by decide +kernel) (Nat.le_of_ble_eq_true rfl)
theorem k32_4 : qx sc D 32 4 [l0, l1, vi x, l3] st u bb σ Q ↔ qx sc D 32 5 [l0, l1, vi x, l3] (vi x :: st) u bb σ Q := r_iload_n (k := 2) (by decide +kernel) rfl
theorem k32_5 : qx sc D 32 5 [vr a, l1, l2, l3] st u bb σ Q ↔ qx sc D 32 6 [vr a, l1, l2, l3] (vr a :: st) u bb σ Q := r_aload_n (k := 0) (by decide +kernel) rfl
theorem k32_6 : qx sc D 32 6 ls (vr 66 :: st) u bb σ Q ↔ 0 ≤ σ 66 3 ∧ qx sc D 32 9 ls (vr (σ 66 3).toNat :: st) u bb σ Q := r_getM (idx := 35) (c := 8) (k := 3) (by decide +kernel)
theorem k32_9 (hc : q_C c) : qx sc D 32 9 ls (vr c :: st) u bb σ Q ↔ qx sc D 32 12 ls (vi (σ c 1) :: st) u bb σ Q := r_getIc (idx := 52) (k := 1) (by decide +kernel) hc
theorem k32_12 : qx sc D 32 12 ls (vi b' :: vi a' :: st) u bb σ Q ↔ (a' < b' → qx sc D 32 15 ls st u bb σ Q) ∧ (¬ (a' < b') → qx sc D 32 65 ls st u bb σ Q) := r_ic_ge (off := 53) (t := 65) (by decide +kernel)
theorem k32_15 : qx sc D 32 15 ls st u bb σ Q ↔ qx sc D 32 16 ls (vi 0 :: st) u bb σ Q := r_iconst (by decide +kernel)
theorem k32_16 : qx sc D 32 16 [l0, l1, l2, l3] (vi x :: st) u bb σ Q ↔ qx sc D 32 17 [l0, l1, l2, vi x] st u bb σ Q := r_istore_n (k := 3) (by decide +kernel) (Nat.le_of_ble_eq_true rfl)
theorem k32_17 : qx sc D 32 17 [l0, l1, l2, vi x] st u bb σ Q ↔ qx sc D 32 18 [l0, l1, l2, vi x] (vi x :: st) u bb σ Q := r_iload_n (k := 3) (by decide +kernel) rfl
theorem k32_18 : qx sc D 32 18 ls st u bb σ Q ↔ qx sc D 32 19 ls (vi 1 :: st) u bb σ Q := r_iconst (by decide +kernel)
theorem k32_19 : qx sc D 32 19 ls (vi b' :: vi a' :: st) u bb σ Q ↔ (b' < a' → qx sc D 32 59 ls st u bb σ Q) ∧ (¬ (b' < a') → qx sc D 32 22 ls st u bb σ Q) := r_ic_gt (off := 40) (t := 59) (by decide +kernel)
theorem k32_22 : qx sc D 32 22 [vr a, l1, l2, l3] st u bb σ Q ↔ qx sc D 32 23 [vr a, l1, l2, l3] (vr a :: st) u bb σ Q := r_aload_n (k := 0) (by decide +kernel) rfl
theorem k32_23 : qx sc D 32 23 ls (vr 66 :: st) u bb σ Q ↔ qx sc D 32 26 ls (vr 69 :: st) u bb σ Q := r_getR (idx := 20) (c := 8) (k := 7) (by decide +kernel)
theorem k32_26 : qx sc D 32 26 [l0, l1, l2, vi x] st u bb σ Q ↔ qx sc D 32 27 [l0, l1, l2, vi x] (vi x :: st) u bb σ Q := r_iload_n (k := 3) (by decide +kernel) rfl
theorem k32_27 : qx sc D 32 27 ls (vi i :: vr a :: st) u bb σ Q ↔ (q_ty a = 4 ∧ 0 ≤ i ∧ i < q_ln a) ∧ qx sc D 32 28 ls (vr (a + 1 + i.toNat) :: st) u bb σ Q := r_aald (by decide +kernel)
theorem k32_28 : qx sc D 32 28 [l0, l1, vi x, l3] st u bb σ Q ↔ qx sc D 32 29 [l0, l1, vi x, l3] (vi x :: st) u bb σ Q := r_iload_n (k := 2) (by decide +kernel) rfl
theorem k32_29 : qx sc D 32 29 ls (vi i :: vr a :: st) u bb σ Q ↔ (q_ty a = 0 ∧ 0 ≤ i ∧ i < q_ln a) ∧ qx sc D 32 30 ls (vi (σ a i) :: st) u bb σ Q := r_iald (by decide +kernel)
theorem k32_30 : qx sc D 32 30 ls st u bb σ Q ↔ qx sc D 32 31 ls (vi 1 :: st) u bb σ Q := r_iconst (by decide +kernel)
theorem k32_31 : qx sc D 32 31 ls (vi b' :: vi a' :: st) u bb σ Q ↔ (a' = b' → qx sc D 32 34 ls st u bb σ Q) ∧ (¬ (a' = b') → qx sc D 32 53 ls st u bb σ Q) := r_ic_ne (off := 22) (t := 53) (by decide +kernel)
theorem k32_34 : qx sc D 32 34 [vr a, l1, l2, l3] st u bb σ Q ↔ qx sc D 32 35 [vr a, l1, l2, l3] (vr a :: st) u bb σ Q := r_aload_n (k := 0) (by decide +kernel) rfl
theorem k32_35 : qx sc D 32 35 [vr a, l1, l2, l3] st u bb σ Q ↔ qx sc D 32 36 [vr a, l1, l2, l3] (vr a :: st) u bb σ Q := r_aload_n (k := 0) (by decide +kernel) rfl
theorem k32_36 : qx sc D 32 36 ls (vr 66 :: st) u bb σ Q ↔ qx sc D 32 39 ls (vr 55 :: st) u bb σ Q := r_getR (idx := 31) (c := 8) (k := 2) (by decide +kernel)
theorem k32_39 : qx sc D 32 39 ls (vr 55 :: st) u bb σ Q ↔ qx sc D 32 42 ls (vr 61 :: st) u bb σ Q := r_getR (idx := 74) (c := 3) (k := 3) (by decide +kernel)
theorem k32_42 : qx sc D 32 42 [l0, l1, vi x, l3] st u bb σ Q ↔ qx sc D 32 43 [l0, l1, vi x, l3] (vi x :: st) u bb σ Q := r_iload_n (k := 2) (by decide +kernel) rfl
theorem k32_43 : qx sc D 32 43 [l0, l1, l2, vi x] st u bb σ Q ↔ qx sc D 32 44 [l0, l1, l2, vi x] (vi x :: st) u bb σ Q := r_iload_n (k := 3) (by decide +kernel) rfl
theorem k32_44 : qx sc (D + 1) 32 44 ls [vi x2, vi x1, vr a0, vr 66] (0, 0) bb σ Q ↔ qx sc D 33 0 [vr 66, vr a0, vi x1, vi x2, vn] [] (0, 0) bb σ (q_kn sc (D + 1) 32 47 ls [] (0, 0) Q) := r_callv (idx := 62) (n := 3) (m := 5) (by decide +kernel) rfl (Nat.le_of_ble_eq_true rfl) ⟨Nat.le_of_ble_eq_true rfl, Nat.le_of_ble_eq_true rfl, rfl⟩ rfl
theorem k32_47 : qx sc D 32 47 ls (vi x :: st) u bb σ Q ↔ (x = 0 → qx sc D 32 50 ls st u bb σ Q) ∧ (¬ (x = 0) → qx sc D 32 53 ls st u bb σ Q) := r_if_ne (off := 6) (t := 53) (by decide +kernel)
theorem k32_50 : qx sc D 32 50 [l0, vi x, l2, l3] st u bb σ Q ↔ q_R (x + 1) ∧ qx sc D 32 53 [l0, vi (x + 1), l2, l3] st u bb σ Q := r_iinc (k := 1) (n := 1) (by decide +kernel) rfl
theorem k32_53 : qx sc D 32 53 [l0, l1, l2, vi x] st u bb σ Q ↔ q_R (x + 1) ∧ qx sc D 32 56 [l0, l1, l2, vi (x + 1)] st u bb σ Q := r_iinc (k := 3) (n := 1) (by decide +kernel) rfl
theorem k32_56 : qx sc D 32 56 ls st u bb σ Q ↔ qx sc D 32 17 ls st u bb σ Q := r_goto (off := (-39)) (by decide +kernel)
theorem k32_59 : qx sc D 32 59 [l0, l1, vi x, l3] st u bb σ Q ↔ q_R (x + 1) ∧ qx sc D 32 62 [l0, l1, vi (x + 1), l3] st u bb σ Q := r_iinc (k := 2) (n := 1) (by decide +kernel) rfl
theorem k32_62 : qx sc D 32 62 ls st u bb σ Q ↔ qx sc D 32 4 ls st u bb σ Q := r_goto (off := (-58)) (by decide +kernel)
theorem k32_65 : qx sc D 32 65 [l0, vi x, l2, l3] st u bb σ Q ↔ qx sc D 32 66 [l0, vi x, l2, l3] (vi x :: st) u bb σ Q := r_iload_n (k := 1) (by decide +kernel) rfl
theorem k32_66 : qx sc D 32 66 ls [vi x] (0, 0) bb σ Q ↔ Q (.inl (some (vi x))) bb σ := r_ret (by decide +kernel)
-- 33: RowProver$Proof.holds([[III)Z
theorem k33_0 : qx sc D 33 0 [vr a, l1, l2, l3, l4] st u bb σ Q ↔ qx sc D 33 1 [vr a, l1, l2, l3, l4] (vr a :: st) u bb σ Q := r_aload_n (k := 0) (by decide +kernel) rfl
theorem k33_1 : qx sc D 33 1 ls (vr 66 :: st) u bb σ Q ↔ qx sc D 33 4 ls (vr 27 :: st) u bb σ Q := r_getR (idx := 27) (c := 8) (k := 1) (by decide +kernel)
theorem k33_4 : qx sc D 33 4 ls (vr 27 :: st) u bb σ Q ↔ qx sc D 33 7 ls (vr 28 :: st) u bb σ Q := r_getR (idx := 66) (c := 6) (k := 0) (by decide +kernel)
theorem k33_7 : qx sc D 33 7 [l0, l1, vi x, l3, l4] st u bb σ Q ↔ qx sc D 33 8 [l0, l1, vi x, l3, l4] (vi x :: st) u bb σ Q := r_iload_n (k := 2) (by decide +kernel) rfl
theorem k33_8 : qx sc D 33 8 ls (vi i :: vr a :: st) u bb σ Q ↔ (q_ty a = 0 ∧ 0 ≤ i ∧ i < q_ln a) ∧ qx sc D 33 9 ls (vi (σ a i) :: st) u bb σ Q := r_iald (by decide +kernel)
theorem k33_9 : qx sc D 33 9 [l0, l1, l2, l3, l4] (vi x :: st) u bb σ Q ↔ qx sc D 33 11 [l0, l1, l2, l3, vi x] st u bb σ Q := r_istore (k := 4) (by decide +kernel) (Nat.le_of_ble_eq_true rfl)
theorem k33_11 : qx sc D 33 11 [l0, l1, l2, vi x, l4] st u bb σ Q ↔ qx sc D 33 12 [l0, l1, l2, vi x, l4] (vi x :: st) u bb σ Q := r_iload_n (k := 3) (by decide +kernel) rfl
theorem k33_12 : qx sc D 33 12 ls (vi x :: st) u bb σ Q ↔ (x = 0 → qx sc D 33 15 ls st u bb σ Q) ∧ (¬ (x = 0) → qx sc D 33 41 ls st u bb σ Q) := r_if_ne (off := 29) (t := 41) (by decide +kernel)
theorem k33_15 : qx sc D 33 15 [l0, vr a, l2, l3, l4] st u bb σ Q ↔ qx sc D 33 16 [l0, vr a, l2, l3, l4] (vr a :: st) u bb σ Q := r_aload_n (k := 1) (by decide +kernel) rfl
theorem k33_16 : qx sc D 33 16 [vr a, l1, l2, l3, l4] st u bb σ Q ↔ qx sc D 33 17 [vr a, l1, l2, l3, l4] (vr a :: st) u bb σ Q := r_aload_n (k := 0) (by decide +kernel) rfl
theorem k33_17 : qx sc D 33 17 ls (vr 66 :: st) u bb σ Q ↔ 0 ≤ σ 66 3 ∧ qx sc D 33 20 ls (vr (σ 66 3).toNat :: st) u bb σ Q := r_getM (idx := 35) (c := 8) (k := 3) (by decide +kernel)
theorem k33_20 (hc : q_C c) : qx sc D 33 20 ls (vr c :: st) u bb σ Q ↔ qx sc D 33 23 ls (vr (c + 13) :: st) u bb σ Q := r_getRc (idx := 71) (k := 15) (by decide +kernel) hc
theorem k33_23 : qx sc D 33 23 [l0, l1, vi x, l3, l4] st u bb σ Q ↔ qx sc D 33 24 [l0, l1, vi x, l3, l4] (vi x :: st) u bb σ Q := r_iload_n (k := 2) (by decide +kernel) rfl
theorem k33_24 : qx sc D 33 24 ls (vi i :: vr a :: st) u bb σ Q ↔ (q_ty a = 0 ∧ 0 ≤ i ∧ i < q_ln a) ∧ qx sc D 33 25 ls (vi (σ a i) :: st) u bb σ Q := r_iald (by decide +kernel)
theorem k33_25 : qx sc D 33 25 ls (vi i :: vr a :: st) u bb σ Q ↔ (q_ty a = 4 ∧ 0 ≤ i ∧ i < q_ln a) ∧ qx sc D 33 26 ls (vr (a + 1 + i.toNat) :: st) u bb σ Q := r_aald (by decide +kernel)
theorem k33_26 : qx sc D 33 26 [l0, l1, l2, l3, vi x] st u bb σ Q ↔ qx sc D 33 28 [l0, l1, l2, l3, vi x] (vi x :: st) u bb σ Q := r_iload (k := 4) (by decide +kernel) rfl
theorem k33_28 : qx sc D 33 28 ls (vi i :: vr a :: st) u bb σ Q ↔ (q_ty a = 0 ∧ 0 ≤ i ∧ i < q_ln a) ∧ qx sc D 33 29 ls (vi (σ a i) :: st) u bb σ Q := r_iald (by decide +kernel)
theorem k33_29 : qx sc D 33 29 ls st u bb σ Q ↔ qx sc D 33 30 ls (vi (-1) :: st) u bb σ Q := r_iconst (by decide +kernel)
theorem k33_30 : qx sc D 33 30 ls (vi b' :: vi a' :: st) u bb σ Q ↔ (b' < a' → qx sc D 33 37 ls st u bb σ Q) ∧ (¬ (b' < a') → qx sc D 33 33 ls st u bb σ Q) := r_ic_gt (off := 7) (t := 37) (by decide +kernel)
theorem k33_33 : qx sc D 33 33 ls st u bb σ Q ↔ qx sc D 33 34 ls (vi 1 :: st) u bb σ Q := r_iconst (by decide +kernel)
theorem k33_34 : qx sc D 33 34 ls st u bb σ Q ↔ qx sc D 33 55 ls st u bb σ Q := r_goto (off := 21) (by decide +kernel)
theorem k33_37 : qx sc D 33 37 ls st u bb σ Q ↔ qx sc D 33 38 ls (vi 0 :: st) u bb σ Q := r_iconst (by decide +kernel)
theorem k33_38 : qx sc D 33 38 ls st u bb σ Q ↔ qx sc D 33 55 ls st u bb σ Q := r_goto (off := 17) (by decide +kernel)
theorem k33_41 : qx sc D 33 41 [l0, vr a, l2, l3, l4] st u bb σ Q ↔ qx sc D 33 42 [l0, vr a, l2, l3, l4] (vr a :: st) u bb σ Q := r_aload_n (k := 1) (by decide +kernel) rfl
theorem k33_42 : qx sc D 33 42 ls st u bb σ Q ↔ qx sc D 33 43 ls (vi 3 :: st) u bb σ Q := r_iconst (by decide +kernel)
theorem k33_43 : qx sc D 33 43 ls (vi i :: vr a :: st) u bb σ Q ↔ (q_ty a = 4 ∧ 0 ≤ i ∧ i < q_ln a) ∧ qx sc D 33 44 ls (vr (a + 1 + i.toNat) :: st) u bb σ Q := r_aald (by decide +kernel)
theorem k33_44 : qx sc D 33 44 [l0, l1, l2, l3, vi x] st u bb σ Q ↔ qx sc D 33 46 [l0, l1, l2, l3, vi x] (vi x :: st) u bb σ Q := r_iload (k := 4) (by decide +kernel) rfl
theorem k33_46 : qx sc D 33 46 ls (vi i :: vr a :: st) u bb σ Q ↔ (q_ty a = 0 ∧ 0 ≤ i ∧ i < q_ln a) ∧ qx sc D 33 47 ls (vi (σ a i) :: st) u bb σ Q := r_iald (by decide +kernel)
theorem k33_47 : qx sc D 33 47 ls (vi x :: st) u bb σ Q ↔ (0 < x → qx sc D 33 54 ls st u bb σ Q) ∧ (¬ (0 < x) → qx sc D 33 50 ls st u bb σ Q) := r_if_gt (off := 7) (t := 54) (by decide +kernel)
theorem k33_50 : qx sc D 33 50 ls st u bb σ Q ↔ qx sc D 33 51 ls (vi 1 :: st) u bb σ Q := r_iconst (by decide +kernel)
theorem k33_51 : qx sc D 33 51 ls st u bb σ Q ↔ qx sc D 33 55 ls st u bb σ Q := r_goto (off := 4) (by decide +kernel)
theorem k33_54 : qx sc D 33 54 ls st u bb σ Q ↔ qx sc D 33 55 ls (vi 0 :: st) u bb σ Q := r_iconst (by decide +kernel)
theorem k33_55 : qx sc D 33 55 ls [vi x] (0, 0) bb σ Q ↔ (x = 0 ∨ x = 1) ∧ Q (.inl (some (vi x))) bb σ := r_retB (by decide +kernel)
-- 34: RowProver$Proof.link(IZI)I
theorem k34_0 : qx sc D 34 0 [l0, l1, l2, vi x, l4, l5, l6] st u bb σ Q ↔ qx sc D 34 1 [l0, l1, l2, vi x, l4, l5, l6] (vi x :: st) u bb σ Q := r_iload_n (k := 3) (by decide +kernel) rfl
theorem k34_1 : qx sc D 34 1 ls (vi x :: st) u bb σ Q ↔ (x < 0 → qx sc D 34 11 ls st u bb σ Q) ∧ (¬ (x < 0) → qx sc D 34 4 ls st u bb σ Q) := r_if_lt (off := 10) (t := 11) (by decide +kernel)
theorem k34_4 : qx sc D 34 4 [l0, l1, l2, vi x, l4, l5, l6] st u bb σ Q ↔ qx sc D 34 5 [l0, l1, l2, vi x, l4, l5, l6] (vi x :: st) u bb σ Q := r_iload_n (k := 3) (by decide +kernel) rfl
theorem k34_5 : qx sc D 34 5 ls st u bb σ Q ↔ qx sc D 34 8 ls (vi 240 :: st) u bb σ Q := r_sipush (by decide +kernel)
theorem k34_8 : qx sc D 34 8 ls (vi b' :: vi a' :: st) u bb σ Q ↔ (b' < a' → qx sc D 34 11 ls st u bb σ Q) ∧ (¬ (b' < a') → qx sc D 34 13 ls st u bb σ Q) := r_ic_le (off := 5) (t := 13) (by decide +kernel)
theorem k34_11 : qx sc D 34 11 ls st u bb σ Q ↔ qx sc D 34 12 ls (vi (-1) :: st) u bb σ Q := r_iconst (by decide +kernel)
theorem k34_12 : qx sc D 34 12 ls [vi x] (0, 0) bb σ Q ↔ Q (.inl (some (vi x))) bb σ := r_ret (by decide +kernel)
theorem k34_13 : qx sc D 34 13 [l0, l1, vi x, l3, l4, l5, l6] st u bb σ Q ↔ qx sc D 34 14 [l0, l1, vi x, l3, l4, l5, l6] (vi x :: st) u bb σ Q := r_iload_n (k := 2) (by decide +kernel) rfl
theorem k34_14 : qx sc D 34 14 ls (vi x :: st) u bb σ Q ↔ (x = 0 → qx sc D 34 29 ls st u bb σ Q) ∧ (¬ (x = 0) → qx sc D 34 17 ls st u bb σ Q) := r_if_eq (off := 15) (t := 29) (by decide +kernel)
theorem k34_17 : qx sc D 34 17 [vr a, l1, l2, l3, l4, l5, l6] st u bb σ Q ↔ qx sc D 34 18 [vr a, l1, l2, l3, l4, l5, l6] (vr a :: st) u bb σ Q := r_aload_n (k := 0) (by decide +kernel) rfl
theorem k34_18 : qx sc D 34 18 ls (vr 66 :: st) u bb σ Q ↔ 0 ≤ σ 66 3 ∧ qx sc D 34 21 ls (vr (σ 66 3).toNat :: st) u bb σ Q := r_getM (idx := 35) (c := 8) (k := 3) (by decide +kernel)
theorem k34_21 (hc : q_C c) : qx sc D 34 21 ls (vr c :: st) u bb σ Q ↔ qx sc D 34 24 ls (vr (c + 13) :: st) u bb σ Q := r_getRc (idx := 71) (k := 15) (by decide +kernel) hc
theorem k34_24 : qx sc D 34 24 [l0, vi x, l2, l3, l4, l5, l6] st u bb σ Q ↔ qx sc D 34 25 [l0, vi x, l2, l3, l4, l5, l6] (vi x :: st) u bb σ Q := r_iload_n (k := 1) (by decide +kernel) rfl
theorem k34_25 : qx sc D 34 25 ls (vi i :: vr a :: st) u bb σ Q ↔ (q_ty a = 0 ∧ 0 ≤ i ∧ i < q_ln a) ∧ qx sc D 34 26 ls (vi (σ a i) :: st) u bb σ Q := r_iald (by decide +kernel)
theorem k34_26 : qx sc D 34 26 ls st u bb σ Q ↔ qx sc D 34 30 ls st u bb σ Q := r_goto (off := 4) (by decide +kernel)
theorem k34_29 : qx sc D 34 29 ls st u bb σ Q ↔ qx sc D 34 30 ls (vi 3 :: st) u bb σ Q := r_iconst (by decide +kernel)
theorem k34_30 : qx sc D 34 30 [l0, l1, l2, l3, l4, l5, l6] (vi x :: st) u bb σ Q ↔ qx sc D 34 32 [l0, l1, l2, l3, vi x, l5, l6] st u bb σ Q := r_istore (k := 4) (by decide +kernel) (Nat.le_of_ble_eq_true rfl)
theorem k34_32 : qx sc D 34 32 [vr a, l1, l2, l3, l4, l5, l6] st u bb σ Q ↔ qx sc D 34 33 [vr a, l1, l2, l3, l4, l5, l6] (vr a :: st) u bb σ Q := r_aload_n (k := 0) (by decide +kernel) rfl
theorem k34_33 : qx sc D 34 33 ls (vr a :: st) u bb σ Q ↔ qx sc D 34 34 ls (vr a :: vr a :: st) u bb σ Q := r_dupA (by decide +kernel)
theorem k34_34 : qx sc D 34 34 ls (vr 66 :: st) u bb σ Q ↔ qx sc D 34 37 ls (vi (σ 66 5) :: st) u bb σ Q := r_getI (idx := 88) (c := 8) (k := 5) (by decide +kernel)
theorem k34_37 : qx sc D 34 37 ls st u bb σ Q ↔ qx sc D 34 38 ls (vi 1 :: st) u bb σ Q := r_iconst (by decide +kernel)
theorem k34_38 : qx sc D 34 38 ls (vi b' :: vi a' :: st) u bb σ Q ↔ q_R (a' + b') ∧ qx sc D 34 39 ls (vi (a' + b') :: st) u bb σ Q := r_iadd (by decide +kernel)
theorem k34_39 : qx sc D 34 39 ls (vi x :: vr 66 :: st) u bb σ Q ↔ qx sc D 34 42 ls st u bb (q_up σ 66 5 x) Q := r_putI (idx := 88) (c := 8) (k := 5) (by decide +kernel)
theorem k34_42 : qx sc D 34 42 [vr a, l1, l2, l3, l4, l5, l6] st u bb σ Q ↔ qx sc D 34 43 [vr a, l1, l2, l3, l4, l5, l6] (vr a :: st) u bb σ Q := r_aload_n (k := 0) (by decide +kernel) rfl
theorem k34_43 : qx sc D 34 43 ls (vr 66 :: st) u bb σ Q ↔ qx sc D 34 46 ls (vr 27 :: st) u bb σ Q := r_getR (idx := 27) (c := 8) (k := 1) (by decide +kernel)
theorem k34_46 : qx sc D 34 46 ls (vr 27 :: st) u bb σ Q ↔ qx sc D 34 49 ls (vr 28 :: st) u bb σ Q := r_getR (idx := 66) (c := 6) (k := 0) (by decide +kernel)
theorem k34_49 : qx sc D 34 49 [l0, vi x, l2, l3, l4, l5, l6] st u bb σ Q ↔ qx sc D 34 50 [l0, vi x, l2, l3, l4, l5, l6] (vi x :: st) u bb σ Q := r_iload_n (k := 1) (by decide +kernel) rfl
theorem k34_50 : qx sc D 34 50 ls (vi i :: vr a :: st) u bb σ Q ↔ (q_ty a = 0 ∧ 0 ≤ i ∧ i < q_ln a) ∧ qx sc D 34 51 ls (vi (σ a i) :: st) u bb σ Q := r_iald (by decide +kernel)
theorem k34_51 : qx sc D 34 51 [l0, l1, l2, l3, l4, l5, l6] (vi x :: st) u bb σ Q ↔ qx sc D 34 53 [l0, l1, l2, l3, l4, vi x, l6] st u bb σ Q := r_istore (k := 5) (by decide +kernel) (Nat.le_of_ble_eq_true rfl)
theorem k34_53 : qx sc D 34 53 ls st u bb σ Q ↔ qx sc D 34 54 ls (vi 0 :: st) u bb σ Q := r_iconst (by decide +kernel)
theorem k34_54 : qx sc D 34 54 [l0, l1, l2, l3, l4, l5, l6] (vi x :: st) u bb σ Q ↔ qx sc D 34 56 [l0, l1, l2, l3, l4, l5, vi x] st u bb σ Q := r_istore (k := 6) (by decide +kernel) (Nat.le_of_ble_eq_true rfl)
theorem k34_56 : qx sc D 34 56 [l0, l1, l2, l3, l4, l5, vi x] st u bb σ Q ↔ qx sc D 34 58 [l0, l1, l2, l3, l4, l5, vi x] (vi x :: st) u bb σ Q := r_iload (k := 6) (by decide +kernel) rfl
theorem k34_58 : qx sc D 34 58 [l0, l1, l2, vi x, l4, l5, l6] st u bb σ Q ↔ qx sc D 34 59 [l0, l1, l2, vi x, l4, l5, l6] (vi x :: st) u bb σ Q := r_iload_n (k := 3) (by decide +kernel) rfl
theorem k34_59 : qx sc D 34 59 ls (vi b' :: vi a' :: st) u bb σ Q ↔ (a' < b' → qx sc D 34 62 ls st u bb σ Q) ∧ (¬ (a' < b') → qx sc D 34 108 ls st u bb σ Q) := r_ic_ge (off := 49) (t := 108) (by decide +kernel)
theorem k34_62 : qx sc D 34 62 [l0, l1, l2, l3, l4, vi x, l6] st u bb σ Q ↔ qx sc D 34 64 [l0, l1, l2, l3, l4, vi x, l6] (vi x :: st) u bb σ Q := r_iload (k := 5) (by decide +kernel) rfl
theorem k34_64 : qx sc D 34 64 ls (vi x :: st) u bb σ Q ↔ (x < 0 → qx sc D 34 79 ls st u bb σ Q) ∧ (¬ (x < 0) → qx sc D 34 67 ls st u bb σ Q) := r_if_lt (off := 15) (t := 79) (by decide +kernel)
theorem k34_67 : qx sc D 34 67 [l0, l1, l2, l3, l4, vi x, l6] st u bb σ Q ↔ qx sc D 34 69 [l0, l1, l2, l3, l4, vi x, l6] (vi x :: st) u bb σ Q := r_iload (k := 5) (by decide +kernel) rfl
theorem k34_69 : qx sc D 34 69 [vr a, l1, l2, l3, l4, l5, l6] st u bb σ Q ↔ qx sc D 34 70 [vr a, l1, l2, l3, l4, l5, l6] (vr a :: st) u bb σ Q := r_aload_n (k := 0) (by decide +kernel) rfl
theorem k34_70 : qx sc D 34 70 ls (vr 66 :: st) u bb σ Q ↔ qx sc D 34 73 ls (vr 9 :: st) u bb σ Q := r_getR (idx := 23) (c := 8) (k := 0) (by decide +kernel)
theorem k34_73 : qx sc D 34 73 ls (vr 9 :: st) u bb σ Q ↔ qx sc D 34 76 ls (vi (σ 9 0) :: st) u bb σ Q := r_getI (idx := 91) (c := 13) (k := 0) (by decide +kernel)
theorem k34_76 : qx sc D 34 76 ls (vi b' :: vi a' :: st) u bb σ Q ↔ (a' < b' → qx sc D 34 81 ls st u bb σ Q) ∧ (¬ (a' < b') → qx sc D 34 79 ls st u bb σ Q) := r_ic_lt (off := 5) (t := 81) (by decide +kernel)
theorem k34_79 : qx sc D 34 79 ls st u bb σ Q ↔ qx sc D 34 80 ls (vi (-1) :: st) u bb σ Q := r_iconst (by decide +kernel)
theorem k34_80 : qx sc D 34 80 ls [vi x] (0, 0) bb σ Q ↔ Q (.inl (some (vi x))) bb σ := r_ret (by decide +kernel)
theorem k34_81 : qx sc D 34 81 [vr a, l1, l2, l3, l4, l5, l6] st u bb σ Q ↔ qx sc D 34 82 [vr a, l1, l2, l3, l4, l5, l6] (vr a :: st) u bb σ Q := r_aload_n (k := 0) (by decide +kernel) rfl
theorem k34_82 : qx sc D 34 82 ls (vr 66 :: st) u bb σ Q ↔ qx sc D 34 85 ls (vr 67 :: st) u bb σ Q := r_getR (idx := 9) (c := 8) (k := 4) (by decide +kernel)
theorem k34_85 : qx sc D 34 85 [l0, l1, l2, l3, l4, vi x, l6] st u bb σ Q ↔ qx sc D 34 87 [l0, l1, l2, l3, l4, vi x, l6] (vi x :: st) u bb σ Q := r_iload (k := 5) (by decide +kernel) rfl
theorem k34_87 : qx sc D 34 87 [vr a, l1, l2, l3, l4, l5, l6] st u bb σ Q ↔ qx sc D 34 88 [vr a, l1, l2, l3, l4, l5, l6] (vr a :: st) u bb σ Q := r_aload_n (k := 0) (by decide +kernel) rfl
theorem k34_88 : qx sc D 34 88 ls (vr 66 :: st) u bb σ Q ↔ qx sc D 34 91 ls (vi (σ 66 5) :: st) u bb σ Q := r_getI (idx := 88) (c := 8) (k := 5) (by decide +kernel)
theorem k34_91 : qx sc D 34 91 ls (vi x :: vi i :: vr a :: st) u bb σ Q ↔ (q_ty a = 0 ∧ 0 ≤ i ∧ i < q_ln a) ∧ qx sc D 34 92 ls st u bb (q_up σ a i x) Q := r_iast (by decide +kernel)
theorem k34_92 : qx sc D 34 92 [vr a, l1, l2, l3, l4, l5, l6] st u bb σ Q ↔ qx sc D 34 93 [vr a, l1, l2, l3, l4, l5, l6] (vr a :: st) u bb σ Q := r_aload_n (k := 0) (by decide +kernel) rfl
theorem k34_93 : qx sc D 34 93 [l0, l1, l2, l3, vi x, l5, l6] st u bb σ Q ↔ qx sc D 34 95 [l0, l1, l2, l3, vi x, l5, l6] (vi x :: st) u bb σ Q := r_iload (k := 4) (by decide +kernel) rfl
theorem k34_95 : qx sc D 34 95 [l0, l1, l2, l3, l4, vi x, l6] st u bb σ Q ↔ qx sc D 34 97 [l0, l1, l2, l3, l4, vi x, l6] (vi x :: st) u bb σ Q := r_iload (k := 5) (by decide +kernel) rfl
theorem k34_97 : qx sc (D + 1) 34 97 ls [vi x1, vi x0, vr 66] (0, 0) bb σ Q ↔ qx sc D 36 0 [vr 66, vi x0, vi x1, vn, vn, vn] [] (0, 0) bb σ (q_kn sc (D + 1) 34 100 ls [] (0, 0) Q) := r_callv (idx := 96) (n := 2) (m := 6) (by decide +kernel) rfl (Nat.le_of_ble_eq_true rfl) ⟨Nat.le_of_ble_eq_true rfl, Nat.le_of_ble_eq_true rfl, rfl⟩ rfl
theorem k34_100 : qx sc D 34 100 [l0, l1, l2, l3, l4, l5, l6] (vi x :: st) u bb σ Q ↔ qx sc D 34 102 [l0, l1, l2, l3, l4, vi x, l6] st u bb σ Q := r_istore (k := 5) (by decide +kernel) (Nat.le_of_ble_eq_true rfl)
theorem k34_102 : qx sc D 34 102 [l0, l1, l2, l3, l4, l5, vi x] st u bb σ Q ↔ q_R (x + 1) ∧ qx sc D 34 105 [l0, l1, l2, l3, l4, l5, vi (x + 1)] st u bb σ Q := r_iinc (k := 6) (n := 1) (by decide +kernel) rfl
theorem k34_105 : qx sc D 34 105 ls st u bb σ Q ↔ qx sc D 34 56 ls st u bb σ Q := r_goto (off := (-49)) (by decide +kernel)
theorem k34_108 : qx sc D 34 108 [l0, l1, l2, l3, l4, vi x, l6] st u bb σ Q ↔ qx sc D 34 110 [l0, l1, l2, l3, l4, vi x, l6] (vi x :: st) u bb σ Q := r_iload (k := 5) (by decide +kernel) rfl
theorem k34_110 : qx sc D 34 110 ls [vi x] (0, 0) bb σ Q ↔ Q (.inl (some (vi x))) bb σ := r_ret (by decide +kernel)
-- 35: RowProver$Proof.lostWithout(I)I
theorem k35_0 : qx sc D 35 0 [vr a, l1] st u bb σ Q ↔ qx sc D 35 1 [vr a, l1] (vr a :: st) u bb σ Q := r_aload_n (k := 0) (by decide +kernel) rfl
theorem k35_1 : qx sc D 35 1 ls (vr 66 :: st) u bb σ Q ↔ qx sc D 35 4 ls (vr 68 :: st) u bb σ Q := r_getR (idx := 15) (c := 8) (k := 6) (by decide +kernel)
theorem k35_4 : qx sc D 35 4 [l0, vi x] st u bb σ Q ↔ qx sc D 35 5 [l0, vi x] (vi x :: st) u bb σ Q := r_iload_n (k := 1) (by decide +kernel) rfl
theorem k35_5 : qx sc D 35 5 ls (vi i :: vr a :: st) u bb σ Q ↔ (q_ty a = 0 ∧ 0 ≤ i ∧ i < q_ln a) ∧ qx sc D 35 6 ls (vi (σ a i) :: st) u bb σ Q := r_iald (by decide +kernel)
theorem k35_6 : qx sc D 35 6 ls st u bb σ Q ↔ qx sc D 35 7 ls (vi (-1) :: st) u bb σ Q := r_iconst (by decide +kernel)
theorem k35_7 : qx sc D 35 7 ls (vi b' :: vi a' :: st) u bb σ Q ↔ (a' = b' → qx sc D 35 10 ls st u bb σ Q) ∧ (¬ (a' = b') → qx sc D 35 47 ls st u bb σ Q) := r_ic_ne (off := 40) (t := 47) (by decide +kernel)
theorem k35_10 : qx sc D 35 10 [vr a, l1] st u bb σ Q ↔ qx sc D 35 11 [vr a, l1] (vr a :: st) u bb σ Q := r_aload_n (k := 0) (by decide +kernel) rfl
theorem k35_11 : qx sc D 35 11 ls (vr 66 :: st) u bb σ Q ↔ qx sc D 35 14 ls (vr 55 :: st) u bb σ Q := r_getR (idx := 31) (c := 8) (k := 2) (by decide +kernel)
theorem k35_14 : qx sc D 35 14 [vr a, l1] st u bb σ Q ↔ qx sc D 35 15 [vr a, l1] (vr a :: st) u bb σ Q := r_aload_n (k := 0) (by decide +kernel) rfl
theorem k35_15 : qx sc D 35 15 ls (vr 66 :: st) u bb σ Q ↔ 0 ≤ σ 66 3 ∧ qx sc D 35 18 ls (vr (σ 66 3).toNat :: st) u bb σ Q := r_getM (idx := 35) (c := 8) (k := 3) (by decide +kernel)
theorem k35_18 : qx sc D 35 18 [vr a, l1] st u bb σ Q ↔ qx sc D 35 19 [vr a, l1] (vr a :: st) u bb σ Q := r_aload_n (k := 0) (by decide +kernel) rfl
theorem k35_19 : qx sc D 35 19 ls (vr 66 :: st) u bb σ Q ↔ qx sc D 35 22 ls (vr 55 :: st) u bb σ Q := r_getR (idx := 31) (c := 8) (k := 2) (by decide +kernel)
theorem k35_22 : qx sc D 35 22 ls (vr 55 :: st) u bb σ Q ↔ qx sc D 35 25 ls (vr 61 :: st) u bb σ Q := r_getR (idx := 74) (c := 3) (k := 3) (by decide +kernel)
theorem k35_25 : qx sc D 35 25 [vr a, l1] st u bb σ Q ↔ qx sc D 35 26 [vr a, l1] (vr a :: st) u bb σ Q := r_aload_n (k := 0) (by decide +kernel) rfl
theorem k35_26 : qx sc D 35 26 ls (vr 66 :: st) u bb σ Q ↔ qx sc D 35 29 ls (vr 27 :: st) u bb σ Q := r_getR (idx := 27) (c := 8) (k := 1) (by decide +kernel)
theorem k35_29 : qx sc D 35 29 ls (vr 27 :: st) u bb σ Q ↔ qx sc D 35 32 ls (vr 29 :: st) u bb σ Q := r_getR (idx := 77) (c := 6) (k := 1) (by decide +kernel)
theorem k35_32 : qx sc D 35 32 [l0, vi x] st u bb σ Q ↔ qx sc D 35 33 [l0, vi x] (vi x :: st) u bb σ Q := r_iload_n (k := 1) (by decide +kernel) rfl
theorem k35_33 : qx sc D 35 33 ls (vi i :: vr a :: st) u bb σ Q ↔ (q_ty a = 0 ∧ 0 ≤ i ∧ i < q_ln a) ∧ qx sc D 35 34 ls (vi (σ a i) :: st) u bb σ Q := r_iald (by decide +kernel)
theorem k35_34 : qx sc (D + 1) 35 34 ls [vi x2, vr a1, vr a0, vr 55] (0, 0) bb σ Q ↔ qx sc D 7 0 [vr 55, vr a0, vr a1, vi x2, vn] [] (0, 0) bb σ (q_kn sc (D + 1) 35 37 ls [] (0, 0) Q) := r_callv (idx := 80) (n := 3) (m := 5) (by decide +kernel) rfl (Nat.le_of_ble_eq_true rfl) ⟨Nat.le_of_ble_eq_true rfl, Nat.le_of_ble_eq_true rfl, rfl⟩ rfl
theorem k35_37 : qx sc D 35 37 [vr a, l1] st u bb σ Q ↔ qx sc D 35 38 [vr a, l1] (vr a :: st) u bb σ Q := r_aload_n (k := 0) (by decide +kernel) rfl
theorem k35_38 : qx sc D 35 38 ls (vr 66 :: st) u bb σ Q ↔ qx sc D 35 41 ls (vr 68 :: st) u bb σ Q := r_getR (idx := 15) (c := 8) (k := 6) (by decide +kernel)
theorem k35_41 : qx sc D 35 41 [l0, vi x] st u bb σ Q ↔ qx sc D 35 42 [l0, vi x] (vi x :: st) u bb σ Q := r_iload_n (k := 1) (by decide +kernel) rfl
theorem k35_42 : qx sc D 35 42 [vr a, l1] st u bb σ Q ↔ qx sc D 35 43 [vr a, l1] (vr a :: st) u bb σ Q := r_aload_n (k := 0) (by decide +kernel) rfl
theorem k35_43 : qx sc (D + 1) 35 43 ls [vr 66, vi x20, vr a21] (0, 0) bb σ Q ↔ qx sc D 32 0 [vr 66, vn, vn, vn] [] (0, 0) bb σ (q_kn sc (D + 1) 35 46 ls [vi x20, vr a21] (0, 0) Q) := r_callv (idx := 84) (n := 0) (m := 4) (by decide +kernel) rfl (Nat.le_of_ble_eq_true rfl) ⟨Nat.le_of_ble_eq_true rfl, Nat.le_of_ble_eq_true rfl, rfl⟩ rfl
theorem k35_46 : qx sc D 35 46 ls (vi x :: vi i :: vr a :: st) u bb σ Q ↔ (q_ty a = 0 ∧ 0 ≤ i ∧ i < q_ln a) ∧ qx sc D 35 47 ls st u bb (q_up σ a i x) Q := r_iast (by decide +kernel)
theorem k35_47 : qx sc D 35 47 [vr a, l1] st u bb σ Q ↔ qx sc D 35 48 [vr a, l1] (vr a :: st) u bb σ Q := r_aload_n (k := 0) (by decide +kernel) rfl
theorem k35_48 : qx sc D 35 48 ls (vr 66 :: st) u bb σ Q ↔ qx sc D 35 51 ls (vr 68 :: st) u bb σ Q := r_getR (idx := 15) (c := 8) (k := 6) (by decide +kernel)
theorem k35_51 : qx sc D 35 51 [l0, vi x] st u bb σ Q ↔ qx sc D 35 52 [l0, vi x] (vi x :: st) u bb σ Q := r_iload_n (k := 1) (by decide +kernel) rfl
theorem k35_52 : qx sc D 35 52 ls (vi i :: vr a :: st) u bb σ Q ↔ (q_ty a = 0 ∧ 0 ≤ i ∧ i < q_ln a) ∧ qx sc D 35 53 ls (vi (σ a i) :: st) u bb σ Q := r_iald (by decide +kernel)
theorem k35_53 : qx sc D 35 53 ls [vi x] (0, 0) bb σ Q ↔ Q (.inl (some (vi x))) bb σ := r_ret (by decide +kernel)
-- 36: RowProver$Proof.next(II)I
theorem k36_0 : qx sc D 36 0 [vr a, l1, l2, l3, l4, l5] st u bb σ Q ↔ qx sc D 36 1 [vr a, l1, l2, l3, l4, l5] (vr a :: st) u bb σ Q := r_aload_n (k := 0) (by decide +kernel) rfl
theorem k36_1 : qx sc D 36 1 ls (vr 66 :: st) u bb σ Q ↔ qx sc D 36 4 ls (vr 55 :: st) u bb σ Q := r_getR (idx := 31) (c := 8) (k := 2) (by decide +kernel)
theorem k36_4 : qx sc D 36 4 ls (vr 55 :: st) u bb σ Q ↔ qx sc D 36 7 ls (vr 56 :: st) u bb σ Q := r_getR (idx := 57) (c := 3) (k := 2) (by decide +kernel)
theorem k36_7 : qx sc D 36 7 [l0, vi x, l2, l3, l4, l5] st u bb σ Q ↔ qx sc D 36 8 [l0, vi x, l2, l3, l4, l5] (vi x :: st) u bb σ Q := r_iload_n (k := 1) (by decide +kernel) rfl
theorem k36_8 : qx sc D 36 8 ls (vi i :: vr a :: st) u bb σ Q ↔ (q_ty a = 4 ∧ 0 ≤ i ∧ i < q_ln a) ∧ qx sc D 36 9 ls (vr (a + 1 + i.toNat) :: st) u bb σ Q := r_aald (by decide +kernel)
theorem k36_9 : qx sc D 36 9 [l0, l1, l2, l3, l4, l5] (vr a :: st) u bb σ Q ↔ qx sc D 36 10 [l0, l1, l2, vr a, l4, l5] st u bb σ Q := r_astore_n (k := 3) (by decide +kernel) (Nat.le_of_ble_eq_true rfl)
theorem k36_10 : qx sc D 36 10 [vr a, l1, l2, l3, l4, l5] st u bb σ Q ↔ qx sc D 36 11 [vr a, l1, l2, l3, l4, l5] (vr a :: st) u bb σ Q := r_aload_n (k := 0) (by decide +kernel) rfl
theorem k36_11 : qx sc D 36 11 ls (vr 66 :: st) u bb σ Q ↔ qx sc D 36 14 ls (vr 9 :: st) u bb σ Q := r_getR (idx := 23) (c := 8) (k := 0) (by decide +kernel)
theorem k36_14 : qx sc D 36 14 ls (vr 9 :: st) u bb σ Q ↔ qx sc D 36 17 ls (vr 13 :: st) u bb σ Q := r_getR (idx := 100) (c := 13) (k := 4) (by decide +kernel)
theorem k36_17 : qx sc D 36 17 [l0, l1, vi x, l3, l4, l5] st u bb σ Q ↔ qx sc D 36 18 [l0, l1, vi x, l3, l4, l5] (vi x :: st) u bb σ Q := r_iload_n (k := 2) (by decide +kernel) rfl
theorem k36_18 : qx sc D 36 18 ls (vi i :: vr a :: st) u bb σ Q ↔ (q_ty a = 0 ∧ 0 ≤ i ∧ i < q_ln a) ∧ qx sc D 36 19 ls (vi (σ a i) :: st) u bb σ Q := r_iald (by decide +kernel)
theorem k36_19 : qx sc D 36 19 [l0, l1, l2, l3, l4, l5] (vi x :: st) u bb σ Q ↔ qx sc D 36 21 [l0, l1, l2, l3, vi x, l5] st u bb σ Q := r_istore (k := 4) (by decide +kernel) (Nat.le_of_ble_eq_true rfl)
theorem k36_21 : qx sc D 36 21 [vr a, l1, l2, l3, l4, l5] st u bb σ Q ↔ qx sc D 36 22 [vr a, l1, l2, l3, l4, l5] (vr a :: st) u bb σ Q := r_aload_n (k := 0) (by decide +kernel) rfl
theorem k36_22 : qx sc D 36 22 ls (vr 66 :: st) u bb σ Q ↔ qx sc D 36 25 ls (vr 9 :: st) u bb σ Q := r_getR (idx := 23) (c := 8) (k := 0) (by decide +kernel)
theorem k36_25 : qx sc D 36 25 [l0, l1, vi x, l3, l4, l5] st u bb σ Q ↔ qx sc D 36 26 [l0, l1, vi x, l3, l4, l5] (vi x :: st) u bb σ Q := r_iload_n (k := 2) (by decide +kernel) rfl
theorem k36_26 : qx sc (D + 1) 36 26 ls [vi x0, vr 9] (0, 0) bb σ Q ↔ qx sc D 90 0 [vr 9, vi x0] [] (0, 0) bb σ (q_kn sc (D + 1) 36 29 ls [] (0, 0) Q) := r_callv (idx := 103) (n := 1) (m := 2) (by decide +kernel) rfl (Nat.le_of_ble_eq_true rfl) ⟨Nat.le_of_ble_eq_true rfl, Nat.le_of_ble_eq_true rfl, rfl⟩ rfl
theorem k36_29 : qx sc D 36 29 ls (vi x :: st) u bb σ Q ↔ (x = 0 → qx sc D 36 64 ls st u bb σ Q) ∧ (¬ (x = 0) → qx sc D 36 32 ls st u bb σ Q) := r_if_eq (off := 35) (t := 64) (by decide +kernel)
theorem k36_32 : qx sc D 36 32 [l0, l1, l2, vr a, l4, l5] st u bb σ Q ↔ qx sc D 36 33 [l0, l1, l2, vr a, l4, l5] (vr a :: st) u bb σ Q := r_aload_n (k := 3) (by decide +kernel) rfl
theorem k36_33 : qx sc D 36 33 [l0, l1, l2, l3, vi x, l5] st u bb σ Q ↔ qx sc D 36 35 [l0, l1, l2, l3, vi x, l5] (vi x :: st) u bb σ Q := r_iload (k := 4) (by decide +kernel) rfl
theorem k36_35 : qx sc D 36 35 ls (vi i :: vr a :: st) u bb σ Q ↔ (q_ty a = 0 ∧ 0 ≤ i ∧ i < q_ln a) ∧ qx sc D 36 36 ls (vi (σ a i) :: st) u bb σ Q := r_iald (by decide +kernel)
theorem k36_36 : qx sc D 36 36 [l0, l1, l2, vr a, l4, l5] st u bb σ Q ↔ qx sc D 36 37 [l0, l1, l2, vr a, l4, l5] (vr a :: st) u bb σ Q := r_aload_n (k := 3) (by decide +kernel) rfl
theorem k36_37 : qx sc D 36 37 [vr a, l1, l2, l3, l4, l5] st u bb σ Q ↔ qx sc D 36 38 [vr a, l1, l2, l3, l4, l5] (vr a :: st) u bb σ Q := r_aload_n (k := 0) (by decide +kernel) rfl
theorem k36_38 : qx sc D 36 38 ls (vr 66 :: st) u bb σ Q ↔ qx sc D 36 41 ls (vr 9 :: st) u bb σ Q := r_getR (idx := 23) (c := 8) (k := 0) (by decide +kernel)
theorem k36_41 : qx sc D 36 41 ls (vr 9 :: st) u bb σ Q ↔ qx sc D 36 44 ls (vr 14 :: st) u bb σ Q := r_getR (idx := 107) (c := 13) (k := 5) (by decide +kernel)
theorem k36_44 : qx sc D 36 44 [l0, l1, vi x, l3, l4, l5] st u bb σ Q ↔ qx sc D 36 45 [l0, l1, vi x, l3, l4, l5] (vi x :: st) u bb σ Q := r_iload_n (k := 2) (by decide +kernel) rfl
theorem k36_45 : qx sc D 36 45 ls (vi i :: vr a :: st) u bb σ Q ↔ (q_ty a = 0 ∧ 0 ≤ i ∧ i < q_ln a) ∧ qx sc D 36 46 ls (vi (σ a i) :: st) u bb σ Q := r_iald (by decide +kernel)
theorem k36_46 : qx sc D 36 46 ls (vi i :: vr a :: st) u bb σ Q ↔ (q_ty a = 0 ∧ 0 ≤ i ∧ i < q_ln a) ∧ qx sc D 36 47 ls (vi (σ a i) :: st) u bb σ Q := r_iald (by decide +kernel)
theorem k36_47 : qx sc D 36 47 ls (vi b' :: vi a' :: st) u bb σ Q ↔ (a' < b' → qx sc D 36 50 ls st u bb σ Q) ∧ (¬ (a' < b') → qx sc D 36 154 ls st u bb σ Q) := r_ic_ge (off := 107) (t := 154) (by decide +kernel)
theorem k36_50 : qx sc D 36 50 [vr a, l1, l2, l3, l4, l5] st u bb σ Q ↔ qx sc D 36 51 [vr a, l1, l2, l3, l4, l5] (vr a :: st) u bb σ Q := r_aload_n (k := 0) (by decide +kernel) rfl
theorem k36_51 : qx sc D 36 51 ls (vr 66 :: st) u bb σ Q ↔ qx sc D 36 54 ls (vr 9 :: st) u bb σ Q := r_getR (idx := 23) (c := 8) (k := 0) (by decide +kernel)
theorem k36_54 : qx sc D 36 54 ls (vr 9 :: st) u bb σ Q ↔ qx sc D 36 57 ls (vr 14 :: st) u bb σ Q := r_getR (idx := 107) (c := 13) (k := 5) (by decide +kernel)
theorem k36_57 : qx sc D 36 57 [l0, l1, vi x, l3, l4, l5] st u bb σ Q ↔ qx sc D 36 58 [l0, l1, vi x, l3, l4, l5] (vi x :: st) u bb σ Q := r_iload_n (k := 2) (by decide +kernel) rfl
theorem k36_58 : qx sc D 36 58 ls (vi i :: vr a :: st) u bb σ Q ↔ (q_ty a = 0 ∧ 0 ≤ i ∧ i < q_ln a) ∧ qx sc D 36 59 ls (vi (σ a i) :: st) u bb σ Q := r_iald (by decide +kernel)
theorem k36_59 : qx sc D 36 59 [l0, l1, l2, l3, l4, l5] (vi x :: st) u bb σ Q ↔ qx sc D 36 61 [l0, l1, l2, l3, vi x, l5] st u bb σ Q := r_istore (k := 4) (by decide +kernel) (Nat.le_of_ble_eq_true rfl)
theorem k36_61 : qx sc D 36 61 ls st u bb σ Q ↔ qx sc D 36 154 ls st u bb σ Q := r_goto (off := 93) (by decide +kernel)
theorem k36_64 : qx sc D 36 64 [l0, l1, l2, l3, vi x, l5] st u bb σ Q ↔ qx sc D 36 66 [l0, l1, l2, l3, vi x, l5] (vi x :: st) u bb σ Q := r_iload (k := 4) (by decide +kernel) rfl
theorem k36_66 : qx sc D 36 66 ls st u bb σ Q ↔ qx sc D 36 67 ls (vi (-1) :: st) u bb σ Q := r_iconst (by decide +kernel)
theorem k36_67 : qx sc D 36 67 ls (vi b' :: vi a' :: st) u bb σ Q ↔ (a' = b' → qx sc D 36 86 ls st u bb σ Q) ∧ (¬ (a' = b') → qx sc D 36 70 ls st u bb σ Q) := r_ic_eq (off := 19) (t := 86) (by decide +kernel)
theorem k36_70 : qx sc D 36 70 [vr a, l1, l2, l3, l4, l5] st u bb σ Q ↔ qx sc D 36 71 [vr a, l1, l2, l3, l4, l5] (vr a :: st) u bb σ Q := r_aload_n (k := 0) (by decide +kernel) rfl
theorem k36_71 : qx sc D 36 71 ls (vr 66 :: st) u bb σ Q ↔ qx sc D 36 74 ls (vr 55 :: st) u bb σ Q := r_getR (idx := 31) (c := 8) (k := 2) (by decide +kernel)
theorem k36_74 : qx sc D 36 74 [l0, l1, l2, vr a, l4, l5] st u bb σ Q ↔ qx sc D 36 75 [l0, l1, l2, vr a, l4, l5] (vr a :: st) u bb σ Q := r_aload_n (k := 3) (by decide +kernel) rfl
theorem k36_75 : qx sc D 36 75 [l0, vi x, l2, l3, l4, l5] st u bb σ Q ↔ qx sc D 36 76 [l0, vi x, l2, l3, l4, l5] (vi x :: st) u bb σ Q := r_iload_n (k := 1) (by decide +kernel) rfl
theorem k36_76 : qx sc D 36 76 [l0, l1, vi x, l3, l4, l5] st u bb σ Q ↔ qx sc D 36 77 [l0, l1, vi x, l3, l4, l5] (vi x :: st) u bb σ Q := r_iload_n (k := 2) (by decide +kernel) rfl
theorem k36_77 : qx sc (D + 1) 36 77 ls [vi x2, vi x1, vr a0, vr 55] (0, 0) bb σ Q ↔ qx sc D 1 0 [vr 55, vr a0, vi x1, vi x2, vn] [] (0, 0) bb σ (q_kn sc (D + 1) 36 80 ls [] (0, 0) Q) := r_callv (idx := 110) (n := 3) (m := 5) (by decide +kernel) rfl (Nat.le_of_ble_eq_true rfl) ⟨Nat.le_of_ble_eq_true rfl, Nat.le_of_ble_eq_true rfl, rfl⟩ rfl
theorem k36_80 : qx sc D 36 80 [l0, l1, l2, vr a, l4, l5] st u bb σ Q ↔ qx sc D 36 81 [l0, l1, l2, vr a, l4, l5] (vr a :: st) u bb σ Q := r_aload_n (k := 3) (by decide +kernel) rfl
theorem k36_81 : qx sc D 36 81 [l0, l1, vi x, l3, l4, l5] st u bb σ Q ↔ qx sc D 36 82 [l0, l1, vi x, l3, l4, l5] (vi x :: st) u bb σ Q := r_iload_n (k := 2) (by decide +kernel) rfl
theorem k36_82 : qx sc D 36 82 ls (vi i :: vr a :: st) u bb σ Q ↔ (q_ty a = 0 ∧ 0 ≤ i ∧ i < q_ln a) ∧ qx sc D 36 83 ls (vi (σ a i) :: st) u bb σ Q := r_iald (by decide +kernel)
theorem k36_83 : qx sc D 36 83 ls (vi b' :: vi a' :: st) u bb σ Q ↔ (a' = b' → qx sc D 36 154 ls st u bb σ Q) ∧ (¬ (a' = b') → qx sc D 36 86 ls st u bb σ Q) := r_ic_eq (off := 71) (t := 154) (by decide +kernel)
theorem k36_86 : qx sc D 36 86 [l0, vi x, l2, l3, l4, l5] st u bb σ Q ↔ qx sc D 36 87 [l0, vi x, l2, l3, l4, l5] (vi x :: st) u bb σ Q := r_iload_n (k := 1) (by decide +kernel) rfl
theorem k36_87 : qx sc D 36 87 ls st u bb σ Q ↔ qx sc D 36 88 ls (vi 3 :: st) u bb σ Q := r_iconst (by decide +kernel)
theorem k36_88 : qx sc D 36 88 ls (vi b' :: vi a' :: st) u bb σ Q ↔ (a' = b' → qx sc D 36 91 ls st u bb σ Q) ∧ (¬ (a' = b') → qx sc D 36 95 ls st u bb σ Q) := r_ic_ne (off := 7) (t := 95) (by decide +kernel)
theorem k36_91 : qx sc D 36 91 ls st u bb σ Q ↔ qx sc D 36 92 ls (vi 1 :: st) u bb σ Q := r_iconst (by decide +kernel)
theorem k36_92 : qx sc D 36 92 ls st u bb σ Q ↔ qx sc D 36 96 ls st u bb σ Q := r_goto (off := 4) (by decide +kernel)
theorem k36_95 : qx sc D 36 95 ls st u bb σ Q ↔ qx sc D 36 96 ls (vi 0 :: st) u bb σ Q := r_iconst (by decide +kernel)
theorem k36_96 : qx sc D 36 96 [l0, l1, l2, l3, l4, l5] (vi x :: st) u bb σ Q ↔ qx sc D 36 98 [l0, l1, l2, l3, l4, vi x] st u bb σ Q := r_istore (k := 5) (by decide +kernel) (Nat.le_of_ble_eq_true rfl)
theorem k36_98 : qx sc D 36 98 [vr a, l1, l2, l3, l4, l5] st u bb σ Q ↔ qx sc D 36 99 [vr a, l1, l2, l3, l4, l5] (vr a :: st) u bb σ Q := r_aload_n (k := 0) (by decide +kernel) rfl
theorem k36_99 : qx sc D 36 99 ls (vr 66 :: st) u bb σ Q ↔ qx sc D 36 102 ls (vr 9 :: st) u bb σ Q := r_getR (idx := 23) (c := 8) (k := 0) (by decide +kernel)
theorem k36_102 : qx sc D 36 102 ls (vr 9 :: st) u bb σ Q ↔ qx sc D 36 105 ls (vr 18 :: st) u bb σ Q := r_getR (idx := 114) (c := 13) (k := 9) (by decide +kernel)
theorem k36_105 : qx sc D 36 105 [l0, l1, l2, l3, l4, vi x] st u bb σ Q ↔ qx sc D 36 107 [l0, l1, l2, l3, l4, vi x] (vi x :: st) u bb σ Q := r_iload (k := 5) (by decide +kernel) rfl
theorem k36_107 : qx sc D 36 107 ls (vi i :: vr a :: st) u bb σ Q ↔ (q_ty a = 4 ∧ 0 ≤ i ∧ i < q_ln a) ∧ qx sc D 36 108 ls (vr (a + 1 + i.toNat) :: st) u bb σ Q := r_aald (by decide +kernel)
theorem k36_108 : qx sc D 36 108 [l0, l1, vi x, l3, l4, l5] st u bb σ Q ↔ qx sc D 36 109 [l0, l1, vi x, l3, l4, l5] (vi x :: st) u bb σ Q := r_iload_n (k := 2) (by decide +kernel) rfl
theorem k36_109 : qx sc D 36 109 ls (vi i :: vr a :: st) u bb σ Q ↔ (q_ty a = 0 ∧ 0 ≤ i ∧ i < q_ln a) ∧ qx sc D 36 110 ls (vi (σ a i) :: st) u bb σ Q := r_iald (by decide +kernel)
theorem k36_110 : qx sc D 36 110 ls st u bb σ Q ↔ qx sc D 36 111 ls (vi 3 :: st) u bb σ Q := r_iconst (by decide +kernel)
theorem k36_111 : qx sc D 36 111 ls (vi b' :: vi a' :: st) u bb σ Q ↔ (a' = b' → qx sc D 36 140 ls st u bb σ Q) ∧ (¬ (a' = b') → qx sc D 36 114 ls st u bb σ Q) := r_ic_eq (off := 29) (t := 140) (by decide +kernel)
theorem k36_114 : qx sc D 36 114 [vr a, l1, l2, l3, l4, l5] st u bb σ Q ↔ qx sc D 36 115 [vr a, l1, l2, l3, l4, l5] (vr a :: st) u bb σ Q := r_aload_n (k := 0) (by decide +kernel) rfl
theorem k36_115 : qx sc D 36 115 ls (vr 66 :: st) u bb σ Q ↔ qx sc D 36 118 ls (vr 9 :: st) u bb σ Q := r_getR (idx := 23) (c := 8) (k := 0) (by decide +kernel)
theorem k36_118 : qx sc D 36 118 ls (vr 9 :: st) u bb σ Q ↔ qx sc D 36 121 ls (vr 18 :: st) u bb σ Q := r_getR (idx := 114) (c := 13) (k := 9) (by decide +kernel)
theorem k36_121 : qx sc D 36 121 [l0, l1, l2, l3, l4, vi x] st u bb σ Q ↔ qx sc D 36 123 [l0, l1, l2, l3, l4, vi x] (vi x :: st) u bb σ Q := r_iload (k := 5) (by decide +kernel) rfl
theorem k36_123 : qx sc D 36 123 ls (vi i :: vr a :: st) u bb σ Q ↔ (q_ty a = 4 ∧ 0 ≤ i ∧ i < q_ln a) ∧ qx sc D 36 124 ls (vr (a + 1 + i.toNat) :: st) u bb σ Q := r_aald (by decide +kernel)
theorem k36_124 : qx sc D 36 124 [l0, l1, vi x, l3, l4, l5] st u bb σ Q ↔ qx sc D 36 125 [l0, l1, vi x, l3, l4, l5] (vi x :: st) u bb σ Q := r_iload_n (k := 2) (by decide +kernel) rfl
theorem k36_125 : qx sc D 36 125 ls (vi i :: vr a :: st) u bb σ Q ↔ (q_ty a = 0 ∧ 0 ≤ i ∧ i < q_ln a) ∧ qx sc D 36 126 ls (vi (σ a i) :: st) u bb σ Q := r_iald (by decide +kernel)
theorem k36_126 : qx sc D 36 126 ls st u bb σ Q ↔ qx sc D 36 127 ls (vi 2 :: st) u bb σ Q := r_iconst (by decide +kernel)
theorem k36_127 : qx sc D 36 127 ls (vi b' :: vi a' :: st) u bb σ Q ↔ (a' = b' → qx sc D 36 130 ls st u bb σ Q) ∧ (¬ (a' = b') → qx sc D 36 136 ls st u bb σ Q) := r_ic_ne (off := 9) (t := 136) (by decide +kernel)
theorem k36_130 : qx sc D 36 130 ls st u bb σ Q ↔ qx sc D 36 133 ls (vi 1000 :: st) u bb σ Q := r_sipush (by decide +kernel)
theorem k36_133 : qx sc D 36 133 ls st u bb σ Q ↔ qx sc D 36 139 ls st u bb σ Q := r_goto (off := 6) (by decide +kernel)
theorem k36_136 : qx sc D 36 136 ls st u bb σ Q ↔ qx sc D 36 139 ls (vi 1001 :: st) u bb σ Q := r_sipush (by decide +kernel)
theorem k36_139 : qx sc D 36 139 ls [vi x] (0, 0) bb σ Q ↔ Q (.inl (some (vi x))) bb σ := r_ret (by decide +kernel)
theorem k36_140 : qx sc D 36 140 [vr a, l1, l2, l3, l4, l5] st u bb σ Q ↔ qx sc D 36 141 [vr a, l1, l2, l3, l4, l5] (vr a :: st) u bb σ Q := r_aload_n (k := 0) (by decide +kernel) rfl
theorem k36_141 : qx sc D 36 141 ls (vr 66 :: st) u bb σ Q ↔ qx sc D 36 144 ls (vr 9 :: st) u bb σ Q := r_getR (idx := 23) (c := 8) (k := 0) (by decide +kernel)
theorem k36_144 : qx sc D 36 144 ls (vr 9 :: st) u bb σ Q ↔ qx sc D 36 147 ls (vr 21 :: st) u bb σ Q := r_getR (idx := 117) (c := 13) (k := 10) (by decide +kernel)
theorem k36_147 : qx sc D 36 147 [l0, l1, l2, l3, l4, vi x] st u bb σ Q ↔ qx sc D 36 149 [l0, l1, l2, l3, l4, vi x] (vi x :: st) u bb σ Q := r_iload (k := 5) (by decide +kernel) rfl
theorem k36_149 : qx sc D 36 149 ls (vi i :: vr a :: st) u bb σ Q ↔ (q_ty a = 4 ∧ 0 ≤ i ∧ i < q_ln a) ∧ qx sc D 36 150 ls (vr (a + 1 + i.toNat) :: st) u bb σ Q := r_aald (by decide +kernel)
theorem k36_150 : qx sc D 36 150 [l0, l1, vi x, l3, l4, l5] st u bb σ Q ↔ qx sc D 36 151 [l0, l1, vi x, l3, l4, l5] (vi x :: st) u bb σ Q := r_iload_n (k := 2) (by decide +kernel) rfl
theorem k36_151 : qx sc D 36 151 ls (vi i :: vr a :: st) u bb σ Q ↔ (q_ty a = 0 ∧ 0 ≤ i ∧ i < q_ln a) ∧ qx sc D 36 152 ls (vi (σ a i) :: st) u bb σ Q := r_iald (by decide +kernel)
theorem k36_152 : qx sc D 36 152 [l0, l1, l2, l3, l4, l5] (vi x :: st) u bb σ Q ↔ qx sc D 36 154 [l0, l1, l2, l3, vi x, l5] st u bb σ Q := r_istore (k := 4) (by decide +kernel) (Nat.le_of_ble_eq_true rfl)
theorem k36_154 : qx sc D 36 154 [vr a, l1, l2, l3, l4, l5] st u bb σ Q ↔ qx sc D 36 155 [vr a, l1, l2, l3, l4, l5] (vr a :: st) u bb σ Q := r_aload_n (k := 0) (by decide +kernel) rfl
theorem k36_155 : qx sc D 36 155 ls (vr 66 :: st) u bb σ Q ↔ qx sc D 36 158 ls (vr 67 :: st) u bb σ Q := r_getR (idx := 9) (c := 8) (k := 4) (by decide +kernel)
theorem k36_158 : qx sc D 36 158 [l0, l1, l2, l3, vi x, l5] st u bb σ Q ↔ qx sc D 36 160 [l0, l1, l2, l3, vi x, l5] (vi x :: st) u bb σ Q := r_iload (k := 4) (by decide +kernel) rfl
theorem k36_160 : qx sc D 36 160 ls (vi i :: vr a :: st) u bb σ Q ↔ (q_ty a = 0 ∧ 0 ≤ i ∧ i < q_ln a) ∧ qx sc D 36 161 ls (vi (σ a i) :: st) u bb σ Q := r_iald (by decide +kernel)
theorem k36_161 : qx sc D 36 161 [vr a, l1, l2, l3, l4, l5] st u bb σ Q ↔ qx sc D 36 162 [vr a, l1, l2, l3, l4, l5] (vr a :: st) u bb σ Q := r_aload_n (k := 0) (by decide +kernel) rfl
theorem k36_162 : qx sc D 36 162 ls (vr 66 :: st) u bb σ Q ↔ qx sc D 36 165 ls (vi (σ 66 5) :: st) u bb σ Q := r_getI (idx := 88) (c := 8) (k := 5) (by decide +kernel)
theorem k36_165 : qx sc D 36 165 ls (vi b' :: vi a' :: st) u bb σ Q ↔ (a' = b' → qx sc D 36 168 ls st u bb σ Q) ∧ (¬ (a' = b') → qx sc D 36 174 ls st u bb σ Q) := r_ic_ne (off := 9) (t := 174) (by decide +kernel)
theorem k36_168 : qx sc D 36 168 ls st u bb σ Q ↔ qx sc D 36 171 ls (vi 1002 :: st) u bb σ Q := r_sipush (by decide +kernel)
theorem k36_171 : qx sc D 36 171 ls st u bb σ Q ↔ qx sc D 36 176 ls st u bb σ Q := r_goto (off := 5) (by decide +kernel)
theorem k36_174 : qx sc D 36 174 [l0, l1, l2, l3, vi x, l5] st u bb σ Q ↔ qx sc D 36 176 [l0, l1, l2, l3, vi x, l5] (vi x :: st) u bb σ Q := r_iload (k := 4) (by decide +kernel) rfl
theorem k36_176 : qx sc D 36 176 ls [vi x] (0, 0) bb σ Q ↔ Q (.inl (some (vi x))) bb σ := r_ret (by decide +kernel)
-- 37: RowProver$Proof.perform(LRowProver$Code;)V
theorem k37_0 : qx sc D 37 0 [vr a, l1, l2] st u bb σ Q ↔ qx sc D 37 1 [vr a, l1, l2] (vr a :: st) u bb σ Q := r_aload_n (k := 0) (by decide +kernel) rfl
theorem k37_1 : qx sc D 37 1 [l0, vr a, l2] st u bb σ Q ↔ qx sc D 37 2 [l0, vr a, l2] (vr a :: st) u bb σ Q := r_aload_n (k := 1) (by decide +kernel) rfl
theorem k37_2 : qx sc D 37 2 ls (vr b :: vr 66 :: st) u bb σ Q ↔ b < 1000000 ∧ qx sc D 37 5 ls st u bb (q_up σ 66 3 b) Q := r_putM (idx := 35) (c := 8) (k := 3) (by decide +kernel)
theorem k37_5 : qx sc D 37 5 [vr a, l1, l2] st u bb σ Q ↔ qx sc D 37 6 [vr a, l1, l2] (vr a :: st) u bb σ Q := r_aload_n (k := 0) (by decide +kernel) rfl
theorem k37_6 : qx sc D 37 6 ls st u bb σ Q ↔ qx sc D 37 7 ls (vi 0 :: st) u bb σ Q := r_iconst (by decide +kernel)
theorem k37_7 : qx sc D 37 7 ls (vi x :: vr 66 :: st) u bb σ Q ↔ qx sc D 37 10 ls st u bb (q_up σ 66 8 x) Q := r_putI (idx := 39) (c := 8) (k := 8) (by decide +kernel)
theorem k37_10 : qx sc D 37 10 [vr a, l1, l2] st u bb σ Q ↔ qx sc D 37 11 [vr a, l1, l2] (vr a :: st) u bb σ Q := r_aload_n (k := 0) (by decide +kernel) rfl
theorem k37_11 : qx sc D 37 11 ls st u bb σ Q ↔ qx sc D 37 12 ls (vi 0 :: st) u bb σ Q := r_iconst (by decide +kernel)
theorem k37_12 : qx sc D 37 12 ls (vi x :: vr 66 :: st) u bb σ Q ↔ qx sc D 37 15 ls st u bb (q_up σ 66 9 x) Q := r_putI (idx := 43) (c := 8) (k := 9) (by decide +kernel)
theorem k37_15 : qx sc D 37 15 [vr a, l1, l2] st u bb σ Q ↔ qx sc D 37 16 [vr a, l1, l2] (vr a :: st) u bb σ Q := r_aload_n (k := 0) (by decide +kernel) rfl
theorem k37_16 : qx sc D 37 16 ls (vr 66 :: st) u bb σ Q ↔ qx sc D 37 19 ls (vr 68 :: st) u bb σ Q := r_getR (idx := 15) (c := 8) (k := 6) (by decide +kernel)
theorem k37_19 : qx sc D 37 19 ls st u bb σ Q ↔ qx sc D 37 20 ls (vi (-1) :: st) u bb σ Q := r_iconst (by decide +kernel)
theorem k37_20 : qx sc (D + 1) 37 20 ls [vi x1, vr a0] (0, 0) bb σ Q ↔ qx sc D 249 0 [vr a0, vi x1, vn, vn] [] (0, 0) bb σ (q_kn sc (D + 1) 37 23 ls [] (0, 0) Q) := r_calls (idx := 46) (n := 2) (m := 4) (by decide +kernel) rfl (Nat.le_of_ble_eq_true rfl) ⟨Nat.le_of_ble_eq_true rfl, Nat.le_of_ble_eq_true rfl, rfl⟩ rfl
theorem k37_23 : qx sc D 37 23 ls st u bb σ Q ↔ qx sc D 37 24 ls (vi 0 :: st) u bb σ Q := r_iconst (by decide +kernel)
theorem k37_24 : qx sc D 37 24 [l0, l1, l2] (vi x :: st) u bb σ Q ↔ qx sc D 37 25 [l0, l1, vi x] st u bb σ Q := r_istore_n (k := 2) (by decide +kernel) (Nat.le_of_ble_eq_true rfl)
theorem k37_25 : qx sc D 37 25 [l0, l1, vi x] st u bb σ Q ↔ qx sc D 37 26 [l0, l1, vi x] (vi x :: st) u bb σ Q := r_iload_n (k := 2) (by decide +kernel) rfl
theorem k37_26 : qx sc D 37 26 [vr a, l1, l2] st u bb σ Q ↔ qx sc D 37 27 [vr a, l1, l2] (vr a :: st) u bb σ Q := r_aload_n (k := 0) (by decide +kernel) rfl
theorem k37_27 : qx sc D 37 27 ls (vr 66 :: st) u bb σ Q ↔ 0 ≤ σ 66 3 ∧ qx sc D 37 30 ls (vr (σ 66 3).toNat :: st) u bb σ Q := r_getM (idx := 35) (c := 8) (k := 3) (by decide +kernel)
theorem k37_30 (hc : q_C c) : qx sc D 37 30 ls (vr c :: st) u bb σ Q ↔ qx sc D 37 33 ls (vi (σ c 1) :: st) u bb σ Q := r_getIc (idx := 52) (k := 1) (by decide +kernel) hc
theorem k37_33 : qx sc D 37 33 ls (vi b' :: vi a' :: st) u bb σ Q ↔ (a' < b' → qx sc D 37 36 ls st u bb σ Q) ∧ (¬ (a' < b') → qx sc D 37 152 ls st u bb σ Q) := r_ic_ge (off := 119) (t := 152) (by decide +kernel)
theorem k37_36 : qx sc D 37 36 [vr a, l1, l2] st u bb σ Q ↔ qx sc D 37 37 [vr a, l1, l2] (vr a :: st) u bb σ Q := r_aload_n (k := 0) (by decide +kernel) rfl
theorem k37_37 : qx sc D 37 37 ls (vr 66 :: st) u bb σ Q ↔ qx sc D 37 40 ls (vr 69 :: st) u bb σ Q := r_getR (idx := 20) (c := 8) (k := 7) (by decide +kernel)
theorem k37_40 : qx sc D 37 40 ls st u bb σ Q ↔ qx sc D 37 41 ls (vi 0 :: st) u bb σ Q := r_iconst (by decide +kernel)
theorem k37_41 : qx sc D 37 41 ls (vi i :: vr a :: st) u bb σ Q ↔ (q_ty a = 4 ∧ 0 ≤ i ∧ i < q_ln a) ∧ qx sc D 37 42 ls (vr (a + 1 + i.toNat) :: st) u bb σ Q := r_aald (by decide +kernel)
theorem k37_42 : qx sc D 37 42 [l0, l1, vi x] st u bb σ Q ↔ qx sc D 37 43 [l0, l1, vi x] (vi x :: st) u bb σ Q := r_iload_n (k := 2) (by decide +kernel) rfl
theorem k37_43 : qx sc D 37 43 [vr a, l1, l2] st u bb σ Q ↔ qx sc D 37 44 [vr a, l1, l2] (vr a :: st) u bb σ Q := r_aload_n (k := 0) (by decide +kernel) rfl
theorem k37_44 : qx sc D 37 44 [vr a, l1, l2] st u bb σ Q ↔ qx sc D 37 45 [vr a, l1, l2] (vr a :: st) u bb σ Q := r_aload_n (k := 0) (by decide +kernel) rfl
theorem k37_45 : qx sc D 37 45 ls (vr 66 :: st) u bb σ Q ↔ qx sc D 37 48 ls (vr 55 :: st) u bb σ Q := r_getR (idx := 31) (c := 8) (k := 2) (by decide +kernel)
theorem k37_48 : qx sc D 37 48 ls (vr 55 :: st) u bb σ Q ↔ qx sc D 37 51 ls (vr 56 :: st) u bb σ Q := r_getR (idx := 57) (c := 3) (k := 2) (by decide +kernel)
theorem k37_51 : qx sc D 37 51 [l0, l1, vi x] st u bb σ Q ↔ qx sc D 37 52 [l0, l1, vi x] (vi x :: st) u bb σ Q := r_iload_n (k := 2) (by decide +kernel) rfl
theorem k37_52 : qx sc D 37 52 ls st u bb σ Q ↔ qx sc D 37 53 ls (vi 0 :: st) u bb σ Q := r_iconst (by decide +kernel)
theorem k37_53 : qx sc (D + 1) 37 53 ls [vi x2, vi x1, vr a0, vr 66, vi x20, vr a21] (0, 0) bb σ Q ↔ qx sc D 33 0 [vr 66, vr a0, vi x1, vi x2, vn] [] (0, 0) bb σ (q_kn sc (D + 1) 37 56 ls [vi x20, vr a21] (0, 0) Q) := r_callv (idx := 62) (n := 3) (m := 5) (by decide +kernel) rfl (Nat.le_of_ble_eq_true rfl) ⟨Nat.le_of_ble_eq_true rfl, Nat.le_of_ble_eq_true rfl, rfl⟩ rfl
theorem k37_56 : qx sc D 37 56 ls (vi x :: st) u bb σ Q ↔ (x = 0 → qx sc D 37 63 ls st u bb σ Q) ∧ (¬ (x = 0) → qx sc D 37 59 ls st u bb σ Q) := r_if_eq (off := 7) (t := 63) (by decide +kernel)
theorem k37_59 : qx sc D 37 59 ls st u bb σ Q ↔ qx sc D 37 60 ls (vi 1 :: st) u bb σ Q := r_iconst (by decide +kernel)
theorem k37_60 : qx sc D 37 60 ls st u bb σ Q ↔ qx sc D 37 64 ls st u bb σ Q := r_goto (off := 4) (by decide +kernel)
theorem k37_63 : qx sc D 37 63 ls st u bb σ Q ↔ qx sc D 37 64 ls (vi 0 :: st) u bb σ Q := r_iconst (by decide +kernel)
theorem k37_64 : qx sc D 37 64 ls (vi x :: vi i :: vr a :: st) u bb σ Q ↔ (q_ty a = 0 ∧ 0 ≤ i ∧ i < q_ln a) ∧ qx sc D 37 65 ls st u bb (q_up σ a i x) Q := r_iast (by decide +kernel)
theorem k37_65 : qx sc D 37 65 [vr a, l1, l2] st u bb σ Q ↔ qx sc D 37 66 [vr a, l1, l2] (vr a :: st) u bb σ Q := r_aload_n (k := 0) (by decide +kernel) rfl
theorem k37_66 : qx sc D 37 66 ls (vr 66 :: st) u bb σ Q ↔ qx sc D 37 69 ls (vr 69 :: st) u bb σ Q := r_getR (idx := 20) (c := 8) (k := 7) (by decide +kernel)
theorem k37_69 : qx sc D 37 69 ls st u bb σ Q ↔ qx sc D 37 70 ls (vi 1 :: st) u bb σ Q := r_iconst (by decide +kernel)
theorem k37_70 : qx sc D 37 70 ls (vi i :: vr a :: st) u bb σ Q ↔ (q_ty a = 4 ∧ 0 ≤ i ∧ i < q_ln a) ∧ qx sc D 37 71 ls (vr (a + 1 + i.toNat) :: st) u bb σ Q := r_aald (by decide +kernel)
theorem k37_71 : qx sc D 37 71 [l0, l1, vi x] st u bb σ Q ↔ qx sc D 37 72 [l0, l1, vi x] (vi x :: st) u bb σ Q := r_iload_n (k := 2) (by decide +kernel) rfl
theorem k37_72 : qx sc D 37 72 [vr a, l1, l2] st u bb σ Q ↔ qx sc D 37 73 [vr a, l1, l2] (vr a :: st) u bb σ Q := r_aload_n (k := 0) (by decide +kernel) rfl
theorem k37_73 : qx sc D 37 73 [vr a, l1, l2] st u bb σ Q ↔ qx sc D 37 74 [vr a, l1, l2] (vr a :: st) u bb σ Q := r_aload_n (k := 0) (by decide +kernel) rfl
theorem k37_74 : qx sc D 37 74 ls (vr 66 :: st) u bb σ Q ↔ qx sc D 37 77 ls (vr 55 :: st) u bb σ Q := r_getR (idx := 31) (c := 8) (k := 2) (by decide +kernel)
theorem k37_77 : qx sc D 37 77 ls (vr 55 :: st) u bb σ Q ↔ qx sc D 37 80 ls (vr 56 :: st) u bb σ Q := r_getR (idx := 57) (c := 3) (k := 2) (by decide +kernel)
theorem k37_80 : qx sc D 37 80 [l0, l1, vi x] st u bb σ Q ↔ qx sc D 37 81 [l0, l1, vi x] (vi x :: st) u bb σ Q := r_iload_n (k := 2) (by decide +kernel) rfl
theorem k37_81 : qx sc D 37 81 ls st u bb σ Q ↔ qx sc D 37 82 ls (vi 1 :: st) u bb σ Q := r_iconst (by decide +kernel)
theorem k37_82 : qx sc (D + 1) 37 82 ls [vi x2, vi x1, vr a0, vr 66, vi x20, vr a21] (0, 0) bb σ Q ↔ qx sc D 33 0 [vr 66, vr a0, vi x1, vi x2, vn] [] (0, 0) bb σ (q_kn sc (D + 1) 37 85 ls [vi x20, vr a21] (0, 0) Q) := r_callv (idx := 62) (n := 3) (m := 5) (by decide +kernel) rfl (Nat.le_of_ble_eq_true rfl) ⟨Nat.le_of_ble_eq_true rfl, Nat.le_of_ble_eq_true rfl, rfl⟩ rfl
theorem k37_85 : qx sc D 37 85 ls (vi x :: st) u bb σ Q ↔ (x = 0 → qx sc D 37 92 ls st u bb σ Q) ∧ (¬ (x = 0) → qx sc D 37 88 ls st u bb σ Q) := r_if_eq (off := 7) (t := 92) (by decide +kernel)
theorem k37_88 : qx sc D 37 88 ls st u bb σ Q ↔ qx sc D 37 89 ls (vi 1 :: st) u bb σ Q := r_iconst (by decide +kernel)
theorem k37_89 : qx sc D 37 89 ls st u bb σ Q ↔ qx sc D 37 93 ls st u bb σ Q := r_goto (off := 4) (by decide +kernel)
theorem k37_92 : qx sc D 37 92 ls st u bb σ Q ↔ qx sc D 37 93 ls (vi 0 :: st) u bb σ Q := r_iconst (by decide +kernel)
theorem k37_93 : qx sc D 37 93 ls (vi x :: vi i :: vr a :: st) u bb σ Q ↔ (q_ty a = 0 ∧ 0 ≤ i ∧ i < q_ln a) ∧ qx sc D 37 94 ls st u bb (q_up σ a i x) Q := r_iast (by decide +kernel)
theorem k37_94 : qx sc D 37 94 [vr a, l1, l2] st u bb σ Q ↔ qx sc D 37 95 [vr a, l1, l2] (vr a :: st) u bb σ Q := r_aload_n (k := 0) (by decide +kernel) rfl
theorem k37_95 : qx sc D 37 95 ls (vr a :: st) u bb σ Q ↔ qx sc D 37 96 ls (vr a :: vr a :: st) u bb σ Q := r_dupA (by decide +kernel)
theorem k37_96 : qx sc D 37 96 ls (vr 66 :: st) u bb σ Q ↔ qx sc D 37 99 ls (vi (σ 66 8) :: st) u bb σ Q := r_getI (idx := 39) (c := 8) (k := 8) (by decide +kernel)
theorem k37_99 : qx sc D 37 99 [vr a, l1, l2] st u bb σ Q ↔ qx sc D 37 100 [vr a, l1, l2] (vr a :: st) u bb σ Q := r_aload_n (k := 0) (by decide +kernel) rfl
theorem k37_100 : qx sc D 37 100 ls (vr 66 :: st) u bb σ Q ↔ qx sc D 37 103 ls (vr 69 :: st) u bb σ Q := r_getR (idx := 20) (c := 8) (k := 7) (by decide +kernel)
theorem k37_103 : qx sc D 37 103 ls st u bb σ Q ↔ qx sc D 37 104 ls (vi 0 :: st) u bb σ Q := r_iconst (by decide +kernel)
theorem k37_104 : qx sc D 37 104 ls (vi i :: vr a :: st) u bb σ Q ↔ (q_ty a = 4 ∧ 0 ≤ i ∧ i < q_ln a) ∧ qx sc D 37 105 ls (vr (a + 1 + i.toNat) :: st) u bb σ Q := r_aald (by decide +kernel)
theorem k37_105 : qx sc D 37 105 [l0, l1, vi x] st u bb σ Q ↔ qx sc D 37 106 [l0, l1, vi x] (vi x :: st) u bb σ Q := r_iload_n (k := 2) (by decide +kernel) rfl
theorem k37_106 : qx sc D 37 106 ls (vi i :: vr a :: st) u bb σ Q ↔ (q_ty a = 0 ∧ 0 ≤ i ∧ i < q_ln a) ∧ qx sc D 37 107 ls (vi (σ a i) :: st) u bb σ Q := r_iald (by decide +kernel)
theorem k37_107 : qx sc D 37 107 [vr a, l1, l2] st u bb σ Q ↔ qx sc D 37 108 [vr a, l1, l2] (vr a :: st) u bb σ Q := r_aload_n (k := 0) (by decide +kernel) rfl
theorem k37_108 : qx sc D 37 108 ls (vr 66 :: st) u bb σ Q ↔ qx sc D 37 111 ls (vr 69 :: st) u bb σ Q := r_getR (idx := 20) (c := 8) (k := 7) (by decide +kernel)
theorem k37_111 : qx sc D 37 111 ls st u bb σ Q ↔ qx sc D 37 112 ls (vi 1 :: st) u bb σ Q := r_iconst (by decide +kernel)
theorem k37_112 : qx sc D 37 112 ls (vi i :: vr a :: st) u bb σ Q ↔ (q_ty a = 4 ∧ 0 ≤ i ∧ i < q_ln a) ∧ qx sc D 37 113 ls (vr (a + 1 + i.toNat) :: st) u bb σ Q := r_aald (by decide +kernel)
theorem k37_113 : qx sc D 37 113 [l0, l1, vi x] st u bb σ Q ↔ qx sc D 37 114 [l0, l1, vi x] (vi x :: st) u bb σ Q := r_iload_n (k := 2) (by decide +kernel) rfl
theorem k37_114 : qx sc D 37 114 ls (vi i :: vr a :: st) u bb σ Q ↔ (q_ty a = 0 ∧ 0 ≤ i ∧ i < q_ln a) ∧ qx sc D 37 115 ls (vi (σ a i) :: st) u bb σ Q := r_iald (by decide +kernel)
theorem k37_115 : qx sc D 37 115 ls (vi b' :: vi a' :: st) u bb σ Q ↔ q_R (a' + b') ∧ qx sc D 37 116 ls (vi (a' + b') :: st) u bb σ Q := r_iadd (by decide +kernel)
theorem k37_116 : qx sc D 37 116 ls (vi b' :: vi a' :: st) u bb σ Q ↔ q_R (a' + b') ∧ qx sc D 37 117 ls (vi (a' + b') :: st) u bb σ Q := r_iadd (by decide +kernel)
theorem k37_117 : qx sc D 37 117 ls (vi x :: vr 66 :: st) u bb σ Q ↔ qx sc D 37 120 ls st u bb (q_up σ 66 8 x) Q := r_putI (idx := 39) (c := 8) (k := 8) (by decide +kernel)
theorem k37_120 : qx sc D 37 120 [vr a, l1, l2] st u bb σ Q ↔ qx sc D 37 121 [vr a, l1, l2] (vr a :: st) u bb σ Q := r_aload_n (k := 0) (by decide +kernel) rfl
theorem k37_121 : qx sc D 37 121 ls (vr a :: st) u bb σ Q ↔ qx sc D 37 122 ls (vr a :: vr a :: st) u bb σ Q := r_dupA (by decide +kernel)
theorem k37_122 : qx sc D 37 122 ls (vr 66 :: st) u bb σ Q ↔ qx sc D 37 125 ls (vi (σ 66 9) :: st) u bb σ Q := r_getI (idx := 43) (c := 8) (k := 9) (by decide +kernel)
theorem k37_125 : qx sc D 37 125 [vr a, l1, l2] st u bb σ Q ↔ qx sc D 37 126 [vr a, l1, l2] (vr a :: st) u bb σ Q := r_aload_n (k := 0) (by decide +kernel) rfl
theorem k37_126 : qx sc D 37 126 ls (vr 66 :: st) u bb σ Q ↔ qx sc D 37 129 ls (vr 69 :: st) u bb σ Q := r_getR (idx := 20) (c := 8) (k := 7) (by decide +kernel)
theorem k37_129 : qx sc D 37 129 ls st u bb σ Q ↔ qx sc D 37 130 ls (vi 0 :: st) u bb σ Q := r_iconst (by decide +kernel)
theorem k37_130 : qx sc D 37 130 ls (vi i :: vr a :: st) u bb σ Q ↔ (q_ty a = 4 ∧ 0 ≤ i ∧ i < q_ln a) ∧ qx sc D 37 131 ls (vr (a + 1 + i.toNat) :: st) u bb σ Q := r_aald (by decide +kernel)
theorem k37_131 : qx sc D 37 131 [l0, l1, vi x] st u bb σ Q ↔ qx sc D 37 132 [l0, l1, vi x] (vi x :: st) u bb σ Q := r_iload_n (k := 2) (by decide +kernel) rfl
theorem k37_132 : qx sc D 37 132 ls (vi i :: vr a :: st) u bb σ Q ↔ (q_ty a = 0 ∧ 0 ≤ i ∧ i < q_ln a) ∧ qx sc D 37 133 ls (vi (σ a i) :: st) u bb σ Q := r_iald (by decide +kernel)
theorem k37_133 : qx sc D 37 133 [vr a, l1, l2] st u bb σ Q ↔ qx sc D 37 134 [vr a, l1, l2] (vr a :: st) u bb σ Q := r_aload_n (k := 0) (by decide +kernel) rfl
theorem k37_134 : qx sc D 37 134 ls (vr 66 :: st) u bb σ Q ↔ qx sc D 37 137 ls (vr 69 :: st) u bb σ Q := r_getR (idx := 20) (c := 8) (k := 7) (by decide +kernel)
theorem k37_137 : qx sc D 37 137 ls st u bb σ Q ↔ qx sc D 37 138 ls (vi 1 :: st) u bb σ Q := r_iconst (by decide +kernel)
theorem k37_138 : qx sc D 37 138 ls (vi i :: vr a :: st) u bb σ Q ↔ (q_ty a = 4 ∧ 0 ≤ i ∧ i < q_ln a) ∧ qx sc D 37 139 ls (vr (a + 1 + i.toNat) :: st) u bb σ Q := r_aald (by decide +kernel)
theorem k37_139 : qx sc D 37 139 [l0, l1, vi x] st u bb σ Q ↔ qx sc D 37 140 [l0, l1, vi x] (vi x :: st) u bb σ Q := r_iload_n (k := 2) (by decide +kernel) rfl
theorem k37_140 : qx sc D 37 140 ls (vi i :: vr a :: st) u bb σ Q ↔ (q_ty a = 0 ∧ 0 ≤ i ∧ i < q_ln a) ∧ qx sc D 37 141 ls (vi (σ a i) :: st) u bb σ Q := r_iald (by decide +kernel)
theorem k37_141 : qx sc D 37 141 ls (vi b' :: vi a' :: st) u bb σ Q ↔ q_R (a' * b') ∧ qx sc D 37 142 ls (vi (a' * b') :: st) u bb σ Q := r_imul (by decide +kernel)
theorem k37_142 : qx sc D 37 142 ls (vi b' :: vi a' :: st) u bb σ Q ↔ q_R (a' + b') ∧ qx sc D 37 143 ls (vi (a' + b') :: st) u bb σ Q := r_iadd (by decide +kernel)
theorem k37_143 : qx sc D 37 143 ls (vi x :: vr 66 :: st) u bb σ Q ↔ qx sc D 37 146 ls st u bb (q_up σ 66 9 x) Q := r_putI (idx := 43) (c := 8) (k := 9) (by decide +kernel)
theorem k37_146 : qx sc D 37 146 [l0, l1, vi x] st u bb σ Q ↔ q_R (x + 1) ∧ qx sc D 37 149 [l0, l1, vi (x + 1)] st u bb σ Q := r_iinc (k := 2) (n := 1) (by decide +kernel) rfl
theorem k37_149 : qx sc D 37 149 ls st u bb σ Q ↔ qx sc D 37 25 ls st u bb σ Q := r_goto (off := (-124)) (by decide +kernel)
theorem k37_152 : qx sc D 37 152 ls [] (0, 0) bb σ Q ↔ Q (.inl none) bb σ := r_retV (by decide +kernel)
-- 17: RowProver$Guards.counts(II)Z
theorem k17_0 : qx sc D 17 0 [vr a, l1, l2, l3, l4] st u bb σ Q ↔ qx sc D 17 1 [vr a, l1, l2, l3, l4] (vr a :: st) u bb σ Q := r_aload_n (k := 0) (by decide +kernel) rfl
theorem k17_1 : qx sc D 17 1 ls (vr 72 :: st) u bb σ Q ↔ qx sc D 17 4 ls (vr 27 :: st) u bb σ Q := r_getR (idx := 28) (c := 5) (k := 1) (by decide +kernel)
theorem k17_4 : qx sc D 17 4 ls (vr 27 :: st) u bb σ Q ↔ qx sc D 17 7 ls (vr 31 :: st) u bb σ Q := r_getR (idx := 84) (c := 6) (k := 3) (by decide +kernel)
theorem k17_7 : qx sc D 17 7 [l0, vi x, l2, l3, l4] st u bb σ Q ↔ qx sc D 17 8 [l0, vi x, l2, l3, l4] (vi x :: st) u bb σ Q := r_iload_n (k := 1) (by decide +kernel) rfl
theorem k17_8 : qx sc D 17 8 ls (vi i :: vr a :: st) u bb σ Q ↔ (q_ty a = 0 ∧ 0 ≤ i ∧ i < q_ln a) ∧ qx sc D 17 9 ls (vi (σ a i) :: st) u bb σ Q := r_iald (by decide +kernel)
theorem k17_9 : qx sc D 17 9 [l0, l1, l2, l3, l4] (vi x :: st) u bb σ Q ↔ qx sc D 17 10 [l0, l1, l2, vi x, l4] st u bb σ Q := r_istore_n (k := 3) (by decide +kernel) (Nat.le_of_ble_eq_true rfl)
theorem k17_10 : qx sc D 17 10 [l0, l1, vi x, l3, l4] st u bb σ Q ↔ qx sc D 17 11 [l0, l1, vi x, l3, l4] (vi x :: st) u bb σ Q := r_iload_n (k := 2) (by decide +kernel) rfl
theorem k17_11 : qx sc D 17 11 [l0, l1, l2, vi x, l4] st u bb σ Q ↔ qx sc D 17 12 [l0, l1, l2, vi x, l4] (vi x :: st) u bb σ Q := r_iload_n (k := 3) (by decide +kernel) rfl
theorem k17_12 : qx sc D 17 12 ls (vi b' :: vi a' :: st) u bb σ Q ↔ (a' < b' → qx sc D 17 30 ls st u bb σ Q) ∧ (¬ (a' < b') → qx sc D 17 15 ls st u bb σ Q) := r_ic_lt (off := 18) (t := 30) (by decide +kernel)
theorem k17_15 : qx sc D 17 15 [l0, l1, vi x, l3, l4] st u bb σ Q ↔ qx sc D 17 16 [l0, l1, vi x, l3, l4] (vi x :: st) u bb σ Q := r_iload_n (k := 2) (by decide +kernel) rfl
theorem k17_16 : qx sc D 17 16 [l0, l1, l2, vi x, l4] st u bb σ Q ↔ qx sc D 17 17 [l0, l1, l2, vi x, l4] (vi x :: st) u bb σ Q := r_iload_n (k := 3) (by decide +kernel) rfl
theorem k17_17 : qx sc D 17 17 [vr a, l1, l2, l3, l4] st u bb σ Q ↔ qx sc D 17 18 [vr a, l1, l2, l3, l4] (vr a :: st) u bb σ Q := r_aload_n (k := 0) (by decide +kernel) rfl
theorem k17_18 : qx sc D 17 18 ls (vr 72 :: st) u bb σ Q ↔ qx sc D 17 21 ls (vr 27 :: st) u bb σ Q := r_getR (idx := 28) (c := 5) (k := 1) (by decide +kernel)
theorem k17_21 : qx sc D 17 21 ls (vr 27 :: st) u bb σ Q ↔ qx sc D 17 24 ls (vr 32 :: st) u bb σ Q := r_getR (idx := 91) (c := 6) (k := 4) (by decide +kernel)
theorem k17_24 : qx sc D 17 24 [l0, vi x, l2, l3, l4] st u bb σ Q ↔ qx sc D 17 25 [l0, vi x, l2, l3, l4] (vi x :: st) u bb σ Q := r_iload_n (k := 1) (by decide +kernel) rfl
theorem k17_25 : qx sc D 17 25 ls (vi i :: vr a :: st) u bb σ Q ↔ (q_ty a = 0 ∧ 0 ≤ i ∧ i < q_ln a) ∧ qx sc D 17 26 ls (vi (σ a i) :: st) u bb σ Q := r_iald (by decide +kernel)
theorem k17_26 : qx sc D 17 26 ls (vi b' :: vi a' :: st) u bb σ Q ↔ q_R (a' + b') ∧ qx sc D 17 27 ls (vi (a' + b') :: st) u bb σ Q := r_iadd (by decide +kernel)
theorem k17_27 : qx sc D 17 27 ls (vi b' :: vi a' :: st) u bb σ Q ↔ (a' < b' → qx sc D 17 32 ls st u bb σ Q) ∧ (¬ (a' < b') → qx sc D 17 30 ls st u bb σ Q) := r_ic_lt (off := 5) (t := 32) (by decide +kernel)
theorem k17_30 : qx sc D 17 30 ls st u bb σ Q ↔ qx sc D 17 31 ls (vi 0 :: st) u bb σ Q := r_iconst (by decide +kernel)
theorem k17_31 : qx sc D 17 31 ls [vi x] (0, 0) bb σ Q ↔ (x = 0 ∨ x = 1) ∧ Q (.inl (some (vi x))) bb σ := r_retB (by decide +kernel)
theorem k17_32 : qx sc D 17 32 [vr a, l1, l2, l3, l4] st u bb σ Q ↔ qx sc D 17 33 [vr a, l1, l2, l3, l4] (vr a :: st) u bb σ Q := r_aload_n (k := 0) (by decide +kernel) rfl
theorem k17_33 : qx sc D 17 33 ls (vr 72 :: st) u bb σ Q ↔ qx sc D 17 36 ls (vr 9 :: st) u bb σ Q := r_getR (idx := 24) (c := 5) (k := 0) (by decide +kernel)
theorem k17_36 : qx sc D 17 36 ls (vr 9 :: st) u bb σ Q ↔ qx sc D 17 39 ls (vr 14 :: st) u bb σ Q := r_getR (idx := 94) (c := 13) (k := 5) (by decide +kernel)
theorem k17_39 : qx sc D 17 39 [l0, l1, vi x, l3, l4] st u bb σ Q ↔ qx sc D 17 40 [l0, l1, vi x, l3, l4] (vi x :: st) u bb σ Q := r_iload_n (k := 2) (by decide +kernel) rfl
theorem k17_40 : qx sc D 17 40 ls (vi i :: vr a :: st) u bb σ Q ↔ (q_ty a = 0 ∧ 0 ≤ i ∧ i < q_ln a) ∧ qx sc D 17 41 ls (vi (σ a i) :: st) u bb σ Q := r_iald (by decide +kernel)
theorem k17_41 : qx sc D 17 41 [l0, l1, l2, l3, l4] (vi x :: st) u bb σ Q ↔ qx sc D 17 43 [l0, l1, l2, l3, vi x] st u bb σ Q := r_istore (k := 4) (by decide +kernel) (Nat.le_of_ble_eq_true rfl)
theorem k17_43 : qx sc D 17 43 [vr a, l1, l2, l3, l4] st u bb σ Q ↔ qx sc D 17 44 [vr a, l1, l2, l3, l4] (vr a :: st) u bb σ Q := r_aload_n (k := 0) (by decide +kernel) rfl
theorem k17_44 : qx sc D 17 44 ls (vr 72 :: st) u bb σ Q ↔ qx sc D 17 47 ls (vr 9 :: st) u bb σ Q := r_getR (idx := 24) (c := 5) (k := 0) (by decide +kernel)
theorem k17_47 : qx sc D 17 47 ls (vr 9 :: st) u bb σ Q ↔ qx sc D 17 50 ls (vr 16 :: st) u bb σ Q := r_getR (idx := 65) (c := 13) (k := 7) (by decide +kernel)
theorem k17_50 : qx sc D 17 50 [l0, l1, l2, l3, vi x] st u bb σ Q ↔ qx sc D 17 52 [l0, l1, l2, l3, vi x] (vi x :: st) u bb σ Q := r_iload (k := 4) (by decide +kernel) rfl
theorem k17_52 : qx sc D 17 52 ls (vi i :: vr a :: st) u bb σ Q ↔ (q_ty a = 0 ∧ 0 ≤ i ∧ i < q_ln a) ∧ qx sc D 17 53 ls (vi (σ a i) :: st) u bb σ Q := r_iald (by decide +kernel)
theorem k17_53 : qx sc D 17 53 [l0, l1, vi x, l3, l4] st u bb σ Q ↔ qx sc D 17 54 [l0, l1, vi x, l3, l4] (vi x :: st) u bb σ Q := r_iload_n (k := 2) (by decide +kernel) rfl
theorem k17_54 : qx sc D 17 54 ls (vi b' :: vi a' :: st) u bb σ Q ↔ (a' = b' → qx sc D 17 57 ls st u bb σ Q) ∧ (¬ (a' = b') → qx sc D 17 70 ls st u bb σ Q) := r_ic_ne (off := 16) (t := 70) (by decide +kernel)
theorem k17_57 : qx sc D 17 57 [vr a, l1, l2, l3, l4] st u bb σ Q ↔ qx sc D 17 58 [vr a, l1, l2, l3, l4] (vr a :: st) u bb σ Q := r_aload_n (k := 0) (by decide +kernel) rfl
theorem k17_58 : qx sc D 17 58 ls (vr 72 :: st) u bb σ Q ↔ qx sc D 17 61 ls (vr 9 :: st) u bb σ Q := r_getR (idx := 24) (c := 5) (k := 0) (by decide +kernel)
theorem k17_61 : qx sc D 17 61 ls (vr 9 :: st) u bb σ Q ↔ qx sc D 17 64 ls (vr 17 :: st) u bb σ Q := r_getR (idx := 97) (c := 13) (k := 8) (by decide +kernel)
theorem k17_64 : qx sc D 17 64 [l0, l1, l2, l3, vi x] st u bb σ Q ↔ qx sc D 17 66 [l0, l1, l2, l3, vi x] (vi x :: st) u bb σ Q := r_iload (k := 4) (by decide +kernel) rfl
theorem k17_66 : qx sc D 17 66 ls (vi i :: vr a :: st) u bb σ Q ↔ (q_ty a = 0 ∧ 0 ≤ i ∧ i < q_ln a) ∧ qx sc D 17 67 ls (vi (σ a i) :: st) u bb σ Q := r_iald (by decide +kernel)
theorem k17_67 : qx sc D 17 67 ls (vi x :: st) u bb σ Q ↔ (x < 0 → qx sc D 17 70 ls st u bb σ Q) ∧ (¬ (x < 0) → qx sc D 17 72 ls st u bb σ Q) := r_if_ge (off := 5) (t := 72) (by decide +kernel)
theorem k17_70 : qx sc D 17 70 ls st u bb σ Q ↔ qx sc D 17 71 ls (vi 0 :: st) u bb σ Q := r_iconst (by decide +kernel)
theorem k17_71 : qx sc D 17 71 ls [vi x] (0, 0) bb σ Q ↔ (x = 0 ∨ x = 1) ∧ Q (.inl (some (vi x))) bb σ := r_retB (by decide +kernel)
theorem k17_72 : qx sc D 17 72 [vr a, l1, l2, l3, l4] st u bb σ Q ↔ qx sc D 17 73 [vr a, l1, l2, l3, l4] (vr a :: st) u bb σ Q := r_aload_n (k := 0) (by decide +kernel) rfl
theorem k17_73 : qx sc D 17 73 ls (vr 72 :: st) u bb σ Q ↔ 0 ≤ σ 72 2 ∧ qx sc D 17 76 ls (vr (σ 72 2).toNat :: st) u bb σ Q := r_getM (idx := 36) (c := 5) (k := 2) (by decide +kernel)
theorem k17_76 (hc : q_C c) : qx sc D 17 76 ls (vr c :: st) u bb σ Q ↔ qx sc D 17 79 ls (vr (c + 16) :: st) u bb σ Q := r_getRc (idx := 100) (k := 18) (by decide +kernel) hc
theorem k17_79 (hc : q_C c) : qx sc D 17 79 ls (vr (c + 16) :: st) u bb σ Q ↔ qx sc D 17 82 ls (vr (c + 17) :: st) u bb σ Q := r_getRt (idx := 104) (k := 0) (j := 1) (by decide +kernel) hc
theorem k17_82 : qx sc D 17 82 [l0, vi x, l2, l3, l4] st u bb σ Q ↔ qx sc D 17 83 [l0, vi x, l2, l3, l4] (vi x :: st) u bb σ Q := r_iload_n (k := 1) (by decide +kernel) rfl
theorem k17_83 : qx sc D 17 83 ls (vi i :: vr a :: st) u bb σ Q ↔ (q_ty a = 0 ∧ 0 ≤ i ∧ i < q_ln a) ∧ qx sc D 17 84 ls (vi (σ a i) :: st) u bb σ Q := r_iald (by decide +kernel)
theorem k17_84 : qx sc D 17 84 ls st u bb σ Q ↔ qx sc D 17 85 ls (vi 2 :: st) u bb σ Q := r_iconst (by decide +kernel)
theorem k17_85 : qx sc D 17 85 ls (vi b' :: vi a' :: st) u bb σ Q ↔ (a' = b' → qx sc D 17 103 ls st u bb σ Q) ∧ (¬ (a' = b') → qx sc D 17 88 ls st u bb σ Q) := r_ic_eq (off := 18) (t := 103) (by decide +kernel)
theorem k17_88 : qx sc D 17 88 [vr a, l1, l2, l3, l4] st u bb σ Q ↔ qx sc D 17 89 [vr a, l1, l2, l3, l4] (vr a :: st) u bb σ Q := r_aload_n (k := 0) (by decide +kernel) rfl
theorem k17_89 : qx sc D 17 89 ls (vr 72 :: st) u bb σ Q ↔ qx sc D 17 92 ls (vr 27 :: st) u bb σ Q := r_getR (idx := 28) (c := 5) (k := 1) (by decide +kernel)
theorem k17_92 : qx sc D 17 92 ls (vr 27 :: st) u bb σ Q ↔ qx sc D 17 95 ls (vr 36 :: st) u bb σ Q := r_getR (idx := 109) (c := 6) (k := 8) (by decide +kernel)
theorem k17_95 : qx sc D 17 95 ls st u bb σ Q ↔ qx sc D 17 96 ls (vi 0 :: st) u bb σ Q := r_iconst (by decide +kernel)
theorem k17_96 : qx sc D 17 96 ls (vi i :: vr a :: st) u bb σ Q ↔ (q_ty a = 4 ∧ 0 ≤ i ∧ i < q_ln a) ∧ qx sc D 17 97 ls (vr (a + 1 + i.toNat) :: st) u bb σ Q := r_aald (by decide +kernel)
theorem k17_97 : qx sc D 17 97 [l0, vi x, l2, l3, l4] st u bb σ Q ↔ qx sc D 17 98 [l0, vi x, l2, l3, l4] (vi x :: st) u bb σ Q := r_iload_n (k := 1) (by decide +kernel) rfl
theorem k17_98 : qx sc D 17 98 ls (vi i :: vr a :: st) u bb σ Q ↔ (q_ty a = 0 ∧ 0 ≤ i ∧ i < q_ln a) ∧ qx sc D 17 99 ls (vi (σ a i) :: st) u bb σ Q := r_iald (by decide +kernel)
theorem k17_99 : qx sc D 17 99 [l0, l1, vi x, l3, l4] st u bb σ Q ↔ qx sc D 17 100 [l0, l1, vi x, l3, l4] (vi x :: st) u bb σ Q := r_iload_n (k := 2) (by decide +kernel) rfl
theorem k17_100 : qx sc D 17 100 ls (vi b' :: vi a' :: st) u bb σ Q ↔ (a' = b' → qx sc D 17 105 ls st u bb σ Q) ∧ (¬ (a' = b') → qx sc D 17 103 ls st u bb σ Q) := r_ic_eq (off := 5) (t := 105) (by decide +kernel)
theorem k17_103 : qx sc D 17 103 ls st u bb σ Q ↔ qx sc D 17 104 ls (vi 0 :: st) u bb σ Q := r_iconst (by decide +kernel)
theorem k17_104 : qx sc D 17 104 ls [vi x] (0, 0) bb σ Q ↔ (x = 0 ∨ x = 1) ∧ Q (.inl (some (vi x))) bb σ := r_retB (by decide +kernel)
theorem k17_105 : qx sc D 17 105 [vr a, l1, l2, l3, l4] st u bb σ Q ↔ qx sc D 17 106 [vr a, l1, l2, l3, l4] (vr a :: st) u bb σ Q := r_aload_n (k := 0) (by decide +kernel) rfl
theorem k17_106 : qx sc D 17 106 ls (vr 72 :: st) u bb σ Q ↔ qx sc D 17 109 ls (vr 27 :: st) u bb σ Q := r_getR (idx := 28) (c := 5) (k := 1) (by decide +kernel)
theorem k17_109 : qx sc D 17 109 ls (vr 27 :: st) u bb σ Q ↔ qx sc D 17 112 ls (vr 36 :: st) u bb σ Q := r_getR (idx := 109) (c := 6) (k := 8) (by decide +kernel)
theorem k17_112 : qx sc D 17 112 ls st u bb σ Q ↔ qx sc D 17 113 ls (vi 1 :: st) u bb σ Q := r_iconst (by decide +kernel)
theorem k17_113 : qx sc D 17 113 ls (vi i :: vr a :: st) u bb σ Q ↔ (q_ty a = 4 ∧ 0 ≤ i ∧ i < q_ln a) ∧ qx sc D 17 114 ls (vr (a + 1 + i.toNat) :: st) u bb σ Q := r_aald (by decide +kernel)
theorem k17_114 : qx sc D 17 114 [l0, vi x, l2, l3, l4] st u bb σ Q ↔ qx sc D 17 115 [l0, vi x, l2, l3, l4] (vi x :: st) u bb σ Q := r_iload_n (k := 1) (by decide +kernel) rfl
theorem k17_115 : qx sc D 17 115 ls (vi i :: vr a :: st) u bb σ Q ↔ (q_ty a = 0 ∧ 0 ≤ i ∧ i < q_ln a) ∧ qx sc D 17 116 ls (vi (σ a i) :: st) u bb σ Q := r_iald (by decide +kernel)
theorem k17_116 : qx sc D 17 116 [l0, l1, l2, vi x, l4] st u bb σ Q ↔ qx sc D 17 117 [l0, l1, l2, vi x, l4] (vi x :: st) u bb σ Q := r_iload_n (k := 3) (by decide +kernel) rfl
theorem k17_117 : qx sc D 17 117 ls (vi b' :: vi a' :: st) u bb σ Q ↔ (a' < b' → qx sc D 17 120 ls st u bb σ Q) ∧ (¬ (a' < b') → qx sc D 17 124 ls st u bb σ Q) := r_ic_ge (off := 7) (t := 124) (by decide +kernel)
theorem k17_120 : qx sc D 17 120 ls st u bb σ Q ↔ qx sc D 17 121 ls (vi 1 :: st) u bb σ Q := r_iconst (by decide +kernel)
theorem k17_121 : qx sc D 17 121 ls st u bb σ Q ↔ qx sc D 17 125 ls st u bb σ Q := r_goto (off := 4) (by decide +kernel)
theorem k17_124 : qx sc D 17 124 ls st u bb σ Q ↔ qx sc D 17 125 ls (vi 0 :: st) u bb σ Q := r_iconst (by decide +kernel)
theorem k17_125 : qx sc D 17 125 ls [vi x] (0, 0) bb σ Q ↔ (x = 0 ∨ x = 1) ∧ Q (.inl (some (vi x))) bb σ := r_retB (by decide +kernel)
-- 18: RowProver$Guards.perform(LRowProver$Code;)V
theorem k18_0 : qx sc D 18 0 [vr a, l1, l2, l3] st u bb σ Q ↔ qx sc D 18 1 [vr a, l1, l2, l3] (vr a :: st) u bb σ Q := r_aload_n (k := 0) (by decide +kernel) rfl
theorem k18_1 : qx sc D 18 1 [l0, vr a, l2, l3] st u bb σ Q ↔ qx sc D 18 2 [l0, vr a, l2, l3] (vr a :: st) u bb σ Q := r_aload_n (k := 1) (by decide +kernel) rfl
theorem k18_2 : qx sc D 18 2 ls (vr b :: vr 72 :: st) u bb σ Q ↔ b < 1000000 ∧ qx sc D 18 5 ls st u bb (q_up σ 72 2 b) Q := r_putM (idx := 36) (c := 5) (k := 2) (by decide +kernel)
theorem k18_5 : qx sc D 18 5 [vr a, l1, l2, l3] st u bb σ Q ↔ qx sc D 18 6 [vr a, l1, l2, l3] (vr a :: st) u bb σ Q := r_aload_n (k := 0) (by decide +kernel) rfl
theorem k18_6 : qx sc D 18 6 ls st u bb σ Q ↔ qx sc D 18 7 ls (vi 0 :: st) u bb σ Q := r_iconst (by decide +kernel)
theorem k18_7 : qx sc D 18 7 ls (vi x :: vr 72 :: st) u bb σ Q ↔ qx sc D 18 10 ls st u bb (q_up σ 72 8 x) Q := r_putI (idx := 40) (c := 5) (k := 8) (by decide +kernel)
theorem k18_10 : qx sc D 18 10 [vr a, l1, l2, l3] st u bb σ Q ↔ qx sc D 18 11 [vr a, l1, l2, l3] (vr a :: st) u bb σ Q := r_aload_n (k := 0) (by decide +kernel) rfl
theorem k18_11 : qx sc D 18 11 ls (vr 72 :: st) u bb σ Q ↔ qx sc D 18 14 ls (vr 75 :: st) u bb σ Q := r_getR (idx := 18) (c := 5) (k := 6) (by decide +kernel)
theorem k18_14 : qx sc D 18 14 ls st u bb σ Q ↔ qx sc D 18 15 ls (vi 0 :: st) u bb σ Q := r_iconst (by decide +kernel)
theorem k18_15 : qx sc (D + 1) 18 15 ls [vi x1, vr a0] (0, 0) bb σ Q ↔ qx sc D 249 0 [vr a0, vi x1, vn, vn] [] (0, 0) bb σ (q_kn sc (D + 1) 18 18 ls [] (0, 0) Q) := r_calls (idx := 44) (n := 2) (m := 4) (by decide +kernel) rfl (Nat.le_of_ble_eq_true rfl) ⟨Nat.le_of_ble_eq_true rfl, Nat.le_of_ble_eq_true rfl, rfl⟩ rfl
theorem k18_18 : qx sc D 18 18 [vr a, l1, l2, l3] st u bb σ Q ↔ qx sc D 18 19 [vr a, l1, l2, l3] (vr a :: st) u bb σ Q := r_aload_n (k := 0) (by decide +kernel) rfl
theorem k18_19 : qx sc D 18 19 ls (vr 72 :: st) u bb σ Q ↔ qx sc D 18 22 ls (vr 76 :: st) u bb σ Q := r_getR (idx := 21) (c := 5) (k := 7) (by decide +kernel)
theorem k18_22 : qx sc D 18 22 ls st u bb σ Q ↔ qx sc D 18 23 ls (vi 0 :: st) u bb σ Q := r_iconst (by decide +kernel)
theorem k18_23 : qx sc (D + 1) 18 23 ls [vi x1, vr a0] (0, 0) bb σ Q ↔ qx sc D 249 0 [vr a0, vi x1, vn, vn] [] (0, 0) bb σ (q_kn sc (D + 1) 18 26 ls [] (0, 0) Q) := r_calls (idx := 44) (n := 2) (m := 4) (by decide +kernel) rfl (Nat.le_of_ble_eq_true rfl) ⟨Nat.le_of_ble_eq_true rfl, Nat.le_of_ble_eq_true rfl, rfl⟩ rfl
theorem k18_26 : qx sc D 18 26 ls st u bb σ Q ↔ qx sc D 18 27 ls (vi 0 :: st) u bb σ Q := r_iconst (by decide +kernel)
theorem k18_27 : qx sc D 18 27 [l0, l1, l2, l3] (vi x :: st) u bb σ Q ↔ qx sc D 18 28 [l0, l1, vi x, l3] st u bb σ Q := r_istore_n (k := 2) (by decide +kernel) (Nat.le_of_ble_eq_true rfl)
theorem k18_28 : qx sc D 18 28 [l0, l1, vi x, l3] st u bb σ Q ↔ qx sc D 18 29 [l0, l1, vi x, l3] (vi x :: st) u bb σ Q := r_iload_n (k := 2) (by decide +kernel) rfl
theorem k18_29 : qx sc D 18 29 [vr a, l1, l2, l3] st u bb σ Q ↔ qx sc D 18 30 [vr a, l1, l2, l3] (vr a :: st) u bb σ Q := r_aload_n (k := 0) (by decide +kernel) rfl
theorem k18_30 : qx sc D 18 30 ls (vr 72 :: st) u bb σ Q ↔ 0 ≤ σ 72 2 ∧ qx sc D 18 33 ls (vr (σ 72 2).toNat :: st) u bb σ Q := r_getM (idx := 36) (c := 5) (k := 2) (by decide +kernel)
theorem k18_33 (hc : q_C c) : qx sc D 18 33 ls (vr c :: st) u bb σ Q ↔ qx sc D 18 36 ls (vi (σ c 1) :: st) u bb σ Q := r_getIc (idx := 50) (k := 1) (by decide +kernel) hc
theorem k18_36 : qx sc D 18 36 ls (vi b' :: vi a' :: st) u bb σ Q ↔ (a' < b' → qx sc D 18 39 ls st u bb σ Q) ∧ (¬ (a' < b') → qx sc D 18 144 ls st u bb σ Q) := r_ic_ge (off := 108) (t := 144) (by decide +kernel)
theorem k18_39 : qx sc D 18 39 [vr a, l1, l2, l3] st u bb σ Q ↔ qx sc D 18 40 [vr a, l1, l2, l3] (vr a :: st) u bb σ Q := r_aload_n (k := 0) (by decide +kernel) rfl
theorem k18_40 : qx sc D 18 40 ls (vr 72 :: st) u bb σ Q ↔ qx sc D 18 43 ls (vr 73 :: st) u bb σ Q := r_getR (idx := 9) (c := 5) (k := 4) (by decide +kernel)
theorem k18_43 : qx sc D 18 43 [l0, l1, vi x, l3] st u bb σ Q ↔ qx sc D 18 44 [l0, l1, vi x, l3] (vi x :: st) u bb σ Q := r_iload_n (k := 2) (by decide +kernel) rfl
theorem k18_44 : qx sc D 18 44 ls st u bb σ Q ↔ qx sc D 18 45 ls (vi (-1) :: st) u bb σ Q := r_iconst (by decide +kernel)
theorem k18_45 : qx sc D 18 45 ls (vi x :: vi i :: vr a :: st) u bb σ Q ↔ (q_ty a = 0 ∧ 0 ≤ i ∧ i < q_ln a) ∧ qx sc D 18 46 ls st u bb (q_up σ a i x) Q := r_iast (by decide +kernel)
theorem k18_46 : qx sc D 18 46 [vr a, l1, l2, l3] st u bb σ Q ↔ qx sc D 18 47 [vr a, l1, l2, l3] (vr a :: st) u bb σ Q := r_aload_n (k := 0) (by decide +kernel) rfl
theorem k18_47 : qx sc D 18 47 ls (vr 72 :: st) u bb σ Q ↔ qx sc D 18 50 ls (vr 74 :: st) u bb σ Q := r_getR (idx := 15) (c := 5) (k := 5) (by decide +kernel)
theorem k18_50 : qx sc D 18 50 [l0, l1, vi x, l3] st u bb σ Q ↔ qx sc D 18 51 [l0, l1, vi x, l3] (vi x :: st) u bb σ Q := r_iload_n (k := 2) (by decide +kernel) rfl
theorem k18_51 : qx sc D 18 51 ls st u bb σ Q ↔ qx sc D 18 52 ls (vi (-1) :: st) u bb σ Q := r_iconst (by decide +kernel)
theorem k18_52 : qx sc D 18 52 ls (vi x :: vi i :: vr a :: st) u bb σ Q ↔ (q_ty a = 0 ∧ 0 ≤ i ∧ i < q_ln a) ∧ qx sc D 18 53 ls st u bb (q_up σ a i x) Q := r_iast (by decide +kernel)
theorem k18_53 : qx sc D 18 53 ls st u bb σ Q ↔ qx sc D 18 54 ls (vi 2 :: st) u bb σ Q := r_iconst (by decide +kernel)
theorem k18_54 : qx sc D 18 54 [vr a, l1, l2, l3] st u bb σ Q ↔ qx sc D 18 55 [vr a, l1, l2, l3] (vr a :: st) u bb σ Q := r_aload_n (k := 0) (by decide +kernel) rfl
theorem k18_55 : qx sc D 18 55 ls (vr 72 :: st) u bb σ Q ↔ qx sc D 18 58 ls (vr 66 :: st) u bb σ Q := r_getR (idx := 32) (c := 5) (k := 3) (by decide +kernel)
theorem k18_58 : qx sc D 18 58 ls (vr 66 :: st) u bb σ Q ↔ qx sc D 18 61 ls (vr 69 :: st) u bb σ Q := r_getR (idx := 55) (c := 8) (k := 7) (by decide +kernel)
theorem k18_61 : qx sc D 18 61 ls st u bb σ Q ↔ qx sc D 18 62 ls (vi 0 :: st) u bb σ Q := r_iconst (by decide +kernel)
theorem k18_62 : qx sc D 18 62 ls (vi i :: vr a :: st) u bb σ Q ↔ (q_ty a = 4 ∧ 0 ≤ i ∧ i < q_ln a) ∧ qx sc D 18 63 ls (vr (a + 1 + i.toNat) :: st) u bb σ Q := r_aald (by decide +kernel)
theorem k18_63 : qx sc D 18 63 [l0, l1, vi x, l3] st u bb σ Q ↔ qx sc D 18 64 [l0, l1, vi x, l3] (vi x :: st) u bb σ Q := r_iload_n (k := 2) (by decide +kernel) rfl
theorem k18_64 : qx sc D 18 64 ls (vi i :: vr a :: st) u bb σ Q ↔ (q_ty a = 0 ∧ 0 ≤ i ∧ i < q_ln a) ∧ qx sc D 18 65 ls (vi (σ a i) :: st) u bb σ Q := r_iald (by decide +kernel)
theorem k18_65 : qx sc D 18 65 ls (vi b' :: vi a' :: st) u bb σ Q ↔ q_R (a' - b') ∧ qx sc D 18 66 ls (vi (a' - b') :: st) u bb σ Q := r_isub (by decide +kernel)
theorem k18_66 : qx sc D 18 66 [vr a, l1, l2, l3] st u bb σ Q ↔ qx sc D 18 67 [vr a, l1, l2, l3] (vr a :: st) u bb σ Q := r_aload_n (k := 0) (by decide +kernel) rfl
theorem k18_67 : qx sc D 18 67 ls (vr 72 :: st) u bb σ Q ↔ qx sc D 18 70 ls (vr 66 :: st) u bb σ Q := r_getR (idx := 32) (c := 5) (k := 3) (by decide +kernel)
theorem k18_70 : qx sc D 18 70 ls (vr 66 :: st) u bb σ Q ↔ qx sc D 18 73 ls (vr 69 :: st) u bb σ Q := r_getR (idx := 55) (c := 8) (k := 7) (by decide +kernel)
theorem k18_73 : qx sc D 18 73 ls st u bb σ Q ↔ qx sc D 18 74 ls (vi 1 :: st) u bb σ Q := r_iconst (by decide +kernel)
theorem k18_74 : qx sc D 18 74 ls (vi i :: vr a :: st) u bb σ Q ↔ (q_ty a = 4 ∧ 0 ≤ i ∧ i < q_ln a) ∧ qx sc D 18 75 ls (vr (a + 1 + i.toNat) :: st) u bb σ Q := r_aald (by decide +kernel)
theorem k18_75 : qx sc D 18 75 [l0, l1, vi x, l3] st u bb σ Q ↔ qx sc D 18 76 [l0, l1, vi x, l3] (vi x :: st) u bb σ Q := r_iload_n (k := 2) (by decide +kernel) rfl
theorem k18_76 : qx sc D 18 76 ls (vi i :: vr a :: st) u bb σ Q ↔ (q_ty a = 0 ∧ 0 ≤ i ∧ i < q_ln a) ∧ qx sc D 18 77 ls (vi (σ a i) :: st) u bb σ Q := r_iald (by decide +kernel)
theorem k18_77 : qx sc D 18 77 ls (vi b' :: vi a' :: st) u bb σ Q ↔ q_R (a' - b') ∧ qx sc D 18 78 ls (vi (a' - b') :: st) u bb σ Q := r_isub (by decide +kernel)
theorem k18_78 : qx sc D 18 78 [l0, l1, l2, l3] (vi x :: st) u bb σ Q ↔ qx sc D 18 79 [l0, l1, l2, vi x] st u bb σ Q := r_istore_n (k := 3) (by decide +kernel) (Nat.le_of_ble_eq_true rfl)
theorem k18_79 : qx sc D 18 79 [l0, l1, l2, vi x] st u bb σ Q ↔ qx sc D 18 80 [l0, l1, l2, vi x] (vi x :: st) u bb σ Q := r_iload_n (k := 3) (by decide +kernel) rfl
theorem k18_80 : qx sc D 18 80 ls (vi x :: st) u bb σ Q ↔ (0 < x → qx sc D 18 83 ls st u bb σ Q) ∧ (¬ (0 < x) → qx sc D 18 88 ls st u bb σ Q) := r_if_le (off := 8) (t := 88) (by decide +kernel)
theorem k18_83 : qx sc D 18 83 [vr a, l1, l2, l3] st u bb σ Q ↔ qx sc D 18 84 [vr a, l1, l2, l3] (vr a :: st) u bb σ Q := r_aload_n (k := 0) (by decide +kernel) rfl
theorem k18_84 : qx sc D 18 84 [l0, l1, vi x, l3] st u bb σ Q ↔ qx sc D 18 85 [l0, l1, vi x, l3] (vi x :: st) u bb σ Q := r_iload_n (k := 2) (by decide +kernel) rfl
theorem k18_85 : qx sc (D + 1) 18 85 ls [vi x0, vr 72] (0, 0) bb σ Q ↔ qx sc D 19 0 [vr 72, vi x0, vn, vn, vn, vn] [] (0, 0) bb σ (q_kn sc (D + 1) 18 88 ls [] (0, 0) Q) := r_callv (idx := 61) (n := 1) (m := 6) (by decide +kernel) rfl (Nat.le_of_ble_eq_true rfl) ⟨Nat.le_of_ble_eq_true rfl, Nat.le_of_ble_eq_true rfl, rfl⟩ rfl
theorem k18_88 : qx sc D 18 88 [vr a, l1, l2, l3] st u bb σ Q ↔ qx sc D 18 89 [vr a, l1, l2, l3] (vr a :: st) u bb σ Q := r_aload_n (k := 0) (by decide +kernel) rfl
theorem k18_89 : qx sc D 18 89 ls (vr 72 :: st) u bb σ Q ↔ qx sc D 18 92 ls (vr 73 :: st) u bb σ Q := r_getR (idx := 9) (c := 5) (k := 4) (by decide +kernel)
theorem k18_92 : qx sc D 18 92 [l0, l1, vi x, l3] st u bb σ Q ↔ qx sc D 18 93 [l0, l1, vi x, l3] (vi x :: st) u bb σ Q := r_iload_n (k := 2) (by decide +kernel) rfl
theorem k18_93 : qx sc D 18 93 ls (vi i :: vr a :: st) u bb σ Q ↔ (q_ty a = 0 ∧ 0 ≤ i ∧ i < q_ln a) ∧ qx sc D 18 94 ls (vi (σ a i) :: st) u bb σ Q := r_iald (by decide +kernel)
theorem k18_94 : qx sc D 18 94 ls st u bb σ Q ↔ qx sc D 18 95 ls (vi (-1) :: st) u bb σ Q := r_iconst (by decide +kernel)
theorem k18_95 : qx sc D 18 95 ls (vi b' :: vi a' :: st) u bb σ Q ↔ (a' = b' → qx sc D 18 138 ls st u bb σ Q) ∧ (¬ (a' = b') → qx sc D 18 98 ls st u bb σ Q) := r_ic_eq (off := 43) (t := 138) (by decide +kernel)
theorem k18_98 : qx sc D 18 98 [vr a, l1, l2, l3] st u bb σ Q ↔ qx sc D 18 99 [vr a, l1, l2, l3] (vr a :: st) u bb σ Q := r_aload_n (k := 0) (by decide +kernel) rfl
theorem k18_99 : qx sc D 18 99 ls (vr a :: st) u bb σ Q ↔ qx sc D 18 100 ls (vr a :: vr a :: st) u bb σ Q := r_dupA (by decide +kernel)
theorem k18_100 : qx sc D 18 100 ls (vr 72 :: st) u bb σ Q ↔ qx sc D 18 103 ls (vi (σ 72 8) :: st) u bb σ Q := r_getI (idx := 40) (c := 5) (k := 8) (by decide +kernel)
theorem k18_103 : qx sc D 18 103 ls st u bb σ Q ↔ qx sc D 18 104 ls (vi 1 :: st) u bb σ Q := r_iconst (by decide +kernel)
theorem k18_104 : qx sc D 18 104 ls (vi b' :: vi a' :: st) u bb σ Q ↔ q_R (a' + b') ∧ qx sc D 18 105 ls (vi (a' + b') :: st) u bb σ Q := r_iadd (by decide +kernel)
theorem k18_105 : qx sc D 18 105 ls (vi x :: vr 72 :: st) u bb σ Q ↔ qx sc D 18 108 ls st u bb (q_up σ 72 8 x) Q := r_putI (idx := 40) (c := 5) (k := 8) (by decide +kernel)
theorem k18_108 : qx sc D 18 108 [vr a, l1, l2, l3] st u bb σ Q ↔ qx sc D 18 109 [vr a, l1, l2, l3] (vr a :: st) u bb σ Q := r_aload_n (k := 0) (by decide +kernel) rfl
theorem k18_109 : qx sc D 18 109 ls (vr 72 :: st) u bb σ Q ↔ qx sc D 18 112 ls (vr 75 :: st) u bb σ Q := r_getR (idx := 18) (c := 5) (k := 6) (by decide +kernel)
theorem k18_112 : qx sc D 18 112 [vr a, l1, l2, l3] st u bb σ Q ↔ qx sc D 18 113 [vr a, l1, l2, l3] (vr a :: st) u bb σ Q := r_aload_n (k := 0) (by decide +kernel) rfl
theorem k18_113 : qx sc D 18 113 ls (vr 72 :: st) u bb σ Q ↔ qx sc D 18 116 ls (vr 73 :: st) u bb σ Q := r_getR (idx := 9) (c := 5) (k := 4) (by decide +kernel)
theorem k18_116 : qx sc D 18 116 [l0, l1, vi x, l3] st u bb σ Q ↔ qx sc D 18 117 [l0, l1, vi x, l3] (vi x :: st) u bb σ Q := r_iload_n (k := 2) (by decide +kernel) rfl
theorem k18_117 : qx sc D 18 117 ls (vi i :: vr a :: st) u bb σ Q ↔ (q_ty a = 0 ∧ 0 ≤ i ∧ i < q_ln a) ∧ qx sc D 18 118 ls (vi (σ a i) :: st) u bb σ Q := r_iald (by decide +kernel)
theorem k18_118 : qx sc D 18 118 ls (vi x :: vr a :: st) u bb σ Q ↔ qx sc D 18 119 ls (vi x :: vr a :: vi x :: vr a :: st) u bb σ Q := r_dup2 (by decide +kernel)
theorem k18_119 : qx sc D 18 119 ls (vi i :: vr a :: st) u bb σ Q ↔ (q_ty a = 0 ∧ 0 ≤ i ∧ i < q_ln a) ∧ qx sc D 18 120 ls (vi (σ a i) :: st) u bb σ Q := r_iald (by decide +kernel)
theorem k18_120 : qx sc D 18 120 ls st u bb σ Q ↔ qx sc D 18 121 ls (vi 1 :: st) u bb σ Q := r_iconst (by decide +kernel)
theorem k18_121 : qx sc D 18 121 ls (vi b' :: vi a' :: st) u bb σ Q ↔ q_R (a' + b') ∧ qx sc D 18 122 ls (vi (a' + b') :: st) u bb σ Q := r_iadd (by decide +kernel)
theorem k18_122 : qx sc D 18 122 ls (vi x :: vi i :: vr a :: st) u bb σ Q ↔ (q_ty a = 0 ∧ 0 ≤ i ∧ i < q_ln a) ∧ qx sc D 18 123 ls st u bb (q_up σ a i x) Q := r_iast (by decide +kernel)
theorem k18_123 : qx sc D 18 123 [vr a, l1, l2, l3] st u bb σ Q ↔ qx sc D 18 124 [vr a, l1, l2, l3] (vr a :: st) u bb σ Q := r_aload_n (k := 0) (by decide +kernel) rfl
theorem k18_124 : qx sc D 18 124 ls (vr 72 :: st) u bb σ Q ↔ qx sc D 18 127 ls (vr 76 :: st) u bb σ Q := r_getR (idx := 21) (c := 5) (k := 7) (by decide +kernel)
theorem k18_127 : qx sc D 18 127 [vr a, l1, l2, l3] st u bb σ Q ↔ qx sc D 18 128 [vr a, l1, l2, l3] (vr a :: st) u bb σ Q := r_aload_n (k := 0) (by decide +kernel) rfl
theorem k18_128 : qx sc D 18 128 ls (vr 72 :: st) u bb σ Q ↔ qx sc D 18 131 ls (vr 73 :: st) u bb σ Q := r_getR (idx := 9) (c := 5) (k := 4) (by decide +kernel)
theorem k18_131 : qx sc D 18 131 [l0, l1, vi x, l3] st u bb σ Q ↔ qx sc D 18 132 [l0, l1, vi x, l3] (vi x :: st) u bb σ Q := r_iload_n (k := 2) (by decide +kernel) rfl
theorem k18_132 : qx sc D 18 132 ls (vi i :: vr a :: st) u bb σ Q ↔ (q_ty a = 0 ∧ 0 ≤ i ∧ i < q_ln a) ∧ qx sc D 18 133 ls (vi (σ a i) :: st) u bb σ Q := r_iald (by decide +kernel)
theorem k18_133 : qx sc D 18 133 ls (vi x :: vr a :: st) u bb σ Q ↔ qx sc D 18 134 ls (vi x :: vr a :: vi x :: vr a :: st) u bb σ Q := r_dup2 (by decide +kernel)
theorem k18_134 : qx sc D 18 134 ls (vi i :: vr a :: st) u bb σ Q ↔ (q_ty a = 0 ∧ 0 ≤ i ∧ i < q_ln a) ∧ qx sc D 18 135 ls (vi (σ a i) :: st) u bb σ Q := r_iald (by decide +kernel)
theorem k18_135 : qx sc D 18 135 [l0, l1, l2, vi x] st u bb σ Q ↔ qx sc D 18 136 [l0, l1, l2, vi x] (vi x :: st) u bb σ Q := r_iload_n (k := 3) (by decide +kernel) rfl
theorem k18_136 : qx sc D 18 136 ls (vi b' :: vi a' :: st) u bb σ Q ↔ q_R (a' + b') ∧ qx sc D 18 137 ls (vi (a' + b') :: st) u bb σ Q := r_iadd (by decide +kernel)
theorem k18_137 : qx sc D 18 137 ls (vi x :: vi i :: vr a :: st) u bb σ Q ↔ (q_ty a = 0 ∧ 0 ≤ i ∧ i < q_ln a) ∧ qx sc D 18 138 ls st u bb (q_up σ a i x) Q := r_iast (by decide +kernel)
theorem k18_138 : qx sc D 18 138 [l0, l1, vi x, l3] st u bb σ Q ↔ q_R (x + 1) ∧ qx sc D 18 141 [l0, l1, vi (x + 1), l3] st u bb σ Q := r_iinc (k := 2) (n := 1) (by decide +kernel) rfl
theorem k18_141 : qx sc D 18 141 ls st u bb σ Q ↔ qx sc D 18 28 ls st u bb σ Q := r_goto (off := (-113)) (by decide +kernel)
theorem k18_144 : qx sc D 18 144 ls [] (0, 0) bb σ Q ↔ Q (.inl none) bb σ := r_retV (by decide +kernel)
-- 19: RowProver$Guards.seekGuard(I)V
theorem k19_0 : qx sc D 19 0 [vr a, l1, l2, l3, l4, l5] st u bb σ Q ↔ qx sc D 19 1 [vr a, l1, l2, l3, l4, l5] (vr a :: st) u bb σ Q := r_aload_n (k := 0) (by decide +kernel) rfl
theorem k19_1 : qx sc D 19 1 ls (vr 72 :: st) u bb σ Q ↔ qx sc D 19 4 ls (vr 9 :: st) u bb σ Q := r_getR (idx := 24) (c := 5) (k := 0) (by decide +kernel)
theorem k19_4 : qx sc D 19 4 ls (vr 9 :: st) u bb σ Q ↔ qx sc D 19 7 ls (vr 16 :: st) u bb σ Q := r_getR (idx := 65) (c := 13) (k := 7) (by decide +kernel)
theorem k19_7 : qx sc D 19 7 [vr a, l1, l2, l3, l4, l5] st u bb σ Q ↔ qx sc D 19 8 [vr a, l1, l2, l3, l4, l5] (vr a :: st) u bb σ Q := r_aload_n (k := 0) (by decide +kernel) rfl
theorem k19_8 : qx sc D 19 8 ls (vr 72 :: st) u bb σ Q ↔ qx sc D 19 11 ls (vr 27 :: st) u bb σ Q := r_getR (idx := 28) (c := 5) (k := 1) (by decide +kernel)
theorem k19_11 : qx sc D 19 11 ls (vr 27 :: st) u bb σ Q ↔ qx sc D 19 14 ls (vr 28 :: st) u bb σ Q := r_getR (idx := 70) (c := 6) (k := 0) (by decide +kernel)
theorem k19_14 : qx sc D 19 14 [l0, vi x, l2, l3, l4, l5] st u bb σ Q ↔ qx sc D 19 15 [l0, vi x, l2, l3, l4, l5] (vi x :: st) u bb σ Q := r_iload_n (k := 1) (by decide +kernel) rfl
theorem k19_15 : qx sc D 19 15 ls (vi i :: vr a :: st) u bb σ Q ↔ (q_ty a = 0 ∧ 0 ≤ i ∧ i < q_ln a) ∧ qx sc D 19 16 ls (vi (σ a i) :: st) u bb σ Q := r_iald (by decide +kernel)
theorem k19_16 : qx sc D 19 16 ls (vi i :: vr a :: st) u bb σ Q ↔ (q_ty a = 0 ∧ 0 ≤ i ∧ i < q_ln a) ∧ qx sc D 19 17 ls (vi (σ a i) :: st) u bb σ Q := r_iald (by decide +kernel)
theorem k19_17 : qx sc D 19 17 [l0, l1, l2, l3, l4, l5] (vi x :: st) u bb σ Q ↔ qx sc D 19 18 [l0, l1, vi x, l3, l4, l5] st u bb σ Q := r_istore_n (k := 2) (by decide +kernel) (Nat.le_of_ble_eq_true rfl)
theorem k19_18 : qx sc D 19 18 [vr a, l1, l2, l3, l4, l5] st u bb σ Q ↔ qx sc D 19 19 [vr a, l1, l2, l3, l4, l5] (vr a :: st) u bb σ Q := r_aload_n (k := 0) (by decide +kernel) rfl
theorem k19_19 : qx sc D 19 19 ls (vr 72 :: st) u bb σ Q ↔ 0 ≤ σ 72 2 ∧ qx sc D 19 22 ls (vr (σ 72 2).toNat :: st) u bb σ Q := r_getM (idx := 36) (c := 5) (k := 2) (by decide +kernel)
theorem k19_22 (hc : q_C c) : qx sc D 19 22 ls (vr c :: st) u bb σ Q ↔ qx sc D 19 25 ls (vr (c + 9) :: st) u bb σ Q := r_getRc (idx := 75) (k := 11) (by decide +kernel) hc
theorem k19_25 : qx sc D 19 25 [vr a, l1, l2, l3, l4, l5] st u bb σ Q ↔ qx sc D 19 26 [vr a, l1, l2, l3, l4, l5] (vr a :: st) u bb σ Q := r_aload_n (k := 0) (by decide +kernel) rfl
theorem k19_26 : qx sc D 19 26 ls (vr 72 :: st) u bb σ Q ↔ 0 ≤ σ 72 2 ∧ qx sc D 19 29 ls (vr (σ 72 2).toNat :: st) u bb σ Q := r_getM (idx := 36) (c := 5) (k := 2) (by decide +kernel)
theorem k19_29 (hc : q_C c) : qx sc D 19 29 ls (vr c :: st) u bb σ Q ↔ qx sc D 19 32 ls (vr (c + 12) :: st) u bb σ Q := r_getRc (idx := 78) (k := 14) (by decide +kernel) hc
theorem k19_32 : qx sc D 19 32 [l0, vi x, l2, l3, l4, l5] st u bb σ Q ↔ qx sc D 19 33 [l0, vi x, l2, l3, l4, l5] (vi x :: st) u bb σ Q := r_iload_n (k := 1) (by decide +kernel) rfl
theorem k19_33 : qx sc D 19 33 ls (vi i :: vr a :: st) u bb σ Q ↔ (q_ty a = 0 ∧ 0 ≤ i ∧ i < q_ln a) ∧ qx sc D 19 34 ls (vi (σ a i) :: st) u bb σ Q := r_iald (by decide +kernel)
theorem k19_34 : qx sc D 19 34 ls (vi i :: vr a :: st) u bb σ Q ↔ (q_ty a = 0 ∧ 0 ≤ i ∧ i < q_ln a) ∧ qx sc D 19 35 ls (vi (σ a i) :: st) u bb σ Q := r_iald (by decide +kernel)
theorem k19_35 : qx sc D 19 35 [l0, l1, l2, l3, l4, l5] (vi x :: st) u bb σ Q ↔ qx sc D 19 36 [l0, l1, l2, vi x, l4, l5] st u bb σ Q := r_istore_n (k := 3) (by decide +kernel) (Nat.le_of_ble_eq_true rfl)
theorem k19_36 : qx sc D 19 36 ls st u bb σ Q ↔ qx sc D 19 37 ls (vi 0 :: st) u bb σ Q := r_iconst (by decide +kernel)
theorem k19_37 : qx sc D 19 37 [l0, l1, l2, l3, l4, l5] (vi x :: st) u bb σ Q ↔ qx sc D 19 39 [l0, l1, l2, l3, vi x, l5] st u bb σ Q := r_istore (k := 4) (by decide +kernel) (Nat.le_of_ble_eq_true rfl)
theorem k19_39 : qx sc D 19 39 [l0, l1, l2, vi x, l4, l5] st u bb σ Q ↔ qx sc D 19 40 [l0, l1, l2, vi x, l4, l5] (vi x :: st) u bb σ Q := r_iload_n (k := 3) (by decide +kernel) rfl
theorem k19_40 : qx sc D 19 40 ls st u bb σ Q ↔ qx sc D 19 41 ls (vi (-1) :: st) u bb σ Q := r_iconst (by decide +kernel)
theorem k19_41 : qx sc D 19 41 ls (vi b' :: vi a' :: st) u bb σ Q ↔ (a' = b' → qx sc D 19 133 ls st u bb σ Q) ∧ (¬ (a' = b') → qx sc D 19 44 ls st u bb σ Q) := r_ic_eq (off := 92) (t := 133) (by decide +kernel)
theorem k19_44 : qx sc D 19 44 [l0, l1, l2, l3, vi x, l5] st u bb σ Q ↔ qx sc D 19 46 [l0, l1, l2, l3, vi x, l5] (vi x :: st) u bb σ Q := r_iload (k := 4) (by decide +kernel) rfl
theorem k19_46 : qx sc D 19 46 ls st u bb σ Q ↔ qx sc D 19 47 ls (vi 5 :: st) u bb σ Q := r_iconst (by decide +kernel)
theorem k19_47 : qx sc D 19 47 ls (vi b' :: vi a' :: st) u bb σ Q ↔ (a' < b' → qx sc D 19 50 ls st u bb σ Q) ∧ (¬ (a' < b') → qx sc D 19 133 ls st u bb σ Q) := r_ic_ge (off := 86) (t := 133) (by decide +kernel)
theorem k19_50 : qx sc D 19 50 [vr a, l1, l2, l3, l4, l5] st u bb σ Q ↔ qx sc D 19 51 [vr a, l1, l2, l3, l4, l5] (vr a :: st) u bb σ Q := r_aload_n (k := 0) (by decide +kernel) rfl
theorem k19_51 : qx sc D 19 51 ls (vr 72 :: st) u bb σ Q ↔ 0 ≤ σ 72 2 ∧ qx sc D 19 54 ls (vr (σ 72 2).toNat :: st) u bb σ Q := r_getM (idx := 36) (c := 5) (k := 2) (by decide +kernel)
theorem k19_54 (hc : q_C c) : qx sc D 19 54 ls (vr c :: st) u bb σ Q ↔ qx sc D 19 57 ls (vr (c + 15) :: st) u bb σ Q := r_getRc (idx := 81) (k := 17) (by decide +kernel) hc
theorem k19_57 : qx sc D 19 57 [l0, l1, l2, vi x, l4, l5] st u bb σ Q ↔ qx sc D 19 58 [l0, l1, l2, vi x, l4, l5] (vi x :: st) u bb σ Q := r_iload_n (k := 3) (by decide +kernel) rfl
theorem k19_58 : qx sc D 19 58 ls (vi i :: vr a :: st) u bb σ Q ↔ (q_ty a = 0 ∧ 0 ≤ i ∧ i < q_ln a) ∧ qx sc D 19 59 ls (vi (σ a i) :: st) u bb σ Q := r_iald (by decide +kernel)
theorem k19_59 : qx sc D 19 59 [l0, l1, l2, l3, l4, l5] (vi x :: st) u bb σ Q ↔ qx sc D 19 61 [l0, l1, l2, l3, l4, vi x] st u bb σ Q := r_istore (k := 5) (by decide +kernel) (Nat.le_of_ble_eq_true rfl)
theorem k19_61 : qx sc D 19 61 [l0, l1, vi x, l3, l4, l5] st u bb σ Q ↔ qx sc D 19 62 [l0, l1, vi x, l3, l4, l5] (vi x :: st) u bb σ Q := r_iload_n (k := 2) (by decide +kernel) rfl
theorem k19_62 : qx sc D 19 62 [vr a, l1, l2, l3, l4, l5] st u bb σ Q ↔ qx sc D 19 63 [vr a, l1, l2, l3, l4, l5] (vr a :: st) u bb σ Q := r_aload_n (k := 0) (by decide +kernel) rfl
theorem k19_63 : qx sc D 19 63 ls (vr 72 :: st) u bb σ Q ↔ qx sc D 19 66 ls (vr 27 :: st) u bb σ Q := r_getR (idx := 28) (c := 5) (k := 1) (by decide +kernel)
theorem k19_66 : qx sc D 19 66 ls (vr 27 :: st) u bb σ Q ↔ qx sc D 19 69 ls (vr 31 :: st) u bb σ Q := r_getR (idx := 84) (c := 6) (k := 3) (by decide +kernel)
theorem k19_69 : qx sc D 19 69 [l0, l1, l2, l3, l4, vi x] st u bb σ Q ↔ qx sc D 19 71 [l0, l1, l2, l3, l4, vi x] (vi x :: st) u bb σ Q := r_iload (k := 5) (by decide +kernel) rfl
theorem k19_71 : qx sc D 19 71 ls (vi i :: vr a :: st) u bb σ Q ↔ (q_ty a = 0 ∧ 0 ≤ i ∧ i < q_ln a) ∧ qx sc D 19 72 ls (vi (σ a i) :: st) u bb σ Q := r_iald (by decide +kernel)
theorem k19_72 : qx sc D 19 72 ls (vi b' :: vi a' :: st) u bb σ Q ↔ (a' < b' → qx sc D 19 75 ls st u bb σ Q) ∧ (¬ (a' < b') → qx sc D 19 92 ls st u bb σ Q) := r_ic_ge (off := 20) (t := 92) (by decide +kernel)
theorem k19_75 : qx sc D 19 75 [vr a, l1, l2, l3, l4, l5] st u bb σ Q ↔ qx sc D 19 76 [vr a, l1, l2, l3, l4, l5] (vr a :: st) u bb σ Q := r_aload_n (k := 0) (by decide +kernel) rfl
theorem k19_76 : qx sc D 19 76 ls (vr 72 :: st) u bb σ Q ↔ qx sc D 19 79 ls (vr 73 :: st) u bb σ Q := r_getR (idx := 9) (c := 5) (k := 4) (by decide +kernel)
theorem k19_79 : qx sc D 19 79 [l0, vi x, l2, l3, l4, l5] st u bb σ Q ↔ qx sc D 19 80 [l0, vi x, l2, l3, l4, l5] (vi x :: st) u bb σ Q := r_iload_n (k := 1) (by decide +kernel) rfl
theorem k19_80 : qx sc D 19 80 [l0, l1, l2, vi x, l4, l5] st u bb σ Q ↔ qx sc D 19 81 [l0, l1, l2, vi x, l4, l5] (vi x :: st) u bb σ Q := r_iload_n (k := 3) (by decide +kernel) rfl
theorem k19_81 : qx sc D 19 81 ls (vi x :: vi i :: vr a :: st) u bb σ Q ↔ (q_ty a = 0 ∧ 0 ≤ i ∧ i < q_ln a) ∧ qx sc D 19 82 ls st u bb (q_up σ a i x) Q := r_iast (by decide +kernel)
theorem k19_82 : qx sc D 19 82 [vr a, l1, l2, l3, l4, l5] st u bb σ Q ↔ qx sc D 19 83 [vr a, l1, l2, l3, l4, l5] (vr a :: st) u bb σ Q := r_aload_n (k := 0) (by decide +kernel) rfl
theorem k19_83 : qx sc D 19 83 ls (vr 72 :: st) u bb σ Q ↔ qx sc D 19 86 ls (vr 74 :: st) u bb σ Q := r_getR (idx := 15) (c := 5) (k := 5) (by decide +kernel)
theorem k19_86 : qx sc D 19 86 [l0, vi x, l2, l3, l4, l5] st u bb σ Q ↔ qx sc D 19 87 [l0, vi x, l2, l3, l4, l5] (vi x :: st) u bb σ Q := r_iload_n (k := 1) (by decide +kernel) rfl
theorem k19_87 : qx sc D 19 87 ls st u bb σ Q ↔ qx sc D 19 88 ls (vi 0 :: st) u bb σ Q := r_iconst (by decide +kernel)
theorem k19_88 : qx sc D 19 88 ls (vi x :: vi i :: vr a :: st) u bb σ Q ↔ (q_ty a = 0 ∧ 0 ≤ i ∧ i < q_ln a) ∧ qx sc D 19 89 ls st u bb (q_up σ a i x) Q := r_iast (by decide +kernel)
theorem k19_89 : qx sc D 19 89 ls st u bb σ Q ↔ qx sc D 19 116 ls st u bb σ Q := r_goto (off := 27) (by decide +kernel)
theorem k19_92 : qx sc D 19 92 [vr a, l1, l2, l3, l4, l5] st u bb σ Q ↔ qx sc D 19 93 [vr a, l1, l2, l3, l4, l5] (vr a :: st) u bb σ Q := r_aload_n (k := 0) (by decide +kernel) rfl
theorem k19_93 : qx sc D 19 93 [l0, l1, l2, l3, l4, vi x] st u bb σ Q ↔ qx sc D 19 95 [l0, l1, l2, l3, l4, vi x] (vi x :: st) u bb σ Q := r_iload (k := 5) (by decide +kernel) rfl
theorem k19_95 : qx sc D 19 95 [l0, l1, vi x, l3, l4, l5] st u bb σ Q ↔ qx sc D 19 96 [l0, l1, vi x, l3, l4, l5] (vi x :: st) u bb σ Q := r_iload_n (k := 2) (by decide +kernel) rfl
theorem k19_96 : qx sc (D + 1) 19 96 ls [vi x1, vi x0, vr 72] (0, 0) bb σ Q ↔ qx sc D 17 0 [vr 72, vi x0, vi x1, vn, vn] [] (0, 0) bb σ (q_kn sc (D + 1) 19 99 ls [] (0, 0) Q) := r_callv (idx := 87) (n := 2) (m := 5) (by decide +kernel) rfl (Nat.le_of_ble_eq_true rfl) ⟨Nat.le_of_ble_eq_true rfl, Nat.le_of_ble_eq_true rfl, rfl⟩ rfl
theorem k19_99 : qx sc D 19 99 ls (vi x :: st) u bb σ Q ↔ (x = 0 → qx sc D 19 116 ls st u bb σ Q) ∧ (¬ (x = 0) → qx sc D 19 102 ls st u bb σ Q) := r_if_eq (off := 17) (t := 116) (by decide +kernel)
theorem k19_102 : qx sc D 19 102 [vr a, l1, l2, l3, l4, l5] st u bb σ Q ↔ qx sc D 19 103 [vr a, l1, l2, l3, l4, l5] (vr a :: st) u bb σ Q := r_aload_n (k := 0) (by decide +kernel) rfl
theorem k19_103 : qx sc D 19 103 ls (vr 72 :: st) u bb σ Q ↔ qx sc D 19 106 ls (vr 73 :: st) u bb σ Q := r_getR (idx := 9) (c := 5) (k := 4) (by decide +kernel)
theorem k19_106 : qx sc D 19 106 [l0, vi x, l2, l3, l4, l5] st u bb σ Q ↔ qx sc D 19 107 [l0, vi x, l2, l3, l4, l5] (vi x :: st) u bb σ Q := r_iload_n (k := 1) (by decide +kernel) rfl
theorem k19_107 : qx sc D 19 107 [l0, l1, l2, vi x, l4, l5] st u bb σ Q ↔ qx sc D 19 108 [l0, l1, l2, vi x, l4, l5] (vi x :: st) u bb σ Q := r_iload_n (k := 3) (by decide +kernel) rfl
theorem k19_108 : qx sc D 19 108 ls (vi x :: vi i :: vr a :: st) u bb σ Q ↔ (q_ty a = 0 ∧ 0 ≤ i ∧ i < q_ln a) ∧ qx sc D 19 109 ls st u bb (q_up σ a i x) Q := r_iast (by decide +kernel)
theorem k19_109 : qx sc D 19 109 [vr a, l1, l2, l3, l4, l5] st u bb σ Q ↔ qx sc D 19 110 [vr a, l1, l2, l3, l4, l5] (vr a :: st) u bb σ Q := r_aload_n (k := 0) (by decide +kernel) rfl
theorem k19_110 : qx sc D 19 110 ls (vr 72 :: st) u bb σ Q ↔ qx sc D 19 113 ls (vr 74 :: st) u bb σ Q := r_getR (idx := 15) (c := 5) (k := 5) (by decide +kernel)
theorem k19_113 : qx sc D 19 113 [l0, vi x, l2, l3, l4, l5] st u bb σ Q ↔ qx sc D 19 114 [l0, vi x, l2, l3, l4, l5] (vi x :: st) u bb σ Q := r_iload_n (k := 1) (by decide +kernel) rfl
theorem k19_114 : qx sc D 19 114 ls st u bb σ Q ↔ qx sc D 19 115 ls (vi 1 :: st) u bb σ Q := r_iconst (by decide +kernel)
theorem k19_115 : qx sc D 19 115 ls (vi x :: vi i :: vr a :: st) u bb σ Q ↔ (q_ty a = 0 ∧ 0 ≤ i ∧ i < q_ln a) ∧ qx sc D 19 116 ls st u bb (q_up σ a i x) Q := r_iast (by decide +kernel)
theorem k19_116 : qx sc D 19 116 [vr a, l1, l2, l3, l4, l5] st u bb σ Q ↔ qx sc D 19 117 [vr a, l1, l2, l3, l4, l5] (vr a :: st) u bb σ Q := r_aload_n (k := 0) (by decide +kernel) rfl
theorem k19_117 : qx sc D 19 117 ls (vr 72 :: st) u bb σ Q ↔ 0 ≤ σ 72 2 ∧ qx sc D 19 120 ls (vr (σ 72 2).toNat :: st) u bb σ Q := r_getM (idx := 36) (c := 5) (k := 2) (by decide +kernel)
theorem k19_120 (hc : q_C c) : qx sc D 19 120 ls (vr c :: st) u bb σ Q ↔ qx sc D 19 123 ls (vr (c + 9) :: st) u bb σ Q := r_getRc (idx := 75) (k := 11) (by decide +kernel) hc
theorem k19_123 : qx sc D 19 123 [l0, l1, l2, l3, l4, vi x] st u bb σ Q ↔ qx sc D 19 125 [l0, l1, l2, l3, l4, vi x] (vi x :: st) u bb σ Q := r_iload (k := 5) (by decide +kernel) rfl
theorem k19_125 : qx sc D 19 125 ls (vi i :: vr a :: st) u bb σ Q ↔ (q_ty a = 0 ∧ 0 ≤ i ∧ i < q_ln a) ∧ qx sc D 19 126 ls (vi (σ a i) :: st) u bb σ Q := r_iald (by decide +kernel)
theorem k19_126 : qx sc D 19 126 [l0, l1, l2, l3, l4, l5] (vi x :: st) u bb σ Q ↔ qx sc D 19 127 [l0, l1, l2, vi x, l4, l5] st u bb σ Q := r_istore_n (k := 3) (by decide +kernel) (Nat.le_of_ble_eq_true rfl)
theorem k19_127 : qx sc D 19 127 [l0, l1, l2, l3, vi x, l5] st u bb σ Q ↔ q_R (x + 1) ∧ qx sc D 19 130 [l0, l1, l2, l3, vi (x + 1), l5] st u bb σ Q := r_iinc (k := 4) (n := 1) (by decide +kernel) rfl
theorem k19_130 : qx sc D 19 130 ls st u bb σ Q ↔ qx sc D 19 39 ls st u bb σ Q := r_goto (off := (-91)) (by decide +kernel)
theorem k19_133 : qx sc D 19 133 ls [] (0, 0) bb σ Q ↔ Q (.inl none) bb σ := r_retV (by decide +kernel)
end K_303_kD
