section K_301_kB
variable {sc : Nat × (Nat → Int32)} {D : Nat} {ls st : List V2} {u : PU} {bb : Bool} {σ : St} {Q : QP} {x i a' b' x0 x1 x2 x3 x4 x5 x20 x21 x22 x23 x24 : Int} {a b c a0 a1 a2 a3 a4 a20 a21 a22 a23 : Nat} {l0 l1 l2 l3 l4 l5 l6 l7 l8 l9 l10 l11 l12 : V2}
-- 79: RowProver$Tokens.isDigit(I)Z
theorem k79_0 : qx sc D 79 0 [vr a, l1] st u bb σ Q ↔ qx sc D 79 1 [vr a, l1] (vr a :: st) u bb σ Q := r_aload_n (k := 0) (by decide +kernel) rfl
theorem k79_1 : qx sc D 79 1 ls (vr 5 :: st) u bb σ Q ↔ qx sc D 79 4 ls (vr 1 :: st) u bb σ Q := r_getR (idx := 21) (c := 12) (k := 0) (by decide +kernel)
theorem k79_4 : qx sc D 79 4 [l0, vi x] st u bb σ Q ↔ qx sc D 79 5 [l0, vi x] (vi x :: st) u bb σ Q := r_iload_n (k := 1) (by decide +kernel) rfl
theorem k79_5 : qx sc D 79 5 ls (vi i :: vr a :: st) u bb σ Q ↔ (q_ty a = 0 ∧ 0 ≤ i ∧ i < q_ln a) ∧ qx sc D 79 6 ls (vi (σ a i) :: st) u bb σ Q := r_iald (by decide +kernel)
theorem k79_6 : qx sc D 79 6 ls st u bb σ Q ↔ qx sc D 79 8 ls (vi 48 :: st) u bb σ Q := r_bipush (by decide +kernel)
theorem k79_8 : qx sc D 79 8 ls (vi b' :: vi a' :: st) u bb σ Q ↔ (a' < b' → qx sc D 79 26 ls st u bb σ Q) ∧ (¬ (a' < b') → qx sc D 79 11 ls st u bb σ Q) := r_ic_lt (off := 18) (t := 26) (by decide +kernel)
theorem k79_11 : qx sc D 79 11 [vr a, l1] st u bb σ Q ↔ qx sc D 79 12 [vr a, l1] (vr a :: st) u bb σ Q := r_aload_n (k := 0) (by decide +kernel) rfl
theorem k79_12 : qx sc D 79 12 ls (vr 5 :: st) u bb σ Q ↔ qx sc D 79 15 ls (vr 1 :: st) u bb σ Q := r_getR (idx := 21) (c := 12) (k := 0) (by decide +kernel)
theorem k79_15 : qx sc D 79 15 [l0, vi x] st u bb σ Q ↔ qx sc D 79 16 [l0, vi x] (vi x :: st) u bb σ Q := r_iload_n (k := 1) (by decide +kernel) rfl
theorem k79_16 : qx sc D 79 16 ls (vi i :: vr a :: st) u bb σ Q ↔ (q_ty a = 0 ∧ 0 ≤ i ∧ i < q_ln a) ∧ qx sc D 79 17 ls (vi (σ a i) :: st) u bb σ Q := r_iald (by decide +kernel)
theorem k79_17 : qx sc D 79 17 ls st u bb σ Q ↔ qx sc D 79 19 ls (vi 57 :: st) u bb σ Q := r_bipush (by decide +kernel)
theorem k79_19 : qx sc D 79 19 ls (vi b' :: vi a' :: st) u bb σ Q ↔ (b' < a' → qx sc D 79 26 ls st u bb σ Q) ∧ (¬ (b' < a') → qx sc D 79 22 ls st u bb σ Q) := r_ic_gt (off := 7) (t := 26) (by decide +kernel)
theorem k79_22 : qx sc D 79 22 ls st u bb σ Q ↔ qx sc D 79 23 ls (vi 1 :: st) u bb σ Q := r_iconst (by decide +kernel)
theorem k79_23 : qx sc D 79 23 ls st u bb σ Q ↔ qx sc D 79 27 ls st u bb σ Q := r_goto (off := 4) (by decide +kernel)
theorem k79_26 : qx sc D 79 26 ls st u bb σ Q ↔ qx sc D 79 27 ls (vi 0 :: st) u bb σ Q := r_iconst (by decide +kernel)
theorem k79_27 : qx sc D 79 27 ls [vi x] (0, 0) bb σ Q ↔ (x = 0 ∨ x = 1) ∧ Q (.inl (some (vi x))) bb σ := r_retB (by decide +kernel)
-- 80: RowProver$Tokens.isLetter(I)Z
theorem k80_0 : qx sc D 80 0 [vr a, l1] st u bb σ Q ↔ qx sc D 80 1 [vr a, l1] (vr a :: st) u bb σ Q := r_aload_n (k := 0) (by decide +kernel) rfl
theorem k80_1 : qx sc D 80 1 ls (vr 5 :: st) u bb σ Q ↔ qx sc D 80 4 ls (vr 1 :: st) u bb σ Q := r_getR (idx := 21) (c := 12) (k := 0) (by decide +kernel)
theorem k80_4 : qx sc D 80 4 [l0, vi x] st u bb σ Q ↔ qx sc D 80 5 [l0, vi x] (vi x :: st) u bb σ Q := r_iload_n (k := 1) (by decide +kernel) rfl
theorem k80_5 : qx sc D 80 5 ls (vi i :: vr a :: st) u bb σ Q ↔ (q_ty a = 0 ∧ 0 ≤ i ∧ i < q_ln a) ∧ qx sc D 80 6 ls (vi (σ a i) :: st) u bb σ Q := r_iald (by decide +kernel)
theorem k80_6 : qx sc D 80 6 ls st u bb σ Q ↔ qx sc D 80 8 ls (vi 97 :: st) u bb σ Q := r_bipush (by decide +kernel)
theorem k80_8 : qx sc D 80 8 ls (vi b' :: vi a' :: st) u bb σ Q ↔ (a' < b' → qx sc D 80 26 ls st u bb σ Q) ∧ (¬ (a' < b') → qx sc D 80 11 ls st u bb σ Q) := r_ic_lt (off := 18) (t := 26) (by decide +kernel)
theorem k80_11 : qx sc D 80 11 [vr a, l1] st u bb σ Q ↔ qx sc D 80 12 [vr a, l1] (vr a :: st) u bb σ Q := r_aload_n (k := 0) (by decide +kernel) rfl
theorem k80_12 : qx sc D 80 12 ls (vr 5 :: st) u bb σ Q ↔ qx sc D 80 15 ls (vr 1 :: st) u bb σ Q := r_getR (idx := 21) (c := 12) (k := 0) (by decide +kernel)
theorem k80_15 : qx sc D 80 15 [l0, vi x] st u bb σ Q ↔ qx sc D 80 16 [l0, vi x] (vi x :: st) u bb σ Q := r_iload_n (k := 1) (by decide +kernel) rfl
theorem k80_16 : qx sc D 80 16 ls (vi i :: vr a :: st) u bb σ Q ↔ (q_ty a = 0 ∧ 0 ≤ i ∧ i < q_ln a) ∧ qx sc D 80 17 ls (vi (σ a i) :: st) u bb σ Q := r_iald (by decide +kernel)
theorem k80_17 : qx sc D 80 17 ls st u bb σ Q ↔ qx sc D 80 19 ls (vi 122 :: st) u bb σ Q := r_bipush (by decide +kernel)
theorem k80_19 : qx sc D 80 19 ls (vi b' :: vi a' :: st) u bb σ Q ↔ (b' < a' → qx sc D 80 26 ls st u bb σ Q) ∧ (¬ (b' < a') → qx sc D 80 22 ls st u bb σ Q) := r_ic_gt (off := 7) (t := 26) (by decide +kernel)
theorem k80_22 : qx sc D 80 22 ls st u bb σ Q ↔ qx sc D 80 23 ls (vi 1 :: st) u bb σ Q := r_iconst (by decide +kernel)
theorem k80_23 : qx sc D 80 23 ls st u bb σ Q ↔ qx sc D 80 27 ls st u bb σ Q := r_goto (off := 4) (by decide +kernel)
theorem k80_26 : qx sc D 80 26 ls st u bb σ Q ↔ qx sc D 80 27 ls (vi 0 :: st) u bb σ Q := r_iconst (by decide +kernel)
theorem k80_27 : qx sc D 80 27 ls [vi x] (0, 0) bb σ Q ↔ (x = 0 ∨ x = 1) ∧ Q (.inl (some (vi x))) bb σ := r_retB (by decide +kernel)
-- 81: RowProver$Tokens.isWord(Ljava/lang/String;II)Z
theorem k81_0 : qx sc D 81 0 [l0, l1, l2, vi x, l4] st u bb σ Q ↔ qx sc D 81 1 [l0, l1, l2, vi x, l4] (vi x :: st) u bb σ Q := r_iload_n (k := 3) (by decide +kernel) rfl
theorem k81_1 : qx sc D 81 1 [l0, vr a, l2, l3, l4] st u bb σ Q ↔ qx sc D 81 2 [l0, vr a, l2, l3, l4] (vr a :: st) u bb σ Q := r_aload_n (k := 1) (by decide +kernel) rfl
theorem k81_2 (hj : b < 12) : qx sc D 81 2 ls [vr (q_tr b), vi x20] (0, 0) bb σ Q ↔ qx sc D 81 5 ls [vi ((pm_tx.getD b []).length : Nat), vi x20] (0, 0) bb σ Q := r_slen (idx := 77) (y' := 0) (by decide +kernel) hj (Nat.le_of_ble_eq_true rfl) (Nat.le_of_ble_eq_true rfl)
theorem k81_5 : qx sc D 81 5 ls (vi b' :: vi a' :: st) u bb σ Q ↔ (a' = b' → qx sc D 81 10 ls st u bb σ Q) ∧ (¬ (a' = b') → qx sc D 81 8 ls st u bb σ Q) := r_ic_eq (off := 5) (t := 10) (by decide +kernel)
theorem k81_8 : qx sc D 81 8 ls st u bb σ Q ↔ qx sc D 81 9 ls (vi 0 :: st) u bb σ Q := r_iconst (by decide +kernel)
theorem k81_9 : qx sc D 81 9 ls [vi x] (0, 0) bb σ Q ↔ (x = 0 ∨ x = 1) ∧ Q (.inl (some (vi x))) bb σ := r_retB (by decide +kernel)
theorem k81_10 : qx sc D 81 10 ls st u bb σ Q ↔ qx sc D 81 11 ls (vi 0 :: st) u bb σ Q := r_iconst (by decide +kernel)
theorem k81_11 : qx sc D 81 11 [l0, l1, l2, l3, l4] (vi x :: st) u bb σ Q ↔ qx sc D 81 13 [l0, l1, l2, l3, vi x] st u bb σ Q := r_istore (k := 4) (by decide +kernel) (Nat.le_of_ble_eq_true rfl)
theorem k81_13 : qx sc D 81 13 [l0, l1, l2, l3, vi x] st u bb σ Q ↔ qx sc D 81 15 [l0, l1, l2, l3, vi x] (vi x :: st) u bb σ Q := r_iload (k := 4) (by decide +kernel) rfl
theorem k81_15 : qx sc D 81 15 [l0, l1, l2, vi x, l4] st u bb σ Q ↔ qx sc D 81 16 [l0, l1, l2, vi x, l4] (vi x :: st) u bb σ Q := r_iload_n (k := 3) (by decide +kernel) rfl
theorem k81_16 : qx sc D 81 16 ls (vi b' :: vi a' :: st) u bb σ Q ↔ (a' < b' → qx sc D 81 19 ls st u bb σ Q) ∧ (¬ (a' < b') → qx sc D 81 45 ls st u bb σ Q) := r_ic_ge (off := 29) (t := 45) (by decide +kernel)
theorem k81_19 : qx sc D 81 19 [vr a, l1, l2, l3, l4] st u bb σ Q ↔ qx sc D 81 20 [vr a, l1, l2, l3, l4] (vr a :: st) u bb σ Q := r_aload_n (k := 0) (by decide +kernel) rfl
theorem k81_20 : qx sc D 81 20 ls (vr 5 :: st) u bb σ Q ↔ qx sc D 81 23 ls (vr 1 :: st) u bb σ Q := r_getR (idx := 21) (c := 12) (k := 0) (by decide +kernel)
theorem k81_23 : qx sc D 81 23 [l0, l1, vi x, l3, l4] st u bb σ Q ↔ qx sc D 81 24 [l0, l1, vi x, l3, l4] (vi x :: st) u bb σ Q := r_iload_n (k := 2) (by decide +kernel) rfl
theorem k81_24 : qx sc D 81 24 [l0, l1, l2, l3, vi x] st u bb σ Q ↔ qx sc D 81 26 [l0, l1, l2, l3, vi x] (vi x :: st) u bb σ Q := r_iload (k := 4) (by decide +kernel) rfl
theorem k81_26 : qx sc D 81 26 ls (vi b' :: vi a' :: st) u bb σ Q ↔ q_R (a' + b') ∧ qx sc D 81 27 ls (vi (a' + b') :: st) u bb σ Q := r_iadd (by decide +kernel)
theorem k81_27 : qx sc D 81 27 ls (vi i :: vr a :: st) u bb σ Q ↔ (q_ty a = 0 ∧ 0 ≤ i ∧ i < q_ln a) ∧ qx sc D 81 28 ls (vi (σ a i) :: st) u bb σ Q := r_iald (by decide +kernel)
theorem k81_28 : qx sc D 81 28 [l0, vr a, l2, l3, l4] st u bb σ Q ↔ qx sc D 81 29 [l0, vr a, l2, l3, l4] (vr a :: st) u bb σ Q := r_aload_n (k := 1) (by decide +kernel) rfl
theorem k81_29 : qx sc D 81 29 [l0, l1, l2, l3, vi x] st u bb σ Q ↔ qx sc D 81 31 [l0, l1, l2, l3, vi x] (vi x :: st) u bb σ Q := r_iload (k := 4) (by decide +kernel) rfl
theorem k81_31 (hj : b < 12) : qx sc D 81 31 ls [vi i, vr (q_tr b), vi x20] (0, 0) bb σ Q ↔ (0 ≤ i ∧ i < ((pm_tx.getD b []).length : Nat)) ∧ qx sc D 81 34 ls [vi ((pm_tx.getD b []).getD i.toNat 0 : Nat), vi x20] (0, 0) bb σ Q := r_char (idx := 83) (y' := 0) (by decide +kernel) hj (Nat.le_of_ble_eq_true rfl) (Nat.le_of_ble_eq_true rfl)
theorem k81_34 : qx sc D 81 34 ls (vi b' :: vi a' :: st) u bb σ Q ↔ (a' = b' → qx sc D 81 39 ls st u bb σ Q) ∧ (¬ (a' = b') → qx sc D 81 37 ls st u bb σ Q) := r_ic_eq (off := 5) (t := 39) (by decide +kernel)
theorem k81_37 : qx sc D 81 37 ls st u bb σ Q ↔ qx sc D 81 38 ls (vi 0 :: st) u bb σ Q := r_iconst (by decide +kernel)
theorem k81_38 : qx sc D 81 38 ls [vi x] (0, 0) bb σ Q ↔ (x = 0 ∨ x = 1) ∧ Q (.inl (some (vi x))) bb σ := r_retB (by decide +kernel)
theorem k81_39 : qx sc D 81 39 [l0, l1, l2, l3, vi x] st u bb σ Q ↔ q_R (x + 1) ∧ qx sc D 81 42 [l0, l1, l2, l3, vi (x + 1)] st u bb σ Q := r_iinc (k := 4) (n := 1) (by decide +kernel) rfl
theorem k81_42 : qx sc D 81 42 ls st u bb σ Q ↔ qx sc D 81 13 ls st u bb σ Q := r_goto (off := (-29)) (by decide +kernel)
theorem k81_45 : qx sc D 81 45 ls st u bb σ Q ↔ qx sc D 81 46 ls (vi 1 :: st) u bb σ Q := r_iconst (by decide +kernel)
theorem k81_46 : qx sc D 81 46 ls [vi x] (0, 0) bb σ Q ↔ (x = 0 ∨ x = 1) ∧ Q (.inl (some (vi x))) bb σ := r_retB (by decide +kernel)
-- 82: RowProver$Tokens.number(I)I
theorem k82_0 : qx sc D 82 0 [l0, vi x, l2, l3] st u bb σ Q ↔ qx sc D 82 1 [l0, vi x, l2, l3] (vi x :: st) u bb σ Q := r_iload_n (k := 1) (by decide +kernel) rfl
theorem k82_1 : qx sc D 82 1 [l0, l1, l2, l3] (vi x :: st) u bb σ Q ↔ qx sc D 82 2 [l0, l1, vi x, l3] st u bb σ Q := r_istore_n (k := 2) (by decide +kernel) (Nat.le_of_ble_eq_true rfl)
theorem k82_2 : qx sc D 82 2 ls st u bb σ Q ↔ qx sc D 82 3 ls (vi 0 :: st) u bb σ Q := r_iconst (by decide +kernel)
theorem k82_3 : qx sc D 82 3 [l0, l1, l2, l3] (vi x :: st) u bb σ Q ↔ qx sc D 82 4 [l0, l1, l2, vi x] st u bb σ Q := r_istore_n (k := 3) (by decide +kernel) (Nat.le_of_ble_eq_true rfl)
theorem k82_4 : qx sc D 82 4 [l0, l1, vi x, l3] st u bb σ Q ↔ qx sc D 82 5 [l0, l1, vi x, l3] (vi x :: st) u bb σ Q := r_iload_n (k := 2) (by decide +kernel) rfl
theorem k82_5 : qx sc D 82 5 [vr a, l1, l2, l3] st u bb σ Q ↔ qx sc D 82 6 [vr a, l1, l2, l3] (vr a :: st) u bb σ Q := r_aload_n (k := 0) (by decide +kernel) rfl
theorem k82_6 : qx sc D 82 6 ls (vr 5 :: st) u bb σ Q ↔ qx sc D 82 9 ls (vi (σ 5 1) :: st) u bb σ Q := r_getI (idx := 30) (c := 12) (k := 1) (by decide +kernel)
theorem k82_9 : qx sc D 82 9 ls (vi b' :: vi a' :: st) u bb σ Q ↔ (a' < b' → qx sc D 82 12 ls st u bb σ Q) ∧ (¬ (a' < b') → qx sc D 82 52 ls st u bb σ Q) := r_ic_ge (off := 43) (t := 52) (by decide +kernel)
theorem k82_12 : qx sc D 82 12 [vr a, l1, l2, l3] st u bb σ Q ↔ qx sc D 82 13 [vr a, l1, l2, l3] (vr a :: st) u bb σ Q := r_aload_n (k := 0) (by decide +kernel) rfl
theorem k82_13 : qx sc D 82 13 [l0, l1, vi x, l3] st u bb σ Q ↔ qx sc D 82 14 [l0, l1, vi x, l3] (vi x :: st) u bb σ Q := r_iload_n (k := 2) (by decide +kernel) rfl
theorem k82_14 : qx sc (D + 1) 82 14 ls [vi x0, vr 5] (0, 0) bb σ Q ↔ qx sc D 79 0 [vr 5, vi x0] [] (0, 0) bb σ (q_kn sc (D + 1) 82 17 ls [] (0, 0) Q) := r_callv (idx := 45) (n := 1) (m := 2) (by decide +kernel) rfl (Nat.le_of_ble_eq_true rfl) ⟨Nat.le_of_ble_eq_true rfl, Nat.le_of_ble_eq_true rfl, rfl⟩ rfl
theorem k82_17 : qx sc D 82 17 ls (vi x :: st) u bb σ Q ↔ (x = 0 → qx sc D 82 52 ls st u bb σ Q) ∧ (¬ (x = 0) → qx sc D 82 20 ls st u bb σ Q) := r_if_eq (off := 35) (t := 52) (by decide +kernel)
theorem k82_20 : qx sc D 82 20 [l0, l1, vi x, l3] st u bb σ Q ↔ qx sc D 82 21 [l0, l1, vi x, l3] (vi x :: st) u bb σ Q := r_iload_n (k := 2) (by decide +kernel) rfl
theorem k82_21 : qx sc D 82 21 [l0, vi x, l2, l3] st u bb σ Q ↔ qx sc D 82 22 [l0, vi x, l2, l3] (vi x :: st) u bb σ Q := r_iload_n (k := 1) (by decide +kernel) rfl
theorem k82_22 : qx sc D 82 22 ls (vi b' :: vi a' :: st) u bb σ Q ↔ q_R (a' - b') ∧ qx sc D 82 23 ls (vi (a' - b') :: st) u bb σ Q := r_isub (by decide +kernel)
theorem k82_23 : qx sc D 82 23 ls st u bb σ Q ↔ qx sc D 82 24 ls (vi 2 :: st) u bb σ Q := r_iconst (by decide +kernel)
theorem k82_24 : qx sc D 82 24 ls (vi b' :: vi a' :: st) u bb σ Q ↔ (a' < b' → qx sc D 82 27 ls st u bb σ Q) ∧ (¬ (a' < b') → qx sc D 82 44 ls st u bb σ Q) := r_ic_ge (off := 20) (t := 44) (by decide +kernel)
theorem k82_27 : qx sc D 82 27 [l0, l1, l2, vi x] st u bb σ Q ↔ qx sc D 82 28 [l0, l1, l2, vi x] (vi x :: st) u bb σ Q := r_iload_n (k := 3) (by decide +kernel) rfl
theorem k82_28 : qx sc D 82 28 ls st u bb σ Q ↔ qx sc D 82 30 ls (vi 10 :: st) u bb σ Q := r_bipush (by decide +kernel)
theorem k82_30 : qx sc D 82 30 ls (vi b' :: vi a' :: st) u bb σ Q ↔ q_R (a' * b') ∧ qx sc D 82 31 ls (vi (a' * b') :: st) u bb σ Q := r_imul (by decide +kernel)
theorem k82_31 : qx sc D 82 31 [vr a, l1, l2, l3] st u bb σ Q ↔ qx sc D 82 32 [vr a, l1, l2, l3] (vr a :: st) u bb σ Q := r_aload_n (k := 0) (by decide +kernel) rfl
theorem k82_32 : qx sc D 82 32 ls (vr 5 :: st) u bb σ Q ↔ qx sc D 82 35 ls (vr 1 :: st) u bb σ Q := r_getR (idx := 21) (c := 12) (k := 0) (by decide +kernel)
theorem k82_35 : qx sc D 82 35 [l0, l1, vi x, l3] st u bb σ Q ↔ qx sc D 82 36 [l0, l1, vi x, l3] (vi x :: st) u bb σ Q := r_iload_n (k := 2) (by decide +kernel) rfl
theorem k82_36 : qx sc D 82 36 ls (vi i :: vr a :: st) u bb σ Q ↔ (q_ty a = 0 ∧ 0 ≤ i ∧ i < q_ln a) ∧ qx sc D 82 37 ls (vi (σ a i) :: st) u bb σ Q := r_iald (by decide +kernel)
theorem k82_37 : qx sc D 82 37 ls (vi b' :: vi a' :: st) u bb σ Q ↔ q_R (a' + b') ∧ qx sc D 82 38 ls (vi (a' + b') :: st) u bb σ Q := r_iadd (by decide +kernel)
theorem k82_38 : qx sc D 82 38 ls st u bb σ Q ↔ qx sc D 82 40 ls (vi 48 :: st) u bb σ Q := r_bipush (by decide +kernel)
theorem k82_40 : qx sc D 82 40 ls (vi b' :: vi a' :: st) u bb σ Q ↔ q_R (a' - b') ∧ qx sc D 82 41 ls (vi (a' - b') :: st) u bb σ Q := r_isub (by decide +kernel)
theorem k82_41 : qx sc D 82 41 ls st u bb σ Q ↔ qx sc D 82 45 ls st u bb σ Q := r_goto (off := 4) (by decide +kernel)
theorem k82_44 : qx sc D 82 44 ls st u bb σ Q ↔ qx sc D 82 45 ls (vi 0 :: st) u bb σ Q := r_iconst (by decide +kernel)
theorem k82_45 : qx sc D 82 45 [l0, l1, l2, l3] (vi x :: st) u bb σ Q ↔ qx sc D 82 46 [l0, l1, l2, vi x] st u bb σ Q := r_istore_n (k := 3) (by decide +kernel) (Nat.le_of_ble_eq_true rfl)
theorem k82_46 : qx sc D 82 46 [l0, l1, vi x, l3] st u bb σ Q ↔ q_R (x + 1) ∧ qx sc D 82 49 [l0, l1, vi (x + 1), l3] st u bb σ Q := r_iinc (k := 2) (n := 1) (by decide +kernel) rfl
theorem k82_49 : qx sc D 82 49 ls st u bb σ Q ↔ qx sc D 82 4 ls st u bb σ Q := r_goto (off := (-45)) (by decide +kernel)
theorem k82_52 : qx sc D 82 52 [vr a, l1, l2, l3] st u bb σ Q ↔ qx sc D 82 53 [vr a, l1, l2, l3] (vr a :: st) u bb σ Q := r_aload_n (k := 0) (by decide +kernel) rfl
theorem k82_53 : qx sc D 82 53 [l0, l1, vi x, l3] st u bb σ Q ↔ qx sc D 82 54 [l0, l1, vi x, l3] (vi x :: st) u bb σ Q := r_iload_n (k := 2) (by decide +kernel) rfl
theorem k82_54 : qx sc D 82 54 [l0, vi x, l2, l3] st u bb σ Q ↔ qx sc D 82 55 [l0, vi x, l2, l3] (vi x :: st) u bb σ Q := r_iload_n (k := 1) (by decide +kernel) rfl
theorem k82_55 : qx sc D 82 55 ls (vi b' :: vi a' :: st) u bb σ Q ↔ q_R (a' - b') ∧ qx sc D 82 56 ls (vi (a' - b') :: st) u bb σ Q := r_isub (by decide +kernel)
theorem k82_56 : qx sc D 82 56 ls st u bb σ Q ↔ qx sc D 82 57 ls (vi 2 :: st) u bb σ Q := r_iconst (by decide +kernel)
theorem k82_57 : qx sc D 82 57 ls (vi b' :: vi a' :: st) u bb σ Q ↔ (b' < a' → qx sc D 82 66 ls st u bb σ Q) ∧ (¬ (b' < a') → qx sc D 82 60 ls st u bb σ Q) := r_ic_gt (off := 9) (t := 66) (by decide +kernel)
theorem k82_60 : qx sc D 82 60 ls st u bb σ Q ↔ qx sc D 82 63 ls (vi 262 :: st) u bb σ Q := r_sipush (by decide +kernel)
theorem k82_63 : qx sc D 82 63 ls st u bb σ Q ↔ qx sc D 82 69 ls st u bb σ Q := r_goto (off := 6) (by decide +kernel)
theorem k82_66 : qx sc D 82 66 ls st u bb σ Q ↔ qx sc D 82 69 ls (vi 264 :: st) u bb σ Q := r_sipush (by decide +kernel)
theorem k82_69 : qx sc D 82 69 [l0, vi x, l2, l3] st u bb σ Q ↔ qx sc D 82 70 [l0, vi x, l2, l3] (vi x :: st) u bb σ Q := r_iload_n (k := 1) (by decide +kernel) rfl
theorem k82_70 : qx sc D 82 70 [l0, l1, l2, vi x] st u bb σ Q ↔ qx sc D 82 71 [l0, l1, l2, vi x] (vi x :: st) u bb σ Q := r_iload_n (k := 3) (by decide +kernel) rfl
theorem k82_71 : qx sc (D + 1) 82 71 ls [vi x2, vi x1, vi x0, vr 5] (0, 0) bb σ Q ↔ qx sc D 83 0 [vr 5, vi x0, vi x1, vi x2] [] (0, 0) bb σ (q_kn sc (D + 1) 82 74 ls [] (0, 0) Q) := r_callv (idx := 51) (n := 3) (m := 4) (by decide +kernel) rfl (Nat.le_of_ble_eq_true rfl) ⟨Nat.le_of_ble_eq_true rfl, Nat.le_of_ble_eq_true rfl, rfl⟩ rfl
theorem k82_74 : qx sc D 82 74 [l0, l1, vi x, l3] st u bb σ Q ↔ qx sc D 82 75 [l0, l1, vi x, l3] (vi x :: st) u bb σ Q := r_iload_n (k := 2) (by decide +kernel) rfl
theorem k82_75 : qx sc D 82 75 ls [vi x] (0, 0) bb σ Q ↔ Q (.inl (some (vi x))) bb σ := r_ret (by decide +kernel)
-- 83: RowProver$Tokens.put(III)V
theorem k83_0 : qx sc D 83 0 [vr a, l1, l2, l3] st u bb σ Q ↔ qx sc D 83 1 [vr a, l1, l2, l3] (vr a :: st) u bb σ Q := r_aload_n (k := 0) (by decide +kernel) rfl
theorem k83_1 : qx sc D 83 1 ls (vr 5 :: st) u bb σ Q ↔ qx sc D 83 4 ls (vr 6 :: st) u bb σ Q := r_getR (idx := 9) (c := 12) (k := 3) (by decide +kernel)
theorem k83_4 : qx sc D 83 4 [vr a, l1, l2, l3] st u bb σ Q ↔ qx sc D 83 5 [vr a, l1, l2, l3] (vr a :: st) u bb σ Q := r_aload_n (k := 0) (by decide +kernel) rfl
theorem k83_5 : qx sc D 83 5 ls (vr 5 :: st) u bb σ Q ↔ qx sc D 83 8 ls (vi (σ 5 2) :: st) u bb σ Q := r_getI (idx := 34) (c := 12) (k := 2) (by decide +kernel)
theorem k83_8 : qx sc D 83 8 [l0, vi x, l2, l3] st u bb σ Q ↔ qx sc D 83 9 [l0, vi x, l2, l3] (vi x :: st) u bb σ Q := r_iload_n (k := 1) (by decide +kernel) rfl
theorem k83_9 : qx sc D 83 9 ls (vi x :: vi i :: vr a :: st) u bb σ Q ↔ (q_ty a = 0 ∧ 0 ≤ i ∧ i < q_ln a) ∧ qx sc D 83 10 ls st u bb (q_up σ a i x) Q := r_iast (by decide +kernel)
theorem k83_10 : qx sc D 83 10 [vr a, l1, l2, l3] st u bb σ Q ↔ qx sc D 83 11 [vr a, l1, l2, l3] (vr a :: st) u bb σ Q := r_aload_n (k := 0) (by decide +kernel) rfl
theorem k83_11 : qx sc D 83 11 ls (vr 5 :: st) u bb σ Q ↔ qx sc D 83 14 ls (vr 7 :: st) u bb σ Q := r_getR (idx := 15) (c := 12) (k := 4) (by decide +kernel)
theorem k83_14 : qx sc D 83 14 [vr a, l1, l2, l3] st u bb σ Q ↔ qx sc D 83 15 [vr a, l1, l2, l3] (vr a :: st) u bb σ Q := r_aload_n (k := 0) (by decide +kernel) rfl
theorem k83_15 : qx sc D 83 15 ls (vr 5 :: st) u bb σ Q ↔ qx sc D 83 18 ls (vi (σ 5 2) :: st) u bb σ Q := r_getI (idx := 34) (c := 12) (k := 2) (by decide +kernel)
theorem k83_18 : qx sc D 83 18 [l0, l1, vi x, l3] st u bb σ Q ↔ qx sc D 83 19 [l0, l1, vi x, l3] (vi x :: st) u bb σ Q := r_iload_n (k := 2) (by decide +kernel) rfl
theorem k83_19 : qx sc D 83 19 ls (vi x :: vi i :: vr a :: st) u bb σ Q ↔ (q_ty a = 0 ∧ 0 ≤ i ∧ i < q_ln a) ∧ qx sc D 83 20 ls st u bb (q_up σ a i x) Q := r_iast (by decide +kernel)
theorem k83_20 : qx sc D 83 20 [vr a, l1, l2, l3] st u bb σ Q ↔ qx sc D 83 21 [vr a, l1, l2, l3] (vr a :: st) u bb σ Q := r_aload_n (k := 0) (by decide +kernel) rfl
theorem k83_21 : qx sc D 83 21 ls (vr 5 :: st) u bb σ Q ↔ qx sc D 83 24 ls (vr 8 :: st) u bb σ Q := r_getR (idx := 18) (c := 12) (k := 5) (by decide +kernel)
theorem k83_24 : qx sc D 83 24 [vr a, l1, l2, l3] st u bb σ Q ↔ qx sc D 83 25 [vr a, l1, l2, l3] (vr a :: st) u bb σ Q := r_aload_n (k := 0) (by decide +kernel) rfl
theorem k83_25 : qx sc D 83 25 ls (vr 5 :: st) u bb σ Q ↔ qx sc D 83 28 ls (vi (σ 5 2) :: st) u bb σ Q := r_getI (idx := 34) (c := 12) (k := 2) (by decide +kernel)
theorem k83_28 : qx sc D 83 28 [l0, l1, l2, vi x] st u bb σ Q ↔ qx sc D 83 29 [l0, l1, l2, vi x] (vi x :: st) u bb σ Q := r_iload_n (k := 3) (by decide +kernel) rfl
theorem k83_29 : qx sc D 83 29 ls (vi x :: vi i :: vr a :: st) u bb σ Q ↔ (q_ty a = 0 ∧ 0 ≤ i ∧ i < q_ln a) ∧ qx sc D 83 30 ls st u bb (q_up σ a i x) Q := r_iast (by decide +kernel)
theorem k83_30 : qx sc D 83 30 [vr a, l1, l2, l3] st u bb σ Q ↔ qx sc D 83 31 [vr a, l1, l2, l3] (vr a :: st) u bb σ Q := r_aload_n (k := 0) (by decide +kernel) rfl
theorem k83_31 : qx sc D 83 31 ls (vr a :: st) u bb σ Q ↔ qx sc D 83 32 ls (vr a :: vr a :: st) u bb σ Q := r_dupA (by decide +kernel)
theorem k83_32 : qx sc D 83 32 ls (vr 5 :: st) u bb σ Q ↔ qx sc D 83 35 ls (vi (σ 5 2) :: st) u bb σ Q := r_getI (idx := 34) (c := 12) (k := 2) (by decide +kernel)
theorem k83_35 : qx sc D 83 35 ls st u bb σ Q ↔ qx sc D 83 36 ls (vi 1 :: st) u bb σ Q := r_iconst (by decide +kernel)
theorem k83_36 : qx sc D 83 36 ls (vi b' :: vi a' :: st) u bb σ Q ↔ q_R (a' + b') ∧ qx sc D 83 37 ls (vi (a' + b') :: st) u bb σ Q := r_iadd (by decide +kernel)
theorem k83_37 : qx sc D 83 37 ls (vi x :: vr 5 :: st) u bb σ Q ↔ qx sc D 83 40 ls st u bb (q_up σ 5 2 x) Q := r_putI (idx := 34) (c := 12) (k := 2) (by decide +kernel)
theorem k83_40 : qx sc D 83 40 ls [] (0, 0) bb σ Q ↔ Q (.inl none) bb σ := r_retV (by decide +kernel)
-- 84: RowProver$Tokens.split(I)V
theorem k84_0 : qx sc D 84 0 [vr a, l1, l2, l3] st u bb σ Q ↔ qx sc D 84 1 [vr a, l1, l2, l3] (vr a :: st) u bb σ Q := r_aload_n (k := 0) (by decide +kernel) rfl
theorem k84_1 : qx sc D 84 1 [l0, vi x, l2, l3] st u bb σ Q ↔ qx sc D 84 2 [l0, vi x, l2, l3] (vi x :: st) u bb σ Q := r_iload_n (k := 1) (by decide +kernel) rfl
theorem k84_2 : qx sc D 84 2 [vr a, l1, l2, l3] st u bb σ Q ↔ qx sc D 84 3 [vr a, l1, l2, l3] (vr a :: st) u bb σ Q := r_aload_n (k := 0) (by decide +kernel) rfl
theorem k84_3 : qx sc D 84 3 ls (vr 5 :: st) u bb σ Q ↔ qx sc D 84 6 ls (vr 1 :: st) u bb σ Q := r_getR (idx := 21) (c := 12) (k := 0) (by decide +kernel)
theorem k84_6 : qx sc D 84 6 ls (vr a :: st) u bb σ Q ↔ q_ty a < 5 ∧ qx sc D 84 7 ls (vi (q_ln a) :: st) u bb σ Q := r_alen (by decide +kernel)
theorem k84_7 : qx sc D 84 7 ls [vi b', vi a', vr a20] (0, 0) bb σ Q ↔ qx sc D 84 10 ls [vi (min a' b'), vr a20] (0, 0) bb σ Q := r_min (idx := 24) (y' := 0) (by decide +kernel) (Nat.le_of_ble_eq_true rfl)
theorem k84_10 : qx sc D 84 10 ls (vi x :: vr 5 :: st) u bb σ Q ↔ qx sc D 84 13 ls st u bb (q_up σ 5 1 x) Q := r_putI (idx := 30) (c := 12) (k := 1) (by decide +kernel)
theorem k84_13 : qx sc D 84 13 [vr a, l1, l2, l3] st u bb σ Q ↔ qx sc D 84 14 [vr a, l1, l2, l3] (vr a :: st) u bb σ Q := r_aload_n (k := 0) (by decide +kernel) rfl
theorem k84_14 : qx sc D 84 14 ls st u bb σ Q ↔ qx sc D 84 15 ls (vi 0 :: st) u bb σ Q := r_iconst (by decide +kernel)
theorem k84_15 : qx sc D 84 15 ls (vi x :: vr 5 :: st) u bb σ Q ↔ qx sc D 84 18 ls st u bb (q_up σ 5 2 x) Q := r_putI (idx := 34) (c := 12) (k := 2) (by decide +kernel)
theorem k84_18 : qx sc D 84 18 ls st u bb σ Q ↔ qx sc D 84 19 ls (vi 0 :: st) u bb σ Q := r_iconst (by decide +kernel)
theorem k84_19 : qx sc D 84 19 [l0, l1, l2, l3] (vi x :: st) u bb σ Q ↔ qx sc D 84 20 [l0, l1, vi x, l3] st u bb σ Q := r_istore_n (k := 2) (by decide +kernel) (Nat.le_of_ble_eq_true rfl)
theorem k84_20 : qx sc D 84 20 ls st u bb σ Q ↔ qx sc D 84 21 ls (vi 0 :: st) u bb σ Q := r_iconst (by decide +kernel)
theorem k84_21 : qx sc D 84 21 [l0, l1, l2, l3] (vi x :: st) u bb σ Q ↔ qx sc D 84 22 [l0, l1, l2, vi x] st u bb σ Q := r_istore_n (k := 3) (by decide +kernel) (Nat.le_of_ble_eq_true rfl)
theorem k84_22 : qx sc D 84 22 [l0, l1, l2, vi x] st u bb σ Q ↔ qx sc D 84 23 [l0, l1, l2, vi x] (vi x :: st) u bb σ Q := r_iload_n (k := 3) (by decide +kernel) rfl
theorem k84_23 : qx sc D 84 23 [vr a, l1, l2, l3] st u bb σ Q ↔ qx sc D 84 24 [vr a, l1, l2, l3] (vr a :: st) u bb σ Q := r_aload_n (k := 0) (by decide +kernel) rfl
theorem k84_24 : qx sc D 84 24 ls (vr 5 :: st) u bb σ Q ↔ qx sc D 84 27 ls (vi (σ 5 1) :: st) u bb σ Q := r_getI (idx := 30) (c := 12) (k := 1) (by decide +kernel)
theorem k84_27 : qx sc D 84 27 ls (vi b' :: vi a' :: st) u bb σ Q ↔ (a' < b' → qx sc D 84 30 ls st u bb σ Q) ∧ (¬ (a' < b') → qx sc D 84 169 ls st u bb σ Q) := r_ic_ge (off := 142) (t := 169) (by decide +kernel)
theorem k84_30 : qx sc D 84 30 [l0, l1, l2, vi x] st u bb σ Q ↔ qx sc D 84 31 [l0, l1, l2, vi x] (vi x :: st) u bb σ Q := r_iload_n (k := 3) (by decide +kernel) rfl
theorem k84_31 : qx sc D 84 31 ls st u bb σ Q ↔ qx sc D 84 32 ls (vi 1 :: st) u bb σ Q := r_iconst (by decide +kernel)
theorem k84_32 : qx sc D 84 32 ls (vi b' :: vi a' :: st) u bb σ Q ↔ q_R (a' + b') ∧ qx sc D 84 33 ls (vi (a' + b') :: st) u bb σ Q := r_iadd (by decide +kernel)
theorem k84_33 : qx sc D 84 33 [l0, l1, l2, l3] (vi x :: st) u bb σ Q ↔ qx sc D 84 34 [l0, l1, vi x, l3] st u bb σ Q := r_istore_n (k := 2) (by decide +kernel) (Nat.le_of_ble_eq_true rfl)
theorem k84_34 : qx sc D 84 34 [vr a, l1, l2, l3] st u bb σ Q ↔ qx sc D 84 35 [vr a, l1, l2, l3] (vr a :: st) u bb σ Q := r_aload_n (k := 0) (by decide +kernel) rfl
theorem k84_35 : qx sc D 84 35 [l0, l1, l2, vi x] st u bb σ Q ↔ qx sc D 84 36 [l0, l1, l2, vi x] (vi x :: st) u bb σ Q := r_iload_n (k := 3) (by decide +kernel) rfl
theorem k84_36 : qx sc (D + 1) 84 36 ls [vi x0, vr 5] (0, 0) bb σ Q ↔ qx sc D 80 0 [vr 5, vi x0] [] (0, 0) bb σ (q_kn sc (D + 1) 84 39 ls [] (0, 0) Q) := r_callv (idx := 37) (n := 1) (m := 2) (by decide +kernel) rfl (Nat.le_of_ble_eq_true rfl) ⟨Nat.le_of_ble_eq_true rfl, Nat.le_of_ble_eq_true rfl, rfl⟩ rfl
theorem k84_39 : qx sc D 84 39 ls (vi x :: st) u bb σ Q ↔ (x = 0 → qx sc D 84 51 ls st u bb σ Q) ∧ (¬ (x = 0) → qx sc D 84 42 ls st u bb σ Q) := r_if_eq (off := 12) (t := 51) (by decide +kernel)
theorem k84_42 : qx sc D 84 42 [vr a, l1, l2, l3] st u bb σ Q ↔ qx sc D 84 43 [vr a, l1, l2, l3] (vr a :: st) u bb σ Q := r_aload_n (k := 0) (by decide +kernel) rfl
theorem k84_43 : qx sc D 84 43 [l0, l1, l2, vi x] st u bb σ Q ↔ qx sc D 84 44 [l0, l1, l2, vi x] (vi x :: st) u bb σ Q := r_iload_n (k := 3) (by decide +kernel) rfl
theorem k84_44 : qx sc (D + 1) 84 44 ls [vi x0, vr 5] (0, 0) bb σ Q ↔ qx sc D 85 0 [vr 5, vi x0, vn] [] (0, 0) bb σ (q_kn sc (D + 1) 84 47 ls [] (0, 0) Q) := r_callv (idx := 41) (n := 1) (m := 3) (by decide +kernel) rfl (Nat.le_of_ble_eq_true rfl) ⟨Nat.le_of_ble_eq_true rfl, Nat.le_of_ble_eq_true rfl, rfl⟩ rfl
theorem k84_47 : qx sc D 84 47 [l0, l1, l2, l3] (vi x :: st) u bb σ Q ↔ qx sc D 84 48 [l0, l1, vi x, l3] st u bb σ Q := r_istore_n (k := 2) (by decide +kernel) (Nat.le_of_ble_eq_true rfl)
theorem k84_48 : qx sc D 84 48 ls st u bb σ Q ↔ qx sc D 84 158 ls st u bb σ Q := r_goto (off := 110) (by decide +kernel)
theorem k84_51 : qx sc D 84 51 [vr a, l1, l2, l3] st u bb σ Q ↔ qx sc D 84 52 [vr a, l1, l2, l3] (vr a :: st) u bb σ Q := r_aload_n (k := 0) (by decide +kernel) rfl
theorem k84_52 : qx sc D 84 52 [l0, l1, l2, vi x] st u bb σ Q ↔ qx sc D 84 53 [l0, l1, l2, vi x] (vi x :: st) u bb σ Q := r_iload_n (k := 3) (by decide +kernel) rfl
theorem k84_53 : qx sc (D + 1) 84 53 ls [vi x0, vr 5] (0, 0) bb σ Q ↔ qx sc D 79 0 [vr 5, vi x0] [] (0, 0) bb σ (q_kn sc (D + 1) 84 56 ls [] (0, 0) Q) := r_callv (idx := 45) (n := 1) (m := 2) (by decide +kernel) rfl (Nat.le_of_ble_eq_true rfl) ⟨Nat.le_of_ble_eq_true rfl, Nat.le_of_ble_eq_true rfl, rfl⟩ rfl
theorem k84_56 : qx sc D 84 56 ls (vi x :: st) u bb σ Q ↔ (x = 0 → qx sc D 84 68 ls st u bb σ Q) ∧ (¬ (x = 0) → qx sc D 84 59 ls st u bb σ Q) := r_if_eq (off := 12) (t := 68) (by decide +kernel)
theorem k84_59 : qx sc D 84 59 [vr a, l1, l2, l3] st u bb σ Q ↔ qx sc D 84 60 [vr a, l1, l2, l3] (vr a :: st) u bb σ Q := r_aload_n (k := 0) (by decide +kernel) rfl
theorem k84_60 : qx sc D 84 60 [l0, l1, l2, vi x] st u bb σ Q ↔ qx sc D 84 61 [l0, l1, l2, vi x] (vi x :: st) u bb σ Q := r_iload_n (k := 3) (by decide +kernel) rfl
theorem k84_61 : qx sc (D + 1) 84 61 ls [vi x0, vr 5] (0, 0) bb σ Q ↔ qx sc D 82 0 [vr 5, vi x0, vn, vn] [] (0, 0) bb σ (q_kn sc (D + 1) 84 64 ls [] (0, 0) Q) := r_callv (idx := 48) (n := 1) (m := 4) (by decide +kernel) rfl (Nat.le_of_ble_eq_true rfl) ⟨Nat.le_of_ble_eq_true rfl, Nat.le_of_ble_eq_true rfl, rfl⟩ rfl
theorem k84_64 : qx sc D 84 64 [l0, l1, l2, l3] (vi x :: st) u bb σ Q ↔ qx sc D 84 65 [l0, l1, vi x, l3] st u bb σ Q := r_istore_n (k := 2) (by decide +kernel) (Nat.le_of_ble_eq_true rfl)
theorem k84_65 : qx sc D 84 65 ls st u bb σ Q ↔ qx sc D 84 158 ls st u bb σ Q := r_goto (off := 93) (by decide +kernel)
theorem k84_68 : qx sc D 84 68 [vr a, l1, l2, l3] st u bb σ Q ↔ qx sc D 84 69 [vr a, l1, l2, l3] (vr a :: st) u bb σ Q := r_aload_n (k := 0) (by decide +kernel) rfl
theorem k84_69 : qx sc D 84 69 ls (vr 5 :: st) u bb σ Q ↔ qx sc D 84 72 ls (vr 1 :: st) u bb σ Q := r_getR (idx := 21) (c := 12) (k := 0) (by decide +kernel)
theorem k84_72 : qx sc D 84 72 [l0, l1, l2, vi x] st u bb σ Q ↔ qx sc D 84 73 [l0, l1, l2, vi x] (vi x :: st) u bb σ Q := r_iload_n (k := 3) (by decide +kernel) rfl
theorem k84_73 : qx sc D 84 73 ls (vi i :: vr a :: st) u bb σ Q ↔ (q_ty a = 0 ∧ 0 ≤ i ∧ i < q_ln a) ∧ qx sc D 84 74 ls (vi (σ a i) :: st) u bb σ Q := r_iald (by decide +kernel)
theorem k84_74 : qx sc D 84 74 ls st u bb σ Q ↔ qx sc D 84 76 ls (vi 60 :: st) u bb σ Q := r_bipush (by decide +kernel)
theorem k84_76 : qx sc D 84 76 ls (vi b' :: vi a' :: st) u bb σ Q ↔ (a' = b' → qx sc D 84 79 ls st u bb σ Q) ∧ (¬ (a' = b') → qx sc D 84 113 ls st u bb σ Q) := r_ic_ne (off := 37) (t := 113) (by decide +kernel)
theorem k84_79 : qx sc D 84 79 [l0, l1, vi x, l3] st u bb σ Q ↔ qx sc D 84 80 [l0, l1, vi x, l3] (vi x :: st) u bb σ Q := r_iload_n (k := 2) (by decide +kernel) rfl
theorem k84_80 : qx sc D 84 80 [vr a, l1, l2, l3] st u bb σ Q ↔ qx sc D 84 81 [vr a, l1, l2, l3] (vr a :: st) u bb σ Q := r_aload_n (k := 0) (by decide +kernel) rfl
theorem k84_81 : qx sc D 84 81 ls (vr 5 :: st) u bb σ Q ↔ qx sc D 84 84 ls (vi (σ 5 1) :: st) u bb σ Q := r_getI (idx := 30) (c := 12) (k := 1) (by decide +kernel)
theorem k84_84 : qx sc D 84 84 ls (vi b' :: vi a' :: st) u bb σ Q ↔ (a' < b' → qx sc D 84 87 ls st u bb σ Q) ∧ (¬ (a' < b') → qx sc D 84 113 ls st u bb σ Q) := r_ic_ge (off := 29) (t := 113) (by decide +kernel)
theorem k84_87 : qx sc D 84 87 [vr a, l1, l2, l3] st u bb σ Q ↔ qx sc D 84 88 [vr a, l1, l2, l3] (vr a :: st) u bb σ Q := r_aload_n (k := 0) (by decide +kernel) rfl
theorem k84_88 : qx sc D 84 88 ls (vr 5 :: st) u bb σ Q ↔ qx sc D 84 91 ls (vr 1 :: st) u bb σ Q := r_getR (idx := 21) (c := 12) (k := 0) (by decide +kernel)
theorem k84_91 : qx sc D 84 91 [l0, l1, vi x, l3] st u bb σ Q ↔ qx sc D 84 92 [l0, l1, vi x, l3] (vi x :: st) u bb σ Q := r_iload_n (k := 2) (by decide +kernel) rfl
theorem k84_92 : qx sc D 84 92 ls (vi i :: vr a :: st) u bb σ Q ↔ (q_ty a = 0 ∧ 0 ≤ i ∧ i < q_ln a) ∧ qx sc D 84 93 ls (vi (σ a i) :: st) u bb σ Q := r_iald (by decide +kernel)
theorem k84_93 : qx sc D 84 93 ls st u bb σ Q ↔ qx sc D 84 95 ls (vi 61 :: st) u bb σ Q := r_bipush (by decide +kernel)
theorem k84_95 : qx sc D 84 95 ls (vi b' :: vi a' :: st) u bb σ Q ↔ (a' = b' → qx sc D 84 98 ls st u bb σ Q) ∧ (¬ (a' = b') → qx sc D 84 113 ls st u bb σ Q) := r_ic_ne (off := 18) (t := 113) (by decide +kernel)
theorem k84_98 : qx sc D 84 98 [l0, l1, vi x, l3] st u bb σ Q ↔ q_R (x + 1) ∧ qx sc D 84 101 [l0, l1, vi (x + 1), l3] st u bb σ Q := r_iinc (k := 2) (n := 1) (by decide +kernel) rfl
theorem k84_101 : qx sc D 84 101 [vr a, l1, l2, l3] st u bb σ Q ↔ qx sc D 84 102 [vr a, l1, l2, l3] (vr a :: st) u bb σ Q := r_aload_n (k := 0) (by decide +kernel) rfl
theorem k84_102 : qx sc D 84 102 ls st u bb σ Q ↔ qx sc D 84 105 ls (vi 263 :: st) u bb σ Q := r_sipush (by decide +kernel)
theorem k84_105 : qx sc D 84 105 [l0, l1, l2, vi x] st u bb σ Q ↔ qx sc D 84 106 [l0, l1, l2, vi x] (vi x :: st) u bb σ Q := r_iload_n (k := 3) (by decide +kernel) rfl
theorem k84_106 : qx sc D 84 106 ls st u bb σ Q ↔ qx sc D 84 107 ls (vi 0 :: st) u bb σ Q := r_iconst (by decide +kernel)
theorem k84_107 : qx sc (D + 1) 84 107 ls [vi x2, vi x1, vi x0, vr 5] (0, 0) bb σ Q ↔ qx sc D 83 0 [vr 5, vi x0, vi x1, vi x2] [] (0, 0) bb σ (q_kn sc (D + 1) 84 110 ls [] (0, 0) Q) := r_callv (idx := 51) (n := 3) (m := 4) (by decide +kernel) rfl (Nat.le_of_ble_eq_true rfl) ⟨Nat.le_of_ble_eq_true rfl, Nat.le_of_ble_eq_true rfl, rfl⟩ rfl
theorem k84_110 : qx sc D 84 110 ls st u bb σ Q ↔ qx sc D 84 158 ls st u bb σ Q := r_goto (off := 48) (by decide +kernel)
theorem k84_113 : qx sc D 84 113 [vr a, l1, l2, l3] st u bb σ Q ↔ qx sc D 84 114 [vr a, l1, l2, l3] (vr a :: st) u bb σ Q := r_aload_n (k := 0) (by decide +kernel) rfl
theorem k84_114 : qx sc D 84 114 ls (vr 5 :: st) u bb σ Q ↔ qx sc D 84 117 ls (vr 1 :: st) u bb σ Q := r_getR (idx := 21) (c := 12) (k := 0) (by decide +kernel)
theorem k84_117 : qx sc D 84 117 [l0, l1, l2, vi x] st u bb σ Q ↔ qx sc D 84 118 [l0, l1, l2, vi x] (vi x :: st) u bb σ Q := r_iload_n (k := 3) (by decide +kernel) rfl
theorem k84_118 : qx sc D 84 118 ls (vi i :: vr a :: st) u bb σ Q ↔ (q_ty a = 0 ∧ 0 ≤ i ∧ i < q_ln a) ∧ qx sc D 84 119 ls (vi (σ a i) :: st) u bb σ Q := r_iald (by decide +kernel)
theorem k84_119 : qx sc D 84 119 ls st u bb σ Q ↔ qx sc D 84 121 ls (vi 9 :: st) u bb σ Q := r_bipush (by decide +kernel)
theorem k84_121 : qx sc D 84 121 ls (vi b' :: vi a' :: st) u bb σ Q ↔ (a' = b' → qx sc D 84 158 ls st u bb σ Q) ∧ (¬ (a' = b') → qx sc D 84 124 ls st u bb σ Q) := r_ic_eq (off := 37) (t := 158) (by decide +kernel)
theorem k84_124 : qx sc D 84 124 [vr a, l1, l2, l3] st u bb σ Q ↔ qx sc D 84 125 [vr a, l1, l2, l3] (vr a :: st) u bb σ Q := r_aload_n (k := 0) (by decide +kernel) rfl
theorem k84_125 : qx sc D 84 125 ls (vr 5 :: st) u bb σ Q ↔ qx sc D 84 128 ls (vr 1 :: st) u bb σ Q := r_getR (idx := 21) (c := 12) (k := 0) (by decide +kernel)
theorem k84_128 : qx sc D 84 128 [l0, l1, l2, vi x] st u bb σ Q ↔ qx sc D 84 129 [l0, l1, l2, vi x] (vi x :: st) u bb σ Q := r_iload_n (k := 3) (by decide +kernel) rfl
theorem k84_129 : qx sc D 84 129 ls (vi i :: vr a :: st) u bb σ Q ↔ (q_ty a = 0 ∧ 0 ≤ i ∧ i < q_ln a) ∧ qx sc D 84 130 ls (vi (σ a i) :: st) u bb σ Q := r_iald (by decide +kernel)
theorem k84_130 : qx sc D 84 130 ls st u bb σ Q ↔ qx sc D 84 132 ls (vi 10 :: st) u bb σ Q := r_bipush (by decide +kernel)
theorem k84_132 : qx sc D 84 132 ls (vi b' :: vi a' :: st) u bb σ Q ↔ (a' = b' → qx sc D 84 158 ls st u bb σ Q) ∧ (¬ (a' = b') → qx sc D 84 135 ls st u bb σ Q) := r_ic_eq (off := 26) (t := 158) (by decide +kernel)
theorem k84_135 : qx sc D 84 135 [vr a, l1, l2, l3] st u bb σ Q ↔ qx sc D 84 136 [vr a, l1, l2, l3] (vr a :: st) u bb σ Q := r_aload_n (k := 0) (by decide +kernel) rfl
theorem k84_136 : qx sc D 84 136 ls (vr 5 :: st) u bb σ Q ↔ qx sc D 84 139 ls (vr 1 :: st) u bb σ Q := r_getR (idx := 21) (c := 12) (k := 0) (by decide +kernel)
theorem k84_139 : qx sc D 84 139 [l0, l1, l2, vi x] st u bb σ Q ↔ qx sc D 84 140 [l0, l1, l2, vi x] (vi x :: st) u bb σ Q := r_iload_n (k := 3) (by decide +kernel) rfl
theorem k84_140 : qx sc D 84 140 ls (vi i :: vr a :: st) u bb σ Q ↔ (q_ty a = 0 ∧ 0 ≤ i ∧ i < q_ln a) ∧ qx sc D 84 141 ls (vi (σ a i) :: st) u bb σ Q := r_iald (by decide +kernel)
theorem k84_141 : qx sc D 84 141 ls st u bb σ Q ↔ qx sc D 84 143 ls (vi 32 :: st) u bb σ Q := r_bipush (by decide +kernel)
theorem k84_143 : qx sc D 84 143 ls (vi b' :: vi a' :: st) u bb σ Q ↔ (a' = b' → qx sc D 84 158 ls st u bb σ Q) ∧ (¬ (a' = b') → qx sc D 84 146 ls st u bb σ Q) := r_ic_eq (off := 15) (t := 158) (by decide +kernel)
theorem k84_146 : qx sc D 84 146 [vr a, l1, l2, l3] st u bb σ Q ↔ qx sc D 84 147 [vr a, l1, l2, l3] (vr a :: st) u bb σ Q := r_aload_n (k := 0) (by decide +kernel) rfl
theorem k84_147 : qx sc D 84 147 [vr a, l1, l2, l3] st u bb σ Q ↔ qx sc D 84 148 [vr a, l1, l2, l3] (vr a :: st) u bb σ Q := r_aload_n (k := 0) (by decide +kernel) rfl
theorem k84_148 : qx sc D 84 148 ls (vr 5 :: st) u bb σ Q ↔ qx sc D 84 151 ls (vr 1 :: st) u bb σ Q := r_getR (idx := 21) (c := 12) (k := 0) (by decide +kernel)
theorem k84_151 : qx sc D 84 151 [l0, l1, l2, vi x] st u bb σ Q ↔ qx sc D 84 152 [l0, l1, l2, vi x] (vi x :: st) u bb σ Q := r_iload_n (k := 3) (by decide +kernel) rfl
theorem k84_152 : qx sc D 84 152 ls (vi i :: vr a :: st) u bb σ Q ↔ (q_ty a = 0 ∧ 0 ≤ i ∧ i < q_ln a) ∧ qx sc D 84 153 ls (vi (σ a i) :: st) u bb σ Q := r_iald (by decide +kernel)
theorem k84_153 : qx sc D 84 153 [l0, l1, l2, vi x] st u bb σ Q ↔ qx sc D 84 154 [l0, l1, l2, vi x] (vi x :: st) u bb σ Q := r_iload_n (k := 3) (by decide +kernel) rfl
theorem k84_154 : qx sc D 84 154 ls st u bb σ Q ↔ qx sc D 84 155 ls (vi 0 :: st) u bb σ Q := r_iconst (by decide +kernel)
theorem k84_155 : qx sc (D + 1) 84 155 ls [vi x2, vi x1, vi x0, vr 5] (0, 0) bb σ Q ↔ qx sc D 83 0 [vr 5, vi x0, vi x1, vi x2] [] (0, 0) bb σ (q_kn sc (D + 1) 84 158 ls [] (0, 0) Q) := r_callv (idx := 51) (n := 3) (m := 4) (by decide +kernel) rfl (Nat.le_of_ble_eq_true rfl) ⟨Nat.le_of_ble_eq_true rfl, Nat.le_of_ble_eq_true rfl, rfl⟩ rfl
theorem k84_158 : qx sc D 84 158 [l0, l1, l2, vi x] st u bb σ Q ↔ qx sc D 84 159 [l0, l1, l2, vi x] (vi x :: st) u bb σ Q := r_iload_n (k := 3) (by decide +kernel) rfl
theorem k84_159 : qx sc D 84 159 ls st u bb σ Q ↔ qx sc D 84 160 ls (vi 1 :: st) u bb σ Q := r_iconst (by decide +kernel)
theorem k84_160 : qx sc D 84 160 ls (vi b' :: vi a' :: st) u bb σ Q ↔ q_R (a' + b') ∧ qx sc D 84 161 ls (vi (a' + b') :: st) u bb σ Q := r_iadd (by decide +kernel)
theorem k84_161 : qx sc D 84 161 [l0, l1, vi x, l3] st u bb σ Q ↔ qx sc D 84 162 [l0, l1, vi x, l3] (vi x :: st) u bb σ Q := r_iload_n (k := 2) (by decide +kernel) rfl
theorem k84_162 : qx sc D 84 162 ls [vi b', vi a'] (0, 0) bb σ Q ↔ qx sc D 84 165 ls [vi (max a' b')] (0, 0) bb σ Q := r_max (idx := 55) (y' := 0) (by decide +kernel) (Nat.le_of_ble_eq_true rfl)
theorem k84_165 : qx sc D 84 165 [l0, l1, l2, l3] (vi x :: st) u bb σ Q ↔ qx sc D 84 166 [l0, l1, l2, vi x] st u bb σ Q := r_istore_n (k := 3) (by decide +kernel) (Nat.le_of_ble_eq_true rfl)
theorem k84_166 : qx sc D 84 166 ls st u bb σ Q ↔ qx sc D 84 22 ls st u bb σ Q := r_goto (off := (-144)) (by decide +kernel)
theorem k84_169 : qx sc D 84 169 [vr a, l1, l2, l3] st u bb σ Q ↔ qx sc D 84 170 [vr a, l1, l2, l3] (vr a :: st) u bb σ Q := r_aload_n (k := 0) (by decide +kernel) rfl
theorem k84_170 : qx sc D 84 170 ls st u bb σ Q ↔ qx sc D 84 171 ls (vi (-1) :: st) u bb σ Q := r_iconst (by decide +kernel)
theorem k84_171 : qx sc D 84 171 [vr a, l1, l2, l3] st u bb σ Q ↔ qx sc D 84 172 [vr a, l1, l2, l3] (vr a :: st) u bb σ Q := r_aload_n (k := 0) (by decide +kernel) rfl
theorem k84_172 : qx sc D 84 172 ls (vr 5 :: st) u bb σ Q ↔ qx sc D 84 175 ls (vi (σ 5 1) :: st) u bb σ Q := r_getI (idx := 30) (c := 12) (k := 1) (by decide +kernel)
theorem k84_175 : qx sc D 84 175 ls st u bb σ Q ↔ qx sc D 84 176 ls (vi 0 :: st) u bb σ Q := r_iconst (by decide +kernel)
theorem k84_176 : qx sc (D + 1) 84 176 ls [vi x2, vi x1, vi x0, vr 5] (0, 0) bb σ Q ↔ qx sc D 83 0 [vr 5, vi x0, vi x1, vi x2] [] (0, 0) bb σ (q_kn sc (D + 1) 84 179 ls [] (0, 0) Q) := r_callv (idx := 51) (n := 3) (m := 4) (by decide +kernel) rfl (Nat.le_of_ble_eq_true rfl) ⟨Nat.le_of_ble_eq_true rfl, Nat.le_of_ble_eq_true rfl, rfl⟩ rfl
theorem k84_179 : qx sc D 84 179 ls [] (0, 0) bb σ Q ↔ Q (.inl none) bb σ := r_retV (by decide +kernel)
-- 85: RowProver$Tokens.word(I)I
theorem k85_0 : qx sc D 85 0 [l0, vi x, l2] st u bb σ Q ↔ qx sc D 85 1 [l0, vi x, l2] (vi x :: st) u bb σ Q := r_iload_n (k := 1) (by decide +kernel) rfl
theorem k85_1 : qx sc D 85 1 ls st u bb σ Q ↔ qx sc D 85 2 ls (vi 1 :: st) u bb σ Q := r_iconst (by decide +kernel)
theorem k85_2 : qx sc D 85 2 ls (vi b' :: vi a' :: st) u bb σ Q ↔ q_R (a' + b') ∧ qx sc D 85 3 ls (vi (a' + b') :: st) u bb σ Q := r_iadd (by decide +kernel)
theorem k85_3 : qx sc D 85 3 [l0, l1, l2] (vi x :: st) u bb σ Q ↔ qx sc D 85 4 [l0, l1, vi x] st u bb σ Q := r_istore_n (k := 2) (by decide +kernel) (Nat.le_of_ble_eq_true rfl)
theorem k85_4 : qx sc D 85 4 [l0, l1, vi x] st u bb σ Q ↔ qx sc D 85 5 [l0, l1, vi x] (vi x :: st) u bb σ Q := r_iload_n (k := 2) (by decide +kernel) rfl
theorem k85_5 : qx sc D 85 5 [vr a, l1, l2] st u bb σ Q ↔ qx sc D 85 6 [vr a, l1, l2] (vr a :: st) u bb σ Q := r_aload_n (k := 0) (by decide +kernel) rfl
theorem k85_6 : qx sc D 85 6 ls (vr 5 :: st) u bb σ Q ↔ qx sc D 85 9 ls (vi (σ 5 1) :: st) u bb σ Q := r_getI (idx := 30) (c := 12) (k := 1) (by decide +kernel)
theorem k85_9 : qx sc D 85 9 ls (vi b' :: vi a' :: st) u bb σ Q ↔ (a' < b' → qx sc D 85 12 ls st u bb σ Q) ∧ (¬ (a' < b') → qx sc D 85 26 ls st u bb σ Q) := r_ic_ge (off := 17) (t := 26) (by decide +kernel)
theorem k85_12 : qx sc D 85 12 [vr a, l1, l2] st u bb σ Q ↔ qx sc D 85 13 [vr a, l1, l2] (vr a :: st) u bb σ Q := r_aload_n (k := 0) (by decide +kernel) rfl
theorem k85_13 : qx sc D 85 13 [l0, l1, vi x] st u bb σ Q ↔ qx sc D 85 14 [l0, l1, vi x] (vi x :: st) u bb σ Q := r_iload_n (k := 2) (by decide +kernel) rfl
theorem k85_14 : qx sc (D + 1) 85 14 ls [vi x0, vr 5] (0, 0) bb σ Q ↔ qx sc D 80 0 [vr 5, vi x0] [] (0, 0) bb σ (q_kn sc (D + 1) 85 17 ls [] (0, 0) Q) := r_callv (idx := 37) (n := 1) (m := 2) (by decide +kernel) rfl (Nat.le_of_ble_eq_true rfl) ⟨Nat.le_of_ble_eq_true rfl, Nat.le_of_ble_eq_true rfl, rfl⟩ rfl
theorem k85_17 : qx sc D 85 17 ls (vi x :: st) u bb σ Q ↔ (x = 0 → qx sc D 85 26 ls st u bb σ Q) ∧ (¬ (x = 0) → qx sc D 85 20 ls st u bb σ Q) := r_if_eq (off := 9) (t := 26) (by decide +kernel)
theorem k85_20 : qx sc D 85 20 [l0, l1, vi x] st u bb σ Q ↔ q_R (x + 1) ∧ qx sc D 85 23 [l0, l1, vi (x + 1)] st u bb σ Q := r_iinc (k := 2) (n := 1) (by decide +kernel) rfl
theorem k85_23 : qx sc D 85 23 ls st u bb σ Q ↔ qx sc D 85 4 ls st u bb σ Q := r_goto (off := (-19)) (by decide +kernel)
theorem k85_26 : qx sc D 85 26 [vr a, l1, l2] st u bb σ Q ↔ qx sc D 85 27 [vr a, l1, l2] (vr a :: st) u bb σ Q := r_aload_n (k := 0) (by decide +kernel) rfl
theorem k85_27 : qx sc D 85 27 [l0, l1, vi x] st u bb σ Q ↔ qx sc D 85 28 [l0, l1, vi x] (vi x :: st) u bb σ Q := r_iload_n (k := 2) (by decide +kernel) rfl
theorem k85_28 : qx sc D 85 28 [l0, vi x, l2] st u bb σ Q ↔ qx sc D 85 29 [l0, vi x, l2] (vi x :: st) u bb σ Q := r_iload_n (k := 1) (by decide +kernel) rfl
theorem k85_29 : qx sc D 85 29 ls (vi b' :: vi a' :: st) u bb σ Q ↔ q_R (a' - b') ∧ qx sc D 85 30 ls (vi (a' - b') :: st) u bb σ Q := r_isub (by decide +kernel)
theorem k85_30 : qx sc D 85 30 ls st u bb σ Q ↔ qx sc D 85 31 ls (vi 1 :: st) u bb σ Q := r_iconst (by decide +kernel)
theorem k85_31 : qx sc D 85 31 ls (vi b' :: vi a' :: st) u bb σ Q ↔ (a' = b' → qx sc D 85 34 ls st u bb σ Q) ∧ (¬ (a' = b') → qx sc D 85 43 ls st u bb σ Q) := r_ic_ne (off := 12) (t := 43) (by decide +kernel)
theorem k85_34 : qx sc D 85 34 [vr a, l1, l2] st u bb σ Q ↔ qx sc D 85 35 [vr a, l1, l2] (vr a :: st) u bb σ Q := r_aload_n (k := 0) (by decide +kernel) rfl
theorem k85_35 : qx sc D 85 35 ls (vr 5 :: st) u bb σ Q ↔ qx sc D 85 38 ls (vr 1 :: st) u bb σ Q := r_getR (idx := 21) (c := 12) (k := 0) (by decide +kernel)
theorem k85_38 : qx sc D 85 38 [l0, vi x, l2] st u bb σ Q ↔ qx sc D 85 39 [l0, vi x, l2] (vi x :: st) u bb σ Q := r_iload_n (k := 1) (by decide +kernel) rfl
theorem k85_39 : qx sc D 85 39 ls (vi i :: vr a :: st) u bb σ Q ↔ (q_ty a = 0 ∧ 0 ≤ i ∧ i < q_ln a) ∧ qx sc D 85 40 ls (vi (σ a i) :: st) u bb σ Q := r_iald (by decide +kernel)
theorem k85_40 : qx sc D 85 40 ls st u bb σ Q ↔ qx sc D 85 51 ls st u bb σ Q := r_goto (off := 11) (by decide +kernel)
theorem k85_43 : qx sc D 85 43 [vr a, l1, l2] st u bb σ Q ↔ qx sc D 85 44 [vr a, l1, l2] (vr a :: st) u bb σ Q := r_aload_n (k := 0) (by decide +kernel) rfl
theorem k85_44 : qx sc D 85 44 [l0, vi x, l2] st u bb σ Q ↔ qx sc D 85 45 [l0, vi x, l2] (vi x :: st) u bb σ Q := r_iload_n (k := 1) (by decide +kernel) rfl
theorem k85_45 : qx sc D 85 45 [l0, l1, vi x] st u bb σ Q ↔ qx sc D 85 46 [l0, l1, vi x] (vi x :: st) u bb σ Q := r_iload_n (k := 2) (by decide +kernel) rfl
theorem k85_46 : qx sc D 85 46 [l0, vi x, l2] st u bb σ Q ↔ qx sc D 85 47 [l0, vi x, l2] (vi x :: st) u bb σ Q := r_iload_n (k := 1) (by decide +kernel) rfl
theorem k85_47 : qx sc D 85 47 ls (vi b' :: vi a' :: st) u bb σ Q ↔ q_R (a' - b') ∧ qx sc D 85 48 ls (vi (a' - b') :: st) u bb σ Q := r_isub (by decide +kernel)
theorem k85_48 : qx sc (D + 1) 85 48 ls [vi x1, vi x0, vr 5, vr a20] (0, 0) bb σ Q ↔ qx sc D 86 0 [vr 5, vi x0, vi x1] [] (0, 0) bb σ (q_kn sc (D + 1) 85 51 ls [vr a20] (0, 0) Q) := r_callv (idx := 58) (n := 2) (m := 3) (by decide +kernel) rfl (Nat.le_of_ble_eq_true rfl) ⟨Nat.le_of_ble_eq_true rfl, Nat.le_of_ble_eq_true rfl, rfl⟩ rfl
theorem k85_51 : qx sc D 85 51 [l0, vi x, l2] st u bb σ Q ↔ qx sc D 85 52 [l0, vi x, l2] (vi x :: st) u bb σ Q := r_iload_n (k := 1) (by decide +kernel) rfl
theorem k85_52 : qx sc D 85 52 ls st u bb σ Q ↔ qx sc D 85 53 ls (vi 0 :: st) u bb σ Q := r_iconst (by decide +kernel)
theorem k85_53 : qx sc (D + 1) 85 53 ls [vi x2, vi x1, vi x0, vr 5] (0, 0) bb σ Q ↔ qx sc D 83 0 [vr 5, vi x0, vi x1, vi x2] [] (0, 0) bb σ (q_kn sc (D + 1) 85 56 ls [] (0, 0) Q) := r_callv (idx := 51) (n := 3) (m := 4) (by decide +kernel) rfl (Nat.le_of_ble_eq_true rfl) ⟨Nat.le_of_ble_eq_true rfl, Nat.le_of_ble_eq_true rfl, rfl⟩ rfl
theorem k85_56 : qx sc D 85 56 [l0, l1, vi x] st u bb σ Q ↔ qx sc D 85 57 [l0, l1, vi x] (vi x :: st) u bb σ Q := r_iload_n (k := 2) (by decide +kernel) rfl
theorem k85_57 : qx sc D 85 57 ls [vi x] (0, 0) bb σ Q ↔ Q (.inl (some (vi x))) bb σ := r_ret (by decide +kernel)
-- 86: RowProver$Tokens.wordKind(II)I
theorem k86_0 : qx sc D 86 0 [vr a, l1, l2] st u bb σ Q ↔ qx sc D 86 1 [vr a, l1, l2] (vr a :: st) u bb σ Q := r_aload_n (k := 0) (by decide +kernel) rfl
theorem k86_1 : qx sc D 86 1 ls st u bb σ Q ↔ qx sc D 86 3 ls (vr (q_tr 0) :: st) u bb σ Q := r_ldcS (idx := 61) (by decide +kernel)
theorem k86_3 : qx sc D 86 3 [l0, vi x, l2] st u bb σ Q ↔ qx sc D 86 4 [l0, vi x, l2] (vi x :: st) u bb σ Q := r_iload_n (k := 1) (by decide +kernel) rfl
theorem k86_4 : qx sc D 86 4 [l0, l1, vi x] st u bb σ Q ↔ qx sc D 86 5 [l0, l1, vi x] (vi x :: st) u bb σ Q := r_iload_n (k := 2) (by decide +kernel) rfl
theorem k86_5 : qx sc (D + 1) 86 5 ls [vi x2, vi x1, vr a0, vr 5] (0, 0) bb σ Q ↔ qx sc D 81 0 [vr 5, vr a0, vi x1, vi x2, vn] [] (0, 0) bb σ (q_kn sc (D + 1) 86 8 ls [] (0, 0) Q) := r_callv (idx := 63) (n := 3) (m := 5) (by decide +kernel) rfl (Nat.le_of_ble_eq_true rfl) ⟨Nat.le_of_ble_eq_true rfl, Nat.le_of_ble_eq_true rfl, rfl⟩ rfl
theorem k86_8 : qx sc D 86 8 ls (vi x :: st) u bb σ Q ↔ (x = 0 → qx sc D 86 15 ls st u bb σ Q) ∧ (¬ (x = 0) → qx sc D 86 11 ls st u bb σ Q) := r_if_eq (off := 7) (t := 15) (by decide +kernel)
theorem k86_11 : qx sc D 86 11 ls st u bb σ Q ↔ qx sc D 86 14 ls (vi 256 :: st) u bb σ Q := r_sipush (by decide +kernel)
theorem k86_14 : qx sc D 86 14 ls [vi x] (0, 0) bb σ Q ↔ Q (.inl (some (vi x))) bb σ := r_ret (by decide +kernel)
theorem k86_15 : qx sc D 86 15 [vr a, l1, l2] st u bb σ Q ↔ qx sc D 86 16 [vr a, l1, l2] (vr a :: st) u bb σ Q := r_aload_n (k := 0) (by decide +kernel) rfl
theorem k86_16 : qx sc D 86 16 ls st u bb σ Q ↔ qx sc D 86 18 ls (vr (q_tr 1) :: st) u bb σ Q := r_ldcS (idx := 67) (by decide +kernel)
theorem k86_18 : qx sc D 86 18 [l0, vi x, l2] st u bb σ Q ↔ qx sc D 86 19 [l0, vi x, l2] (vi x :: st) u bb σ Q := r_iload_n (k := 1) (by decide +kernel) rfl
theorem k86_19 : qx sc D 86 19 [l0, l1, vi x] st u bb σ Q ↔ qx sc D 86 20 [l0, l1, vi x] (vi x :: st) u bb σ Q := r_iload_n (k := 2) (by decide +kernel) rfl
theorem k86_20 : qx sc (D + 1) 86 20 ls [vi x2, vi x1, vr a0, vr 5] (0, 0) bb σ Q ↔ qx sc D 81 0 [vr 5, vr a0, vi x1, vi x2, vn] [] (0, 0) bb σ (q_kn sc (D + 1) 86 23 ls [] (0, 0) Q) := r_callv (idx := 63) (n := 3) (m := 5) (by decide +kernel) rfl (Nat.le_of_ble_eq_true rfl) ⟨Nat.le_of_ble_eq_true rfl, Nat.le_of_ble_eq_true rfl, rfl⟩ rfl
theorem k86_23 : qx sc D 86 23 ls (vi x :: st) u bb σ Q ↔ (x = 0 → qx sc D 86 30 ls st u bb σ Q) ∧ (¬ (x = 0) → qx sc D 86 26 ls st u bb σ Q) := r_if_eq (off := 7) (t := 30) (by decide +kernel)
theorem k86_26 : qx sc D 86 26 ls st u bb σ Q ↔ qx sc D 86 29 ls (vi 257 :: st) u bb σ Q := r_sipush (by decide +kernel)
theorem k86_29 : qx sc D 86 29 ls [vi x] (0, 0) bb σ Q ↔ Q (.inl (some (vi x))) bb σ := r_ret (by decide +kernel)
theorem k86_30 : qx sc D 86 30 [vr a, l1, l2] st u bb σ Q ↔ qx sc D 86 31 [vr a, l1, l2] (vr a :: st) u bb σ Q := r_aload_n (k := 0) (by decide +kernel) rfl
theorem k86_31 : qx sc D 86 31 ls st u bb σ Q ↔ qx sc D 86 33 ls (vr (q_tr 2) :: st) u bb σ Q := r_ldcS (idx := 69) (by decide +kernel)
theorem k86_33 : qx sc D 86 33 [l0, vi x, l2] st u bb σ Q ↔ qx sc D 86 34 [l0, vi x, l2] (vi x :: st) u bb σ Q := r_iload_n (k := 1) (by decide +kernel) rfl
theorem k86_34 : qx sc D 86 34 [l0, l1, vi x] st u bb σ Q ↔ qx sc D 86 35 [l0, l1, vi x] (vi x :: st) u bb σ Q := r_iload_n (k := 2) (by decide +kernel) rfl
theorem k86_35 : qx sc (D + 1) 86 35 ls [vi x2, vi x1, vr a0, vr 5] (0, 0) bb σ Q ↔ qx sc D 81 0 [vr 5, vr a0, vi x1, vi x2, vn] [] (0, 0) bb σ (q_kn sc (D + 1) 86 38 ls [] (0, 0) Q) := r_callv (idx := 63) (n := 3) (m := 5) (by decide +kernel) rfl (Nat.le_of_ble_eq_true rfl) ⟨Nat.le_of_ble_eq_true rfl, Nat.le_of_ble_eq_true rfl, rfl⟩ rfl
theorem k86_38 : qx sc D 86 38 ls (vi x :: st) u bb σ Q ↔ (x = 0 → qx sc D 86 45 ls st u bb σ Q) ∧ (¬ (x = 0) → qx sc D 86 41 ls st u bb σ Q) := r_if_eq (off := 7) (t := 45) (by decide +kernel)
theorem k86_41 : qx sc D 86 41 ls st u bb σ Q ↔ qx sc D 86 44 ls (vi 258 :: st) u bb σ Q := r_sipush (by decide +kernel)
theorem k86_44 : qx sc D 86 44 ls [vi x] (0, 0) bb σ Q ↔ Q (.inl (some (vi x))) bb σ := r_ret (by decide +kernel)
theorem k86_45 : qx sc D 86 45 [vr a, l1, l2] st u bb σ Q ↔ qx sc D 86 46 [vr a, l1, l2] (vr a :: st) u bb σ Q := r_aload_n (k := 0) (by decide +kernel) rfl
theorem k86_46 : qx sc D 86 46 ls st u bb σ Q ↔ qx sc D 86 48 ls (vr (q_tr 3) :: st) u bb σ Q := r_ldcS (idx := 71) (by decide +kernel)
theorem k86_48 : qx sc D 86 48 [l0, vi x, l2] st u bb σ Q ↔ qx sc D 86 49 [l0, vi x, l2] (vi x :: st) u bb σ Q := r_iload_n (k := 1) (by decide +kernel) rfl
theorem k86_49 : qx sc D 86 49 [l0, l1, vi x] st u bb σ Q ↔ qx sc D 86 50 [l0, l1, vi x] (vi x :: st) u bb σ Q := r_iload_n (k := 2) (by decide +kernel) rfl
theorem k86_50 : qx sc (D + 1) 86 50 ls [vi x2, vi x1, vr a0, vr 5] (0, 0) bb σ Q ↔ qx sc D 81 0 [vr 5, vr a0, vi x1, vi x2, vn] [] (0, 0) bb σ (q_kn sc (D + 1) 86 53 ls [] (0, 0) Q) := r_callv (idx := 63) (n := 3) (m := 5) (by decide +kernel) rfl (Nat.le_of_ble_eq_true rfl) ⟨Nat.le_of_ble_eq_true rfl, Nat.le_of_ble_eq_true rfl, rfl⟩ rfl
theorem k86_53 : qx sc D 86 53 ls (vi x :: st) u bb σ Q ↔ (x = 0 → qx sc D 86 60 ls st u bb σ Q) ∧ (¬ (x = 0) → qx sc D 86 56 ls st u bb σ Q) := r_if_eq (off := 7) (t := 60) (by decide +kernel)
theorem k86_56 : qx sc D 86 56 ls st u bb σ Q ↔ qx sc D 86 59 ls (vi 259 :: st) u bb σ Q := r_sipush (by decide +kernel)
theorem k86_59 : qx sc D 86 59 ls [vi x] (0, 0) bb σ Q ↔ Q (.inl (some (vi x))) bb σ := r_ret (by decide +kernel)
theorem k86_60 : qx sc D 86 60 [vr a, l1, l2] st u bb σ Q ↔ qx sc D 86 61 [vr a, l1, l2] (vr a :: st) u bb σ Q := r_aload_n (k := 0) (by decide +kernel) rfl
theorem k86_61 : qx sc D 86 61 ls st u bb σ Q ↔ qx sc D 86 63 ls (vr (q_tr 4) :: st) u bb σ Q := r_ldcS (idx := 73) (by decide +kernel)
theorem k86_63 : qx sc D 86 63 [l0, vi x, l2] st u bb σ Q ↔ qx sc D 86 64 [l0, vi x, l2] (vi x :: st) u bb σ Q := r_iload_n (k := 1) (by decide +kernel) rfl
theorem k86_64 : qx sc D 86 64 [l0, l1, vi x] st u bb σ Q ↔ qx sc D 86 65 [l0, l1, vi x] (vi x :: st) u bb σ Q := r_iload_n (k := 2) (by decide +kernel) rfl
theorem k86_65 : qx sc (D + 1) 86 65 ls [vi x2, vi x1, vr a0, vr 5] (0, 0) bb σ Q ↔ qx sc D 81 0 [vr 5, vr a0, vi x1, vi x2, vn] [] (0, 0) bb σ (q_kn sc (D + 1) 86 68 ls [] (0, 0) Q) := r_callv (idx := 63) (n := 3) (m := 5) (by decide +kernel) rfl (Nat.le_of_ble_eq_true rfl) ⟨Nat.le_of_ble_eq_true rfl, Nat.le_of_ble_eq_true rfl, rfl⟩ rfl
theorem k86_68 : qx sc D 86 68 ls (vi x :: st) u bb σ Q ↔ (x = 0 → qx sc D 86 75 ls st u bb σ Q) ∧ (¬ (x = 0) → qx sc D 86 71 ls st u bb σ Q) := r_if_eq (off := 7) (t := 75) (by decide +kernel)
theorem k86_71 : qx sc D 86 71 ls st u bb σ Q ↔ qx sc D 86 74 ls (vi 260 :: st) u bb σ Q := r_sipush (by decide +kernel)
theorem k86_74 : qx sc D 86 74 ls [vi x] (0, 0) bb σ Q ↔ Q (.inl (some (vi x))) bb σ := r_ret (by decide +kernel)
theorem k86_75 : qx sc D 86 75 [vr a, l1, l2] st u bb σ Q ↔ qx sc D 86 76 [vr a, l1, l2] (vr a :: st) u bb σ Q := r_aload_n (k := 0) (by decide +kernel) rfl
theorem k86_76 : qx sc D 86 76 ls st u bb σ Q ↔ qx sc D 86 78 ls (vr (q_tr 5) :: st) u bb σ Q := r_ldcS (idx := 75) (by decide +kernel)
theorem k86_78 : qx sc D 86 78 [l0, vi x, l2] st u bb σ Q ↔ qx sc D 86 79 [l0, vi x, l2] (vi x :: st) u bb σ Q := r_iload_n (k := 1) (by decide +kernel) rfl
theorem k86_79 : qx sc D 86 79 [l0, l1, vi x] st u bb σ Q ↔ qx sc D 86 80 [l0, l1, vi x] (vi x :: st) u bb σ Q := r_iload_n (k := 2) (by decide +kernel) rfl
theorem k86_80 : qx sc (D + 1) 86 80 ls [vi x2, vi x1, vr a0, vr 5] (0, 0) bb σ Q ↔ qx sc D 81 0 [vr 5, vr a0, vi x1, vi x2, vn] [] (0, 0) bb σ (q_kn sc (D + 1) 86 83 ls [] (0, 0) Q) := r_callv (idx := 63) (n := 3) (m := 5) (by decide +kernel) rfl (Nat.le_of_ble_eq_true rfl) ⟨Nat.le_of_ble_eq_true rfl, Nat.le_of_ble_eq_true rfl, rfl⟩ rfl
theorem k86_83 : qx sc D 86 83 ls (vi x :: st) u bb σ Q ↔ (x = 0 → qx sc D 86 92 ls st u bb σ Q) ∧ (¬ (x = 0) → qx sc D 86 86 ls st u bb σ Q) := r_if_eq (off := 9) (t := 92) (by decide +kernel)
theorem k86_86 : qx sc D 86 86 ls st u bb σ Q ↔ qx sc D 86 89 ls (vi 261 :: st) u bb σ Q := r_sipush (by decide +kernel)
theorem k86_89 : qx sc D 86 89 ls st u bb σ Q ↔ qx sc D 86 95 ls st u bb σ Q := r_goto (off := 6) (by decide +kernel)
theorem k86_92 : qx sc D 86 92 ls st u bb σ Q ↔ qx sc D 86 95 ls (vi 264 :: st) u bb σ Q := r_sipush (by decide +kernel)
theorem k86_95 : qx sc D 86 95 ls [vi x] (0, 0) bb σ Q ↔ Q (.inl (some (vi x))) bb σ := r_ret (by decide +kernel)
-- 39: RowProver$Reader.assignment()Z
theorem k39_0 : qx sc D 39 0 [vr a, l1, l2] st u bb σ Q ↔ qx sc D 39 1 [vr a, l1, l2] (vr a :: st) u bb σ Q := r_aload_n (k := 0) (by decide +kernel) rfl
theorem k39_1 : qx sc (D + 1) 39 1 ls [vr 4] (0, 0) bb σ Q ↔ qx sc D 57 0 [vr 4, vn] [] (0, 0) bb σ (q_kn sc (D + 1) 39 4 ls [] (0, 0) Q) := r_callv (idx := 88) (n := 0) (m := 2) (by decide +kernel) rfl (Nat.le_of_ble_eq_true rfl) ⟨Nat.le_of_ble_eq_true rfl, Nat.le_of_ble_eq_true rfl, rfl⟩ rfl
theorem k39_4 : qx sc D 39 4 [l0, l1, l2] (vi x :: st) u bb σ Q ↔ qx sc D 39 5 [l0, vi x, l2] st u bb σ Q := r_istore_n (k := 1) (by decide +kernel) (Nat.le_of_ble_eq_true rfl)
theorem k39_5 : qx sc D 39 5 [l0, vi x, l2] st u bb σ Q ↔ qx sc D 39 6 [l0, vi x, l2] (vi x :: st) u bb σ Q := r_iload_n (k := 1) (by decide +kernel) rfl
theorem k39_6 : qx sc D 39 6 ls st u bb σ Q ↔ qx sc D 39 7 ls (vi (-1) :: st) u bb σ Q := r_iconst (by decide +kernel)
theorem k39_7 : qx sc D 39 7 ls (vi b' :: vi a' :: st) u bb σ Q ↔ (a' = b' → qx sc D 39 10 ls st u bb σ Q) ∧ (¬ (a' = b') → qx sc D 39 12 ls st u bb σ Q) := r_ic_ne (off := 5) (t := 12) (by decide +kernel)
theorem k39_10 : qx sc D 39 10 ls st u bb σ Q ↔ qx sc D 39 11 ls (vi 0 :: st) u bb σ Q := r_iconst (by decide +kernel)
theorem k39_11 : qx sc D 39 11 ls [vi x] (0, 0) bb σ Q ↔ (x = 0 ∨ x = 1) ∧ Q (.inl (some (vi x))) bb σ := r_retB (by decide +kernel)
theorem k39_12 : qx sc D 39 12 [vr a, l1, l2] st u bb σ Q ↔ qx sc D 39 13 [vr a, l1, l2] (vr a :: st) u bb σ Q := r_aload_n (k := 0) (by decide +kernel) rfl
theorem k39_13 : qx sc D 39 13 ls (vr 4 :: st) u bb σ Q ↔ 0 ≤ σ 4 3 ∧ qx sc D 39 16 ls (vr (σ 4 3).toNat :: st) u bb σ Q := r_getM (idx := 24) (c := 9) (k := 3) (by decide +kernel)
theorem k39_16 : qx sc D 39 16 ls st u bb σ Q ↔ qx sc D 39 17 ls (vi 0 :: st) u bb σ Q := r_iconst (by decide +kernel)
theorem k39_17 : qx sc D 39 17 [vr a, l1, l2] st u bb σ Q ↔ qx sc D 39 18 [vr a, l1, l2] (vr a :: st) u bb σ Q := r_aload_n (k := 0) (by decide +kernel) rfl
theorem k39_18 : qx sc D 39 18 ls (vr 4 :: st) u bb σ Q ↔ qx sc D 39 21 ls (vi (σ 4 2) :: st) u bb σ Q := r_getI (idx := 37) (c := 9) (k := 2) (by decide +kernel)
theorem k39_21 (hc : q_C c) : qx sc (D + 1) 39 21 ls [vi x1, vi x0, vr c] (0, 0) bb σ Q ↔ qx sc D 12 0 [vr c, vi x0, vi x1, vn] [] (0, 0) bb σ (q_kn sc (D + 1) 39 24 ls [] (0, 0) Q) := r_callc (idx := 92) (n := 2) (m := 4) (by decide +kernel) hc rfl (Nat.le_of_ble_eq_true rfl) ⟨Nat.le_of_ble_eq_true rfl, Nat.le_of_ble_eq_true rfl, rfl⟩ rfl
theorem k39_24 : qx sc D 39 24 [l0, l1, l2] (vi x :: st) u bb σ Q ↔ qx sc D 39 25 [l0, l1, vi x] st u bb σ Q := r_istore_n (k := 2) (by decide +kernel) (Nat.le_of_ble_eq_true rfl)
theorem k39_25 : qx sc D 39 25 [vr a, l1, l2] st u bb σ Q ↔ qx sc D 39 26 [vr a, l1, l2] (vr a :: st) u bb σ Q := r_aload_n (k := 0) (by decide +kernel) rfl
theorem k39_26 : qx sc D 39 26 ls (vr 4 :: st) u bb σ Q ↔ 0 ≤ σ 4 3 ∧ qx sc D 39 29 ls (vr (σ 4 3).toNat :: st) u bb σ Q := r_getM (idx := 24) (c := 9) (k := 3) (by decide +kernel)
theorem k39_29 (hc : q_C c) : qx sc D 39 29 ls (vr c :: st) u bb σ Q ↔ qx sc D 39 32 ls (vr (c + 3) :: st) u bb σ Q := r_getRc (idx := 96) (k := 5) (by decide +kernel) hc
theorem k39_32 : qx sc D 39 32 [l0, l1, vi x] st u bb σ Q ↔ qx sc D 39 33 [l0, l1, vi x] (vi x :: st) u bb σ Q := r_iload_n (k := 2) (by decide +kernel) rfl
theorem k39_33 : qx sc D 39 33 [l0, vi x, l2] st u bb σ Q ↔ qx sc D 39 34 [l0, vi x, l2] (vi x :: st) u bb σ Q := r_iload_n (k := 1) (by decide +kernel) rfl
theorem k39_34 : qx sc D 39 34 ls (vi x :: vi i :: vr a :: st) u bb σ Q ↔ (q_ty a = 0 ∧ 0 ≤ i ∧ i < q_ln a) ∧ qx sc D 39 35 ls st u bb (q_up σ a i x) Q := r_iast (by decide +kernel)
theorem k39_35 : qx sc D 39 35 [vr a, l1, l2] st u bb σ Q ↔ qx sc D 39 36 [vr a, l1, l2] (vr a :: st) u bb σ Q := r_aload_n (k := 0) (by decide +kernel) rfl
theorem k39_36 : qx sc D 39 36 ls st u bb σ Q ↔ qx sc D 39 38 ls (vi 61 :: st) u bb σ Q := r_bipush (by decide +kernel)
theorem k39_38 : qx sc (D + 1) 39 38 ls [vi x0, vr 4] (0, 0) bb σ Q ↔ qx sc D 51 0 [vr 4, vi x0] [] (0, 0) bb σ (q_kn sc (D + 1) 39 41 ls [] (0, 0) Q) := r_callv (idx := 64) (n := 1) (m := 2) (by decide +kernel) rfl (Nat.le_of_ble_eq_true rfl) ⟨Nat.le_of_ble_eq_true rfl, Nat.le_of_ble_eq_true rfl, rfl⟩ rfl
theorem k39_41 : qx sc D 39 41 ls (vi x :: st) u bb σ Q ↔ (x = 0 → qx sc D 39 65 ls st u bb σ Q) ∧ (¬ (x = 0) → qx sc D 39 44 ls st u bb σ Q) := r_if_eq (off := 24) (t := 65) (by decide +kernel)
theorem k39_44 : qx sc D 39 44 [vr a, l1, l2] st u bb σ Q ↔ qx sc D 39 45 [vr a, l1, l2] (vr a :: st) u bb σ Q := r_aload_n (k := 0) (by decide +kernel) rfl
theorem k39_45 : qx sc D 39 45 [l0, l1, vi x] st u bb σ Q ↔ qx sc D 39 46 [l0, l1, vi x] (vi x :: st) u bb σ Q := r_iload_n (k := 2) (by decide +kernel) rfl
theorem k39_46 : qx sc (D + 1) 39 46 ls [vi x0, vr 4] (0, 0) bb σ Q ↔ qx sc D 56 0 [vr 4, vi x0] [] (0, 0) bb σ (q_kn sc (D + 1) 39 49 ls [] (0, 0) Q) := r_callv (idx := 98) (n := 1) (m := 2) (by decide +kernel) rfl (Nat.le_of_ble_eq_true rfl) ⟨Nat.le_of_ble_eq_true rfl, Nat.le_of_ble_eq_true rfl, rfl⟩ rfl
theorem k39_49 : qx sc D 39 49 ls (vi x :: st) u bb σ Q ↔ (x = 0 → qx sc D 39 65 ls st u bb σ Q) ∧ (¬ (x = 0) → qx sc D 39 52 ls st u bb σ Q) := r_if_eq (off := 16) (t := 65) (by decide +kernel)
theorem k39_52 : qx sc D 39 52 [vr a, l1, l2] st u bb σ Q ↔ qx sc D 39 53 [vr a, l1, l2] (vr a :: st) u bb σ Q := r_aload_n (k := 0) (by decide +kernel) rfl
theorem k39_53 : qx sc D 39 53 ls st u bb σ Q ↔ qx sc D 39 55 ls (vi 59 :: st) u bb σ Q := r_bipush (by decide +kernel)
theorem k39_55 : qx sc (D + 1) 39 55 ls [vi x0, vr 4] (0, 0) bb σ Q ↔ qx sc D 51 0 [vr 4, vi x0] [] (0, 0) bb σ (q_kn sc (D + 1) 39 58 ls [] (0, 0) Q) := r_callv (idx := 64) (n := 1) (m := 2) (by decide +kernel) rfl (Nat.le_of_ble_eq_true rfl) ⟨Nat.le_of_ble_eq_true rfl, Nat.le_of_ble_eq_true rfl, rfl⟩ rfl
theorem k39_58 : qx sc D 39 58 ls (vi x :: st) u bb σ Q ↔ (x = 0 → qx sc D 39 65 ls st u bb σ Q) ∧ (¬ (x = 0) → qx sc D 39 61 ls st u bb σ Q) := r_if_eq (off := 7) (t := 65) (by decide +kernel)
theorem k39_61 : qx sc D 39 61 ls st u bb σ Q ↔ qx sc D 39 62 ls (vi 1 :: st) u bb σ Q := r_iconst (by decide +kernel)
theorem k39_62 : qx sc D 39 62 ls st u bb σ Q ↔ qx sc D 39 66 ls st u bb σ Q := r_goto (off := 4) (by decide +kernel)
theorem k39_65 : qx sc D 39 65 ls st u bb σ Q ↔ qx sc D 39 66 ls (vi 0 :: st) u bb σ Q := r_iconst (by decide +kernel)
theorem k39_66 : qx sc D 39 66 ls [vi x] (0, 0) bb σ Q ↔ (x = 0 ∨ x = 1) ∧ Q (.inl (some (vi x))) bb σ := r_retB (by decide +kernel)
-- 40: RowProver$Reader.block(I)Z
theorem k40_0 : qx sc D 40 0 [l0, vi x] st u bb σ Q ↔ qx sc D 40 1 [l0, vi x] (vi x :: st) u bb σ Q := r_iload_n (k := 1) (by decide +kernel) rfl
theorem k40_1 : qx sc D 40 1 ls st u bb σ Q ↔ qx sc D 40 2 ls (vi 5 :: st) u bb σ Q := r_iconst (by decide +kernel)
theorem k40_2 : qx sc D 40 2 ls (vi b' :: vi a' :: st) u bb σ Q ↔ (a' < b' → qx sc D 40 5 ls st u bb σ Q) ∧ (¬ (a' < b') → qx sc D 40 37 ls st u bb σ Q) := r_ic_ge (off := 35) (t := 37) (by decide +kernel)
theorem k40_5 : qx sc D 40 5 [vr a, l1] st u bb σ Q ↔ qx sc D 40 6 [vr a, l1] (vr a :: st) u bb σ Q := r_aload_n (k := 0) (by decide +kernel) rfl
theorem k40_6 : qx sc D 40 6 ls st u bb σ Q ↔ qx sc D 40 8 ls (vi 123 :: st) u bb σ Q := r_bipush (by decide +kernel)
theorem k40_8 : qx sc (D + 1) 40 8 ls [vi x0, vr 4] (0, 0) bb σ Q ↔ qx sc D 51 0 [vr 4, vi x0] [] (0, 0) bb σ (q_kn sc (D + 1) 40 11 ls [] (0, 0) Q) := r_callv (idx := 64) (n := 1) (m := 2) (by decide +kernel) rfl (Nat.le_of_ble_eq_true rfl) ⟨Nat.le_of_ble_eq_true rfl, Nat.le_of_ble_eq_true rfl, rfl⟩ rfl
theorem k40_11 : qx sc D 40 11 ls (vi x :: st) u bb σ Q ↔ (x = 0 → qx sc D 40 37 ls st u bb σ Q) ∧ (¬ (x = 0) → qx sc D 40 14 ls st u bb σ Q) := r_if_eq (off := 26) (t := 37) (by decide +kernel)
theorem k40_14 : qx sc D 40 14 [vr a, l1] st u bb σ Q ↔ qx sc D 40 15 [vr a, l1] (vr a :: st) u bb σ Q := r_aload_n (k := 0) (by decide +kernel) rfl
theorem k40_15 : qx sc D 40 15 [l0, vi x] st u bb σ Q ↔ qx sc D 40 16 [l0, vi x] (vi x :: st) u bb σ Q := r_iload_n (k := 1) (by decide +kernel) rfl
theorem k40_16 : qx sc D 40 16 ls st u bb σ Q ↔ qx sc D 40 17 ls (vi 1 :: st) u bb σ Q := r_iconst (by decide +kernel)
theorem k40_17 : qx sc D 40 17 ls (vi b' :: vi a' :: st) u bb σ Q ↔ q_R (a' + b') ∧ qx sc D 40 18 ls (vi (a' + b') :: st) u bb σ Q := r_iadd (by decide +kernel)
theorem k40_18 : qx sc (D + 1) 40 18 ls [vi x0, vr 4] (0, 0) bb σ Q ↔ qx sc D 52 0 [vr 4, vi x0, vn, vn, vn] [] (0, 0) bb σ (q_kn sc (D + 1) 40 21 ls [] (0, 0) Q) := r_callv (idx := 44) (n := 1) (m := 5) (by decide +kernel) rfl (Nat.le_of_ble_eq_true rfl) ⟨Nat.le_of_ble_eq_true rfl, Nat.le_of_ble_eq_true rfl, rfl⟩ rfl
theorem k40_21 : qx sc D 40 21 ls (vi x :: st) u bb σ Q ↔ (x = 0 → qx sc D 40 37 ls st u bb σ Q) ∧ (¬ (x = 0) → qx sc D 40 24 ls st u bb σ Q) := r_if_eq (off := 16) (t := 37) (by decide +kernel)
theorem k40_24 : qx sc D 40 24 [vr a, l1] st u bb σ Q ↔ qx sc D 40 25 [vr a, l1] (vr a :: st) u bb σ Q := r_aload_n (k := 0) (by decide +kernel) rfl
theorem k40_25 : qx sc D 40 25 ls st u bb σ Q ↔ qx sc D 40 27 ls (vi 125 :: st) u bb σ Q := r_bipush (by decide +kernel)
theorem k40_27 : qx sc (D + 1) 40 27 ls [vi x0, vr 4] (0, 0) bb σ Q ↔ qx sc D 51 0 [vr 4, vi x0] [] (0, 0) bb σ (q_kn sc (D + 1) 40 30 ls [] (0, 0) Q) := r_callv (idx := 64) (n := 1) (m := 2) (by decide +kernel) rfl (Nat.le_of_ble_eq_true rfl) ⟨Nat.le_of_ble_eq_true rfl, Nat.le_of_ble_eq_true rfl, rfl⟩ rfl
theorem k40_30 : qx sc D 40 30 ls (vi x :: st) u bb σ Q ↔ (x = 0 → qx sc D 40 37 ls st u bb σ Q) ∧ (¬ (x = 0) → qx sc D 40 33 ls st u bb σ Q) := r_if_eq (off := 7) (t := 37) (by decide +kernel)
theorem k40_33 : qx sc D 40 33 ls st u bb σ Q ↔ qx sc D 40 34 ls (vi 1 :: st) u bb σ Q := r_iconst (by decide +kernel)
theorem k40_34 : qx sc D 40 34 ls st u bb σ Q ↔ qx sc D 40 38 ls st u bb σ Q := r_goto (off := 4) (by decide +kernel)
theorem k40_37 : qx sc D 40 37 ls st u bb σ Q ↔ qx sc D 40 38 ls (vi 0 :: st) u bb σ Q := r_iconst (by decide +kernel)
theorem k40_38 : qx sc D 40 38 ls [vi x] (0, 0) bb σ Q ↔ (x = 0 ∨ x = 1) ∧ Q (.inl (some (vi x))) bb σ := r_retB (by decide +kernel)
-- 41: RowProver$Reader.branch(I)Z
theorem k41_0 : qx sc D 41 0 [vr a, l1, l2] st u bb σ Q ↔ qx sc D 41 1 [vr a, l1, l2] (vr a :: st) u bb σ Q := r_aload_n (k := 0) (by decide +kernel) rfl
theorem k41_1 : qx sc D 41 1 ls (vr 4 :: st) u bb σ Q ↔ 0 ≤ σ 4 3 ∧ qx sc D 41 4 ls (vr (σ 4 3).toNat :: st) u bb σ Q := r_getM (idx := 24) (c := 9) (k := 3) (by decide +kernel)
theorem k41_4 : qx sc D 41 4 ls st u bb σ Q ↔ qx sc D 41 5 ls (vi 3 :: st) u bb σ Q := r_iconst (by decide +kernel)
theorem k41_5 : qx sc D 41 5 [vr a, l1, l2] st u bb σ Q ↔ qx sc D 41 6 [vr a, l1, l2] (vr a :: st) u bb σ Q := r_aload_n (k := 0) (by decide +kernel) rfl
theorem k41_6 : qx sc D 41 6 ls (vr 4 :: st) u bb σ Q ↔ qx sc D 41 9 ls (vi (σ 4 2) :: st) u bb σ Q := r_getI (idx := 37) (c := 9) (k := 2) (by decide +kernel)
theorem k41_9 (hc : q_C c) : qx sc (D + 1) 41 9 ls [vi x1, vi x0, vr c] (0, 0) bb σ Q ↔ qx sc D 12 0 [vr c, vi x0, vi x1, vn] [] (0, 0) bb σ (q_kn sc (D + 1) 41 12 ls [] (0, 0) Q) := r_callc (idx := 92) (n := 2) (m := 4) (by decide +kernel) hc rfl (Nat.le_of_ble_eq_true rfl) ⟨Nat.le_of_ble_eq_true rfl, Nat.le_of_ble_eq_true rfl, rfl⟩ rfl
theorem k41_12 : qx sc D 41 12 [l0, l1, l2] (vi x :: st) u bb σ Q ↔ qx sc D 41 13 [l0, l1, vi x] st u bb σ Q := r_istore_n (k := 2) (by decide +kernel) (Nat.le_of_ble_eq_true rfl)
theorem k41_13 : qx sc D 41 13 [vr a, l1, l2] st u bb σ Q ↔ qx sc D 41 14 [vr a, l1, l2] (vr a :: st) u bb σ Q := r_aload_n (k := 0) (by decide +kernel) rfl
theorem k41_14 : qx sc D 41 14 ls (vr a :: st) u bb σ Q ↔ qx sc D 41 15 ls (vr a :: vr a :: st) u bb σ Q := r_dupA (by decide +kernel)
theorem k41_15 : qx sc D 41 15 ls (vr 4 :: st) u bb σ Q ↔ qx sc D 41 18 ls (vi (σ 4 1) :: st) u bb σ Q := r_getI (idx := 33) (c := 9) (k := 1) (by decide +kernel)
theorem k41_18 : qx sc D 41 18 ls st u bb σ Q ↔ qx sc D 41 19 ls (vi 1 :: st) u bb σ Q := r_iconst (by decide +kernel)
theorem k41_19 : qx sc D 41 19 ls (vi b' :: vi a' :: st) u bb σ Q ↔ q_R (a' + b') ∧ qx sc D 41 20 ls (vi (a' + b') :: st) u bb σ Q := r_iadd (by decide +kernel)
theorem k41_20 : qx sc D 41 20 ls (vi x :: vr 4 :: st) u bb σ Q ↔ qx sc D 41 23 ls st u bb (q_up σ 4 1 x) Q := r_putI (idx := 33) (c := 9) (k := 1) (by decide +kernel)
theorem k41_23 : qx sc D 41 23 [vr a, l1, l2] st u bb σ Q ↔ qx sc D 41 24 [vr a, l1, l2] (vr a :: st) u bb σ Q := r_aload_n (k := 0) (by decide +kernel) rfl
theorem k41_24 : qx sc D 41 24 [l0, l1, vi x] st u bb σ Q ↔ qx sc D 41 25 [l0, l1, vi x] (vi x :: st) u bb σ Q := r_iload_n (k := 2) (by decide +kernel) rfl
theorem k41_25 : qx sc (D + 1) 41 25 ls [vi x0, vr 4] (0, 0) bb σ Q ↔ qx sc D 54 0 [vr 4, vi x0] [] (0, 0) bb σ (q_kn sc (D + 1) 41 28 ls [] (0, 0) Q) := r_callv (idx := 113) (n := 1) (m := 2) (by decide +kernel) rfl (Nat.le_of_ble_eq_true rfl) ⟨Nat.le_of_ble_eq_true rfl, Nat.le_of_ble_eq_true rfl, rfl⟩ rfl
theorem k41_28 : qx sc D 41 28 ls (vi x :: st) u bb σ Q ↔ (x = 0 → qx sc D 41 39 ls st u bb σ Q) ∧ (¬ (x = 0) → qx sc D 41 31 ls st u bb σ Q) := r_if_eq (off := 11) (t := 39) (by decide +kernel)
theorem k41_31 : qx sc D 41 31 [vr a, l1, l2] st u bb σ Q ↔ qx sc D 41 32 [vr a, l1, l2] (vr a :: st) u bb σ Q := r_aload_n (k := 0) (by decide +kernel) rfl
theorem k41_32 : qx sc D 41 32 [l0, vi x, l2] st u bb σ Q ↔ qx sc D 41 33 [l0, vi x, l2] (vi x :: st) u bb σ Q := r_iload_n (k := 1) (by decide +kernel) rfl
theorem k41_33 : qx sc (D + 1) 41 33 ls [vi x0, vr 4] (0, 0) bb σ Q ↔ qx sc D 40 0 [vr 4, vi x0] [] (0, 0) bb σ (q_kn sc (D + 1) 41 36 ls [] (0, 0) Q) := r_callv (idx := 116) (n := 1) (m := 2) (by decide +kernel) rfl (Nat.le_of_ble_eq_true rfl) ⟨Nat.le_of_ble_eq_true rfl, Nat.le_of_ble_eq_true rfl, rfl⟩ rfl
theorem k41_36 : qx sc D 41 36 ls (vi x :: st) u bb σ Q ↔ (x = 0 → qx sc D 41 39 ls st u bb σ Q) ∧ (¬ (x = 0) → qx sc D 41 41 ls st u bb σ Q) := r_if_ne (off := 5) (t := 41) (by decide +kernel)
theorem k41_39 : qx sc D 41 39 ls st u bb σ Q ↔ qx sc D 41 40 ls (vi 0 :: st) u bb σ Q := r_iconst (by decide +kernel)
theorem k41_40 : qx sc D 41 40 ls [vi x] (0, 0) bb σ Q ↔ (x = 0 ∨ x = 1) ∧ Q (.inl (some (vi x))) bb σ := r_retB (by decide +kernel)
theorem k41_41 : qx sc D 41 41 [vr a, l1, l2] st u bb σ Q ↔ qx sc D 41 42 [vr a, l1, l2] (vr a :: st) u bb σ Q := r_aload_n (k := 0) (by decide +kernel) rfl
theorem k41_42 : qx sc D 41 42 ls (vr 4 :: st) u bb σ Q ↔ 0 ≤ σ 4 3 ∧ qx sc D 41 45 ls (vr (σ 4 3).toNat :: st) u bb σ Q := r_getM (idx := 24) (c := 9) (k := 3) (by decide +kernel)
theorem k41_45 (hc : q_C c) : qx sc D 41 45 ls (vr c :: st) u bb σ Q ↔ qx sc D 41 48 ls (vr (c + 10) :: st) u bb σ Q := r_getRc (idx := 119) (k := 12) (by decide +kernel) hc
theorem k41_48 : qx sc D 41 48 [l0, l1, vi x] st u bb σ Q ↔ qx sc D 41 49 [l0, l1, vi x] (vi x :: st) u bb σ Q := r_iload_n (k := 2) (by decide +kernel) rfl
theorem k41_49 : qx sc D 41 49 [vr a, l1, l2] st u bb σ Q ↔ qx sc D 41 50 [vr a, l1, l2] (vr a :: st) u bb σ Q := r_aload_n (k := 0) (by decide +kernel) rfl
theorem k41_50 : qx sc D 41 50 ls (vr 4 :: st) u bb σ Q ↔ 0 ≤ σ 4 3 ∧ qx sc D 41 53 ls (vr (σ 4 3).toNat :: st) u bb σ Q := r_getM (idx := 24) (c := 9) (k := 3) (by decide +kernel)
theorem k41_53 (hc : q_C c) : qx sc D 41 53 ls (vr c :: st) u bb σ Q ↔ qx sc D 41 56 ls (vi (σ c 0) :: st) u bb σ Q := r_getIc (idx := 71) (k := 0) (by decide +kernel) hc
theorem k41_56 : qx sc D 41 56 ls (vi x :: vi i :: vr a :: st) u bb σ Q ↔ (q_ty a = 0 ∧ 0 ≤ i ∧ i < q_ln a) ∧ qx sc D 41 57 ls st u bb (q_up σ a i x) Q := r_iast (by decide +kernel)
theorem k41_57 : qx sc D 41 57 [vr a, l1, l2] st u bb σ Q ↔ qx sc D 41 58 [vr a, l1, l2] (vr a :: st) u bb σ Q := r_aload_n (k := 0) (by decide +kernel) rfl
theorem k41_58 : qx sc D 41 58 ls st u bb σ Q ↔ qx sc D 41 61 ls (vi 259 :: st) u bb σ Q := r_sipush (by decide +kernel)
theorem k41_61 : qx sc (D + 1) 41 61 ls [vi x0, vr 4] (0, 0) bb σ Q ↔ qx sc D 51 0 [vr 4, vi x0] [] (0, 0) bb σ (q_kn sc (D + 1) 41 64 ls [] (0, 0) Q) := r_callv (idx := 64) (n := 1) (m := 2) (by decide +kernel) rfl (Nat.le_of_ble_eq_true rfl) ⟨Nat.le_of_ble_eq_true rfl, Nat.le_of_ble_eq_true rfl, rfl⟩ rfl
theorem k41_64 : qx sc D 41 64 ls (vi x :: st) u bb σ Q ↔ (x = 0 → qx sc D 41 77 ls st u bb σ Q) ∧ (¬ (x = 0) → qx sc D 41 67 ls st u bb σ Q) := r_if_eq (off := 13) (t := 77) (by decide +kernel)
theorem k41_67 : qx sc D 41 67 [vr a, l1, l2] st u bb σ Q ↔ qx sc D 41 68 [vr a, l1, l2] (vr a :: st) u bb σ Q := r_aload_n (k := 0) (by decide +kernel) rfl
theorem k41_68 : qx sc D 41 68 [l0, vi x, l2] st u bb σ Q ↔ qx sc D 41 69 [l0, vi x, l2] (vi x :: st) u bb σ Q := r_iload_n (k := 1) (by decide +kernel) rfl
theorem k41_69 : qx sc (D + 1) 41 69 ls [vi x0, vr 4] (0, 0) bb σ Q ↔ qx sc D 40 0 [vr 4, vi x0] [] (0, 0) bb σ (q_kn sc (D + 1) 41 72 ls [] (0, 0) Q) := r_callv (idx := 116) (n := 1) (m := 2) (by decide +kernel) rfl (Nat.le_of_ble_eq_true rfl) ⟨Nat.le_of_ble_eq_true rfl, Nat.le_of_ble_eq_true rfl, rfl⟩ rfl
theorem k41_72 : qx sc D 41 72 ls (vi x :: st) u bb σ Q ↔ (x = 0 → qx sc D 41 75 ls st u bb σ Q) ∧ (¬ (x = 0) → qx sc D 41 77 ls st u bb σ Q) := r_if_ne (off := 5) (t := 77) (by decide +kernel)
theorem k41_75 : qx sc D 41 75 ls st u bb σ Q ↔ qx sc D 41 76 ls (vi 0 :: st) u bb σ Q := r_iconst (by decide +kernel)
theorem k41_76 : qx sc D 41 76 ls [vi x] (0, 0) bb σ Q ↔ (x = 0 ∨ x = 1) ∧ Q (.inl (some (vi x))) bb σ := r_retB (by decide +kernel)
theorem k41_77 : qx sc D 41 77 [vr a, l1, l2] st u bb σ Q ↔ qx sc D 41 78 [vr a, l1, l2] (vr a :: st) u bb σ Q := r_aload_n (k := 0) (by decide +kernel) rfl
theorem k41_78 : qx sc D 41 78 ls (vr 4 :: st) u bb σ Q ↔ 0 ≤ σ 4 3 ∧ qx sc D 41 81 ls (vr (σ 4 3).toNat :: st) u bb σ Q := r_getM (idx := 24) (c := 9) (k := 3) (by decide +kernel)
theorem k41_81 (hc : q_C c) : qx sc D 41 81 ls (vr c :: st) u bb σ Q ↔ qx sc D 41 84 ls (vr (c + 11) :: st) u bb σ Q := r_getRc (idx := 122) (k := 13) (by decide +kernel) hc
theorem k41_84 : qx sc D 41 84 [l0, l1, vi x] st u bb σ Q ↔ qx sc D 41 85 [l0, l1, vi x] (vi x :: st) u bb σ Q := r_iload_n (k := 2) (by decide +kernel) rfl
theorem k41_85 : qx sc D 41 85 [vr a, l1, l2] st u bb σ Q ↔ qx sc D 41 86 [vr a, l1, l2] (vr a :: st) u bb σ Q := r_aload_n (k := 0) (by decide +kernel) rfl
theorem k41_86 : qx sc D 41 86 ls (vr 4 :: st) u bb σ Q ↔ 0 ≤ σ 4 3 ∧ qx sc D 41 89 ls (vr (σ 4 3).toNat :: st) u bb σ Q := r_getM (idx := 24) (c := 9) (k := 3) (by decide +kernel)
theorem k41_89 (hc : q_C c) : qx sc D 41 89 ls (vr c :: st) u bb σ Q ↔ qx sc D 41 92 ls (vi (σ c 0) :: st) u bb σ Q := r_getIc (idx := 71) (k := 0) (by decide +kernel) hc
theorem k41_92 : qx sc D 41 92 ls (vi x :: vi i :: vr a :: st) u bb σ Q ↔ (q_ty a = 0 ∧ 0 ≤ i ∧ i < q_ln a) ∧ qx sc D 41 93 ls st u bb (q_up σ a i x) Q := r_iast (by decide +kernel)
theorem k41_93 : qx sc D 41 93 ls st u bb σ Q ↔ qx sc D 41 94 ls (vi 1 :: st) u bb σ Q := r_iconst (by decide +kernel)
theorem k41_94 : qx sc D 41 94 ls [vi x] (0, 0) bb σ Q ↔ (x = 0 ∨ x = 1) ∧ Q (.inl (some (vi x))) bb σ := r_retB (by decide +kernel)
-- 42: RowProver$Reader.element(I)Z
theorem k42_0 : qx sc D 42 0 [vr a, l1, l2, l3] st u bb σ Q ↔ qx sc D 42 1 [vr a, l1, l2, l3] (vr a :: st) u bb σ Q := r_aload_n (k := 0) (by decide +kernel) rfl
theorem k42_1 : qx sc (D + 1) 42 1 ls [vr 4] (0, 0) bb σ Q ↔ qx sc D 55 0 [vr 4, vn] [] (0, 0) bb σ (q_kn sc (D + 1) 42 4 ls [] (0, 0) Q) := r_callv (idx := 150) (n := 0) (m := 2) (by decide +kernel) rfl (Nat.le_of_ble_eq_true rfl) ⟨Nat.le_of_ble_eq_true rfl, Nat.le_of_ble_eq_true rfl, rfl⟩ rfl
theorem k42_4 : qx sc D 42 4 [l0, l1, l2, l3] (vi x :: st) u bb σ Q ↔ qx sc D 42 5 [l0, l1, vi x, l3] st u bb σ Q := r_istore_n (k := 2) (by decide +kernel) (Nat.le_of_ble_eq_true rfl)
theorem k42_5 : qx sc D 42 5 [l0, l1, vi x, l3] st u bb σ Q ↔ qx sc D 42 6 [l0, l1, vi x, l3] (vi x :: st) u bb σ Q := r_iload_n (k := 2) (by decide +kernel) rfl
theorem k42_6 : qx sc D 42 6 ls st u bb σ Q ↔ qx sc D 42 7 ls (vi (-1) :: st) u bb σ Q := r_iconst (by decide +kernel)
theorem k42_7 : qx sc D 42 7 ls (vi b' :: vi a' :: st) u bb σ Q ↔ (a' = b' → qx sc D 42 19 ls st u bb σ Q) ∧ (¬ (a' = b') → qx sc D 42 10 ls st u bb σ Q) := r_ic_eq (off := 12) (t := 19) (by decide +kernel)
theorem k42_10 : qx sc D 42 10 [vr a, l1, l2, l3] st u bb σ Q ↔ qx sc D 42 11 [vr a, l1, l2, l3] (vr a :: st) u bb σ Q := r_aload_n (k := 0) (by decide +kernel) rfl
theorem k42_11 : qx sc D 42 11 ls st u bb σ Q ↔ qx sc D 42 13 ls (vi 91 :: st) u bb σ Q := r_bipush (by decide +kernel)
theorem k42_13 : qx sc (D + 1) 42 13 ls [vi x0, vr 4] (0, 0) bb σ Q ↔ qx sc D 51 0 [vr 4, vi x0] [] (0, 0) bb σ (q_kn sc (D + 1) 42 16 ls [] (0, 0) Q) := r_callv (idx := 64) (n := 1) (m := 2) (by decide +kernel) rfl (Nat.le_of_ble_eq_true rfl) ⟨Nat.le_of_ble_eq_true rfl, Nat.le_of_ble_eq_true rfl, rfl⟩ rfl
theorem k42_16 : qx sc D 42 16 ls (vi x :: st) u bb σ Q ↔ (x = 0 → qx sc D 42 19 ls st u bb σ Q) ∧ (¬ (x = 0) → qx sc D 42 21 ls st u bb σ Q) := r_if_ne (off := 5) (t := 21) (by decide +kernel)
theorem k42_19 : qx sc D 42 19 ls st u bb σ Q ↔ qx sc D 42 20 ls (vi 0 :: st) u bb σ Q := r_iconst (by decide +kernel)
theorem k42_20 : qx sc D 42 20 ls [vi x] (0, 0) bb σ Q ↔ (x = 0 ∨ x = 1) ∧ Q (.inl (some (vi x))) bb σ := r_retB (by decide +kernel)
theorem k42_21 : qx sc D 42 21 [vr a, l1, l2, l3] st u bb σ Q ↔ qx sc D 42 22 [vr a, l1, l2, l3] (vr a :: st) u bb σ Q := r_aload_n (k := 0) (by decide +kernel) rfl
theorem k42_22 : qx sc (D + 1) 42 22 ls [vr 4] (0, 0) bb σ Q ↔ qx sc D 57 0 [vr 4, vn] [] (0, 0) bb σ (q_kn sc (D + 1) 42 25 ls [] (0, 0) Q) := r_callv (idx := 88) (n := 0) (m := 2) (by decide +kernel) rfl (Nat.le_of_ble_eq_true rfl) ⟨Nat.le_of_ble_eq_true rfl, Nat.le_of_ble_eq_true rfl, rfl⟩ rfl
theorem k42_25 : qx sc D 42 25 [l0, l1, l2, l3] (vi x :: st) u bb σ Q ↔ qx sc D 42 26 [l0, l1, l2, vi x] st u bb σ Q := r_istore_n (k := 3) (by decide +kernel) (Nat.le_of_ble_eq_true rfl)
theorem k42_26 : qx sc D 42 26 [l0, l1, l2, vi x] st u bb σ Q ↔ qx sc D 42 27 [l0, l1, l2, vi x] (vi x :: st) u bb σ Q := r_iload_n (k := 3) (by decide +kernel) rfl
theorem k42_27 : qx sc D 42 27 ls st u bb σ Q ↔ qx sc D 42 28 ls (vi (-1) :: st) u bb σ Q := r_iconst (by decide +kernel)
theorem k42_28 : qx sc D 42 28 ls (vi b' :: vi a' :: st) u bb σ Q ↔ (a' = b' → qx sc D 42 40 ls st u bb σ Q) ∧ (¬ (a' = b') → qx sc D 42 31 ls st u bb σ Q) := r_ic_eq (off := 12) (t := 40) (by decide +kernel)
theorem k42_31 : qx sc D 42 31 [vr a, l1, l2, l3] st u bb σ Q ↔ qx sc D 42 32 [vr a, l1, l2, l3] (vr a :: st) u bb σ Q := r_aload_n (k := 0) (by decide +kernel) rfl
theorem k42_32 : qx sc D 42 32 ls st u bb σ Q ↔ qx sc D 42 34 ls (vi 93 :: st) u bb σ Q := r_bipush (by decide +kernel)
theorem k42_34 : qx sc (D + 1) 42 34 ls [vi x0, vr 4] (0, 0) bb σ Q ↔ qx sc D 51 0 [vr 4, vi x0] [] (0, 0) bb σ (q_kn sc (D + 1) 42 37 ls [] (0, 0) Q) := r_callv (idx := 64) (n := 1) (m := 2) (by decide +kernel) rfl (Nat.le_of_ble_eq_true rfl) ⟨Nat.le_of_ble_eq_true rfl, Nat.le_of_ble_eq_true rfl, rfl⟩ rfl
theorem k42_37 : qx sc D 42 37 ls (vi x :: st) u bb σ Q ↔ (x = 0 → qx sc D 42 40 ls st u bb σ Q) ∧ (¬ (x = 0) → qx sc D 42 42 ls st u bb σ Q) := r_if_ne (off := 5) (t := 42) (by decide +kernel)
theorem k42_40 : qx sc D 42 40 ls st u bb σ Q ↔ qx sc D 42 41 ls (vi 0 :: st) u bb σ Q := r_iconst (by decide +kernel)
theorem k42_41 : qx sc D 42 41 ls [vi x] (0, 0) bb σ Q ↔ (x = 0 ∨ x = 1) ∧ Q (.inl (some (vi x))) bb σ := r_retB (by decide +kernel)
theorem k42_42 : qx sc D 42 42 [vr a, l1, l2, l3] st u bb σ Q ↔ qx sc D 42 43 [vr a, l1, l2, l3] (vr a :: st) u bb σ Q := r_aload_n (k := 0) (by decide +kernel) rfl
theorem k42_43 : qx sc D 42 43 ls (vr 4 :: st) u bb σ Q ↔ 0 ≤ σ 4 3 ∧ qx sc D 42 46 ls (vr (σ 4 3).toNat :: st) u bb σ Q := r_getM (idx := 24) (c := 9) (k := 3) (by decide +kernel)
theorem k42_46 : qx sc D 42 46 [l0, vi x, l2, l3] st u bb σ Q ↔ qx sc D 42 47 [l0, vi x, l2, l3] (vi x :: st) u bb σ Q := r_iload_n (k := 1) (by decide +kernel) rfl
theorem k42_47 : qx sc D 42 47 [l0, l1, vi x, l3] st u bb σ Q ↔ qx sc D 42 48 [l0, l1, vi x, l3] (vi x :: st) u bb σ Q := r_iload_n (k := 2) (by decide +kernel) rfl
theorem k42_48 : qx sc D 42 48 [l0, l1, l2, vi x] st u bb σ Q ↔ qx sc D 42 49 [l0, l1, l2, vi x] (vi x :: st) u bb σ Q := r_iload_n (k := 3) (by decide +kernel) rfl
theorem k42_49 (hc : q_C c) : qx sc (D + 1) 42 49 ls [vi x2, vi x1, vi x0, vr c] (0, 0) bb σ Q ↔ qx sc D 10 0 [vr c, vi x0, vi x1, vi x2, vn] [] (0, 0) bb σ (q_kn sc (D + 1) 42 52 ls [] (0, 0) Q) := r_callc (idx := 166) (n := 3) (m := 5) (by decide +kernel) hc rfl (Nat.le_of_ble_eq_true rfl) ⟨Nat.le_of_ble_eq_true rfl, Nat.le_of_ble_eq_true rfl, rfl⟩ rfl
theorem k42_52 : qx sc D 42 52 ls st u bb σ Q ↔ qx sc D 42 53 ls (vi 1 :: st) u bb σ Q := r_iconst (by decide +kernel)
theorem k42_53 : qx sc D 42 53 ls [vi x] (0, 0) bb σ Q ↔ (x = 0 ∨ x = 1) ∧ Q (.inl (some (vi x))) bb σ := r_retB (by decide +kernel)
-- 43: RowProver$Reader.number(I)I
theorem k43_0 : qx sc D 43 0 [vr a, l1] st u bb σ Q ↔ qx sc D 43 1 [vr a, l1] (vr a :: st) u bb σ Q := r_aload_n (k := 0) (by decide +kernel) rfl
theorem k43_1 : qx sc D 43 1 ls (vr 4 :: st) u bb σ Q ↔ qx sc D 43 4 ls (vr 5 :: st) u bb σ Q := r_getR (idx := 14) (c := 9) (k := 0) (by decide +kernel)
theorem k43_4 : qx sc D 43 4 ls (vr 5 :: st) u bb σ Q ↔ qx sc D 43 7 ls (vr 6 :: st) u bb σ Q := r_getR (idx := 48) (c := 12) (k := 3) (by decide +kernel)
theorem k43_7 : qx sc D 43 7 [vr a, l1] st u bb σ Q ↔ qx sc D 43 8 [vr a, l1] (vr a :: st) u bb σ Q := r_aload_n (k := 0) (by decide +kernel) rfl
theorem k43_8 : qx sc D 43 8 ls (vr 4 :: st) u bb σ Q ↔ qx sc D 43 11 ls (vi (σ 4 1) :: st) u bb σ Q := r_getI (idx := 33) (c := 9) (k := 1) (by decide +kernel)
theorem k43_11 : qx sc D 43 11 ls (vi i :: vr a :: st) u bb σ Q ↔ (q_ty a = 0 ∧ 0 ≤ i ∧ i < q_ln a) ∧ qx sc D 43 12 ls (vi (σ a i) :: st) u bb σ Q := r_iald (by decide +kernel)
theorem k43_12 : qx sc D 43 12 ls st u bb σ Q ↔ qx sc D 43 15 ls (vi 262 :: st) u bb σ Q := r_sipush (by decide +kernel)
theorem k43_15 : qx sc D 43 15 ls (vi b' :: vi a' :: st) u bb σ Q ↔ (a' = b' → qx sc D 43 18 ls st u bb σ Q) ∧ (¬ (a' = b') → qx sc D 43 34 ls st u bb σ Q) := r_ic_ne (off := 19) (t := 34) (by decide +kernel)
theorem k43_18 : qx sc D 43 18 [vr a, l1] st u bb σ Q ↔ qx sc D 43 19 [vr a, l1] (vr a :: st) u bb σ Q := r_aload_n (k := 0) (by decide +kernel) rfl
theorem k43_19 : qx sc D 43 19 ls (vr 4 :: st) u bb σ Q ↔ qx sc D 43 22 ls (vr 5 :: st) u bb σ Q := r_getR (idx := 14) (c := 9) (k := 0) (by decide +kernel)
theorem k43_22 : qx sc D 43 22 ls (vr 5 :: st) u bb σ Q ↔ qx sc D 43 25 ls (vr 8 :: st) u bb σ Q := r_getR (idx := 58) (c := 12) (k := 5) (by decide +kernel)
theorem k43_25 : qx sc D 43 25 [vr a, l1] st u bb σ Q ↔ qx sc D 43 26 [vr a, l1] (vr a :: st) u bb σ Q := r_aload_n (k := 0) (by decide +kernel) rfl
theorem k43_26 : qx sc D 43 26 ls (vr 4 :: st) u bb σ Q ↔ qx sc D 43 29 ls (vi (σ 4 1) :: st) u bb σ Q := r_getI (idx := 33) (c := 9) (k := 1) (by decide +kernel)
theorem k43_29 : qx sc D 43 29 ls (vi i :: vr a :: st) u bb σ Q ↔ (q_ty a = 0 ∧ 0 ≤ i ∧ i < q_ln a) ∧ qx sc D 43 30 ls (vi (σ a i) :: st) u bb σ Q := r_iald (by decide +kernel)
theorem k43_30 : qx sc D 43 30 [l0, vi x] st u bb σ Q ↔ qx sc D 43 31 [l0, vi x] (vi x :: st) u bb σ Q := r_iload_n (k := 1) (by decide +kernel) rfl
theorem k43_31 : qx sc D 43 31 ls (vi b' :: vi a' :: st) u bb σ Q ↔ (b' < a' → qx sc D 43 34 ls st u bb σ Q) ∧ (¬ (b' < a') → qx sc D 43 36 ls st u bb σ Q) := r_ic_le (off := 5) (t := 36) (by decide +kernel)
theorem k43_34 : qx sc D 43 34 ls st u bb σ Q ↔ qx sc D 43 35 ls (vi (-1) :: st) u bb σ Q := r_iconst (by decide +kernel)
theorem k43_35 : qx sc D 43 35 ls [vi x] (0, 0) bb σ Q ↔ Q (.inl (some (vi x))) bb σ := r_ret (by decide +kernel)
theorem k43_36 : qx sc D 43 36 [vr a, l1] st u bb σ Q ↔ qx sc D 43 37 [vr a, l1] (vr a :: st) u bb σ Q := r_aload_n (k := 0) (by decide +kernel) rfl
theorem k43_37 : qx sc D 43 37 ls (vr a :: st) u bb σ Q ↔ qx sc D 43 38 ls (vr a :: vr a :: st) u bb σ Q := r_dupA (by decide +kernel)
theorem k43_38 : qx sc D 43 38 ls (vr 4 :: st) u bb σ Q ↔ qx sc D 43 41 ls (vi (σ 4 1) :: st) u bb σ Q := r_getI (idx := 33) (c := 9) (k := 1) (by decide +kernel)
theorem k43_41 : qx sc D 43 41 ls st u bb σ Q ↔ qx sc D 43 42 ls (vi 1 :: st) u bb σ Q := r_iconst (by decide +kernel)
theorem k43_42 : qx sc D 43 42 ls (vi b' :: vi a' :: st) u bb σ Q ↔ q_R (a' + b') ∧ qx sc D 43 43 ls (vi (a' + b') :: st) u bb σ Q := r_iadd (by decide +kernel)
theorem k43_43 : qx sc D 43 43 ls (vi x :: vr 4 :: st) u bb σ Q ↔ qx sc D 43 46 ls st u bb (q_up σ 4 1 x) Q := r_putI (idx := 33) (c := 9) (k := 1) (by decide +kernel)
theorem k43_46 : qx sc D 43 46 [vr a, l1] st u bb σ Q ↔ qx sc D 43 47 [vr a, l1] (vr a :: st) u bb σ Q := r_aload_n (k := 0) (by decide +kernel) rfl
theorem k43_47 : qx sc D 43 47 ls (vr 4 :: st) u bb σ Q ↔ qx sc D 43 50 ls (vr 5 :: st) u bb σ Q := r_getR (idx := 14) (c := 9) (k := 0) (by decide +kernel)
theorem k43_50 : qx sc D 43 50 ls (vr 5 :: st) u bb σ Q ↔ qx sc D 43 53 ls (vr 8 :: st) u bb σ Q := r_getR (idx := 58) (c := 12) (k := 5) (by decide +kernel)
theorem k43_53 : qx sc D 43 53 [vr a, l1] st u bb σ Q ↔ qx sc D 43 54 [vr a, l1] (vr a :: st) u bb σ Q := r_aload_n (k := 0) (by decide +kernel) rfl
theorem k43_54 : qx sc D 43 54 ls (vr 4 :: st) u bb σ Q ↔ qx sc D 43 57 ls (vi (σ 4 1) :: st) u bb σ Q := r_getI (idx := 33) (c := 9) (k := 1) (by decide +kernel)
theorem k43_57 : qx sc D 43 57 ls st u bb σ Q ↔ qx sc D 43 58 ls (vi 1 :: st) u bb σ Q := r_iconst (by decide +kernel)
theorem k43_58 : qx sc D 43 58 ls (vi b' :: vi a' :: st) u bb σ Q ↔ q_R (a' - b') ∧ qx sc D 43 59 ls (vi (a' - b') :: st) u bb σ Q := r_isub (by decide +kernel)
theorem k43_59 : qx sc D 43 59 ls (vi i :: vr a :: st) u bb σ Q ↔ (q_ty a = 0 ∧ 0 ≤ i ∧ i < q_ln a) ∧ qx sc D 43 60 ls (vi (σ a i) :: st) u bb σ Q := r_iald (by decide +kernel)
theorem k43_60 : qx sc D 43 60 ls [vi x] (0, 0) bb σ Q ↔ Q (.inl (some (vi x))) bb σ := r_ret (by decide +kernel)
-- 44: RowProver$Reader.numberValue(II)Z
theorem k44_0 : qx sc D 44 0 [vr a, l1, l2, l3] st u bb σ Q ↔ qx sc D 44 1 [vr a, l1, l2, l3] (vr a :: st) u bb σ Q := r_aload_n (k := 0) (by decide +kernel) rfl
theorem k44_1 : qx sc D 44 1 ls st u bb σ Q ↔ qx sc D 44 3 ls (vi 99 :: st) u bb σ Q := r_bipush (by decide +kernel)
theorem k44_3 : qx sc (D + 1) 44 3 ls [vi x0, vr 4] (0, 0) bb σ Q ↔ qx sc D 43 0 [vr 4, vi x0] [] (0, 0) bb σ (q_kn sc (D + 1) 44 6 ls [] (0, 0) Q) := r_callv (idx := 67) (n := 1) (m := 2) (by decide +kernel) rfl (Nat.le_of_ble_eq_true rfl) ⟨Nat.le_of_ble_eq_true rfl, Nat.le_of_ble_eq_true rfl, rfl⟩ rfl
theorem k44_6 : qx sc D 44 6 [l0, l1, l2, l3] (vi x :: st) u bb σ Q ↔ qx sc D 44 7 [l0, l1, l2, vi x] st u bb σ Q := r_istore_n (k := 3) (by decide +kernel) (Nat.le_of_ble_eq_true rfl)
theorem k44_7 : qx sc D 44 7 [vr a, l1, l2, l3] st u bb σ Q ↔ qx sc D 44 8 [vr a, l1, l2, l3] (vr a :: st) u bb σ Q := r_aload_n (k := 0) (by decide +kernel) rfl
theorem k44_8 : qx sc D 44 8 ls (vr 4 :: st) u bb σ Q ↔ 0 ≤ σ 4 3 ∧ qx sc D 44 11 ls (vr (σ 4 3).toNat :: st) u bb σ Q := r_getM (idx := 24) (c := 9) (k := 3) (by decide +kernel)
theorem k44_11 (hc : q_C c) : qx sc D 44 11 ls (vr c :: st) u bb σ Q ↔ qx sc D 44 14 ls (vr (c + 4) :: st) u bb σ Q := r_getRc (idx := 158) (k := 6) (by decide +kernel) hc
theorem k44_14 : qx sc D 44 14 [l0, vi x, l2, l3] st u bb σ Q ↔ qx sc D 44 15 [l0, vi x, l2, l3] (vi x :: st) u bb σ Q := r_iload_n (k := 1) (by decide +kernel) rfl
theorem k44_15 : qx sc D 44 15 ls st u bb σ Q ↔ qx sc D 44 16 ls (vi 1 :: st) u bb σ Q := r_iconst (by decide +kernel)
theorem k44_16 : qx sc D 44 16 ls (vi x :: vi i :: vr a :: st) u bb σ Q ↔ (q_ty a = 0 ∧ 0 ≤ i ∧ i < q_ln a) ∧ qx sc D 44 17 ls st u bb (q_up σ a i x) Q := r_iast (by decide +kernel)
theorem k44_17 : qx sc D 44 17 [vr a, l1, l2, l3] st u bb σ Q ↔ qx sc D 44 18 [vr a, l1, l2, l3] (vr a :: st) u bb σ Q := r_aload_n (k := 0) (by decide +kernel) rfl
theorem k44_18 : qx sc D 44 18 ls (vr 4 :: st) u bb σ Q ↔ 0 ≤ σ 4 3 ∧ qx sc D 44 21 ls (vr (σ 4 3).toNat :: st) u bb σ Q := r_getM (idx := 24) (c := 9) (k := 3) (by decide +kernel)
theorem k44_21 (hc : q_C c) : qx sc D 44 21 ls (vr c :: st) u bb σ Q ↔ qx sc D 44 24 ls (vr (c + 6) :: st) u bb σ Q := r_getRc (idx := 164) (k := 8) (by decide +kernel) hc
theorem k44_24 : qx sc D 44 24 [l0, vi x, l2, l3] st u bb σ Q ↔ qx sc D 44 25 [l0, vi x, l2, l3] (vi x :: st) u bb σ Q := r_iload_n (k := 1) (by decide +kernel) rfl
theorem k44_25 : qx sc D 44 25 [l0, l1, vi x, l3] st u bb σ Q ↔ qx sc D 44 26 [l0, l1, vi x, l3] (vi x :: st) u bb σ Q := r_iload_n (k := 2) (by decide +kernel) rfl
theorem k44_26 : qx sc D 44 26 [l0, l1, l2, vi x] st u bb σ Q ↔ qx sc D 44 27 [l0, l1, l2, vi x] (vi x :: st) u bb σ Q := r_iload_n (k := 3) (by decide +kernel) rfl
theorem k44_27 : qx sc D 44 27 ls (vi b' :: vi a' :: st) u bb σ Q ↔ q_R (a' * b') ∧ qx sc D 44 28 ls (vi (a' * b') :: st) u bb σ Q := r_imul (by decide +kernel)
theorem k44_28 : qx sc D 44 28 ls (vi x :: vi i :: vr a :: st) u bb σ Q ↔ (q_ty a = 0 ∧ 0 ≤ i ∧ i < q_ln a) ∧ qx sc D 44 29 ls st u bb (q_up σ a i x) Q := r_iast (by decide +kernel)
theorem k44_29 : qx sc D 44 29 [l0, l1, l2, vi x] st u bb σ Q ↔ qx sc D 44 30 [l0, l1, l2, vi x] (vi x :: st) u bb σ Q := r_iload_n (k := 3) (by decide +kernel) rfl
theorem k44_30 : qx sc D 44 30 ls st u bb σ Q ↔ qx sc D 44 31 ls (vi (-1) :: st) u bb σ Q := r_iconst (by decide +kernel)
theorem k44_31 : qx sc D 44 31 ls (vi b' :: vi a' :: st) u bb σ Q ↔ (a' = b' → qx sc D 44 38 ls st u bb σ Q) ∧ (¬ (a' = b') → qx sc D 44 34 ls st u bb σ Q) := r_ic_eq (off := 7) (t := 38) (by decide +kernel)
theorem k44_34 : qx sc D 44 34 ls st u bb σ Q ↔ qx sc D 44 35 ls (vi 1 :: st) u bb σ Q := r_iconst (by decide +kernel)
theorem k44_35 : qx sc D 44 35 ls st u bb σ Q ↔ qx sc D 44 39 ls st u bb σ Q := r_goto (off := 4) (by decide +kernel)
theorem k44_38 : qx sc D 44 38 ls st u bb σ Q ↔ qx sc D 44 39 ls (vi 0 :: st) u bb σ Q := r_iconst (by decide +kernel)
theorem k44_39 : qx sc D 44 39 ls [vi x] (0, 0) bb σ Q ↔ (x = 0 ∨ x = 1) ∧ Q (.inl (some (vi x))) bb σ := r_retB (by decide +kernel)
-- 45: RowProver$Reader.parse(LRowProver$Code;I)Z
theorem k45_0 : qx sc D 45 0 [vr a, l1, l2, l3] st u bb σ Q ↔ qx sc D 45 1 [vr a, l1, l2, l3] (vr a :: st) u bb σ Q := r_aload_n (k := 0) (by decide +kernel) rfl
theorem k45_1 : qx sc D 45 1 ls (vr 4 :: st) u bb σ Q ↔ qx sc D 45 4 ls (vr 5 :: st) u bb σ Q := r_getR (idx := 14) (c := 9) (k := 0) (by decide +kernel)
theorem k45_4 : qx sc D 45 4 [l0, l1, vi x, l3] st u bb σ Q ↔ qx sc D 45 5 [l0, l1, vi x, l3] (vi x :: st) u bb σ Q := r_iload_n (k := 2) (by decide +kernel) rfl
theorem k45_5 : qx sc (D + 1) 45 5 ls [vi x0, vr 5] (0, 0) bb σ Q ↔ qx sc D 84 0 [vr 5, vi x0, vn, vn] [] (0, 0) bb σ (q_kn sc (D + 1) 45 8 ls [] (0, 0) Q) := r_callv (idx := 20) (n := 1) (m := 4) (by decide +kernel) rfl (Nat.le_of_ble_eq_true rfl) ⟨Nat.le_of_ble_eq_true rfl, Nat.le_of_ble_eq_true rfl, rfl⟩ rfl
theorem k45_8 : qx sc D 45 8 [vr a, l1, l2, l3] st u bb σ Q ↔ qx sc D 45 9 [vr a, l1, l2, l3] (vr a :: st) u bb σ Q := r_aload_n (k := 0) (by decide +kernel) rfl
theorem k45_9 : qx sc D 45 9 [l0, vr a, l2, l3] st u bb σ Q ↔ qx sc D 45 10 [l0, vr a, l2, l3] (vr a :: st) u bb σ Q := r_aload_n (k := 1) (by decide +kernel) rfl
theorem k45_10 : qx sc D 45 10 ls (vr b :: vr 4 :: st) u bb σ Q ↔ b < 1000000 ∧ qx sc D 45 13 ls st u bb (q_up σ 4 3 b) Q := r_putM (idx := 24) (c := 9) (k := 3) (by decide +kernel)
theorem k45_13 : qx sc D 45 13 [vr a, l1, l2, l3] st u bb σ Q ↔ qx sc D 45 14 [vr a, l1, l2, l3] (vr a :: st) u bb σ Q := r_aload_n (k := 0) (by decide +kernel) rfl
theorem k45_14 : qx sc D 45 14 ls (vr 4 :: st) u bb σ Q ↔ 0 ≤ σ 4 3 ∧ qx sc D 45 17 ls (vr (σ 4 3).toNat :: st) u bb σ Q := r_getM (idx := 24) (c := 9) (k := 3) (by decide +kernel)
theorem k45_17 (hc : q_C c) : qx sc (D + 1) 45 17 ls [vr c] (0, 0) bb σ Q ↔ qx sc D 13 0 [vr c] [] (0, 0) bb σ (q_kn sc (D + 1) 45 20 ls [] (0, 0) Q) := r_callc (idx := 28) (n := 0) (m := 1) (by decide +kernel) hc rfl (Nat.le_of_ble_eq_true rfl) ⟨Nat.le_of_ble_eq_true rfl, Nat.le_of_ble_eq_true rfl, rfl⟩ rfl
theorem k45_20 : qx sc D 45 20 [vr a, l1, l2, l3] st u bb σ Q ↔ qx sc D 45 21 [vr a, l1, l2, l3] (vr a :: st) u bb σ Q := r_aload_n (k := 0) (by decide +kernel) rfl
theorem k45_21 : qx sc D 45 21 ls st u bb σ Q ↔ qx sc D 45 22 ls (vi 0 :: st) u bb σ Q := r_iconst (by decide +kernel)
theorem k45_22 : qx sc D 45 22 ls (vi x :: vr 4 :: st) u bb σ Q ↔ qx sc D 45 25 ls st u bb (q_up σ 4 1 x) Q := r_putI (idx := 33) (c := 9) (k := 1) (by decide +kernel)
theorem k45_25 : qx sc D 45 25 [vr a, l1, l2, l3] st u bb σ Q ↔ qx sc D 45 26 [vr a, l1, l2, l3] (vr a :: st) u bb σ Q := r_aload_n (k := 0) (by decide +kernel) rfl
theorem k45_26 : qx sc D 45 26 ls st u bb σ Q ↔ qx sc D 45 27 ls (vi (-1) :: st) u bb σ Q := r_iconst (by decide +kernel)
theorem k45_27 : qx sc D 45 27 ls (vi x :: vr 4 :: st) u bb σ Q ↔ qx sc D 45 30 ls st u bb (q_up σ 4 2 x) Q := r_putI (idx := 37) (c := 9) (k := 2) (by decide +kernel)
theorem k45_30 : qx sc D 45 30 [vr a, l1, l2, l3] st u bb σ Q ↔ qx sc D 45 31 [vr a, l1, l2, l3] (vr a :: st) u bb σ Q := r_aload_n (k := 0) (by decide +kernel) rfl
theorem k45_31 : qx sc (D + 1) 45 31 ls [vr 4] (0, 0) bb σ Q ↔ qx sc D 49 0 [vr 4, vn, vn, vn] [] (0, 0) bb σ (q_kn sc (D + 1) 45 34 ls [] (0, 0) Q) := r_callv (idx := 40) (n := 0) (m := 4) (by decide +kernel) rfl (Nat.le_of_ble_eq_true rfl) ⟨Nat.le_of_ble_eq_true rfl, Nat.le_of_ble_eq_true rfl, rfl⟩ rfl
theorem k45_34 : qx sc D 45 34 ls (vi x :: st) u bb σ Q ↔ (x = 0 → qx sc D 45 65 ls st u bb σ Q) ∧ (¬ (x = 0) → qx sc D 45 37 ls st u bb σ Q) := r_if_eq (off := 31) (t := 65) (by decide +kernel)
theorem k45_37 : qx sc D 45 37 [vr a, l1, l2, l3] st u bb σ Q ↔ qx sc D 45 38 [vr a, l1, l2, l3] (vr a :: st) u bb σ Q := r_aload_n (k := 0) (by decide +kernel) rfl
theorem k45_38 : qx sc D 45 38 ls st u bb σ Q ↔ qx sc D 45 39 ls (vi 0 :: st) u bb σ Q := r_iconst (by decide +kernel)
theorem k45_39 : qx sc (D + 1) 45 39 ls [vi x0, vr 4] (0, 0) bb σ Q ↔ qx sc D 52 0 [vr 4, vi x0, vn, vn, vn] [] (0, 0) bb σ (q_kn sc (D + 1) 45 42 ls [] (0, 0) Q) := r_callv (idx := 44) (n := 1) (m := 5) (by decide +kernel) rfl (Nat.le_of_ble_eq_true rfl) ⟨Nat.le_of_ble_eq_true rfl, Nat.le_of_ble_eq_true rfl, rfl⟩ rfl
theorem k45_42 : qx sc D 45 42 ls (vi x :: st) u bb σ Q ↔ (x = 0 → qx sc D 45 65 ls st u bb σ Q) ∧ (¬ (x = 0) → qx sc D 45 45 ls st u bb σ Q) := r_if_eq (off := 23) (t := 65) (by decide +kernel)
theorem k45_45 : qx sc D 45 45 [vr a, l1, l2, l3] st u bb σ Q ↔ qx sc D 45 46 [vr a, l1, l2, l3] (vr a :: st) u bb σ Q := r_aload_n (k := 0) (by decide +kernel) rfl
theorem k45_46 : qx sc D 45 46 ls (vr 4 :: st) u bb σ Q ↔ qx sc D 45 49 ls (vr 5 :: st) u bb σ Q := r_getR (idx := 14) (c := 9) (k := 0) (by decide +kernel)
theorem k45_49 : qx sc D 45 49 ls (vr 5 :: st) u bb σ Q ↔ qx sc D 45 52 ls (vr 6 :: st) u bb σ Q := r_getR (idx := 48) (c := 12) (k := 3) (by decide +kernel)
theorem k45_52 : qx sc D 45 52 [vr a, l1, l2, l3] st u bb σ Q ↔ qx sc D 45 53 [vr a, l1, l2, l3] (vr a :: st) u bb σ Q := r_aload_n (k := 0) (by decide +kernel) rfl
theorem k45_53 : qx sc D 45 53 ls (vr 4 :: st) u bb σ Q ↔ qx sc D 45 56 ls (vi (σ 4 1) :: st) u bb σ Q := r_getI (idx := 33) (c := 9) (k := 1) (by decide +kernel)
theorem k45_56 : qx sc D 45 56 ls (vi i :: vr a :: st) u bb σ Q ↔ (q_ty a = 0 ∧ 0 ≤ i ∧ i < q_ln a) ∧ qx sc D 45 57 ls (vi (σ a i) :: st) u bb σ Q := r_iald (by decide +kernel)
theorem k45_57 : qx sc D 45 57 ls st u bb σ Q ↔ qx sc D 45 58 ls (vi (-1) :: st) u bb σ Q := r_iconst (by decide +kernel)
theorem k45_58 : qx sc D 45 58 ls (vi b' :: vi a' :: st) u bb σ Q ↔ (a' = b' → qx sc D 45 61 ls st u bb σ Q) ∧ (¬ (a' = b') → qx sc D 45 65 ls st u bb σ Q) := r_ic_ne (off := 7) (t := 65) (by decide +kernel)
theorem k45_61 : qx sc D 45 61 ls st u bb σ Q ↔ qx sc D 45 62 ls (vi 1 :: st) u bb σ Q := r_iconst (by decide +kernel)
theorem k45_62 : qx sc D 45 62 ls st u bb σ Q ↔ qx sc D 45 66 ls st u bb σ Q := r_goto (off := 4) (by decide +kernel)
theorem k45_65 : qx sc D 45 65 ls st u bb σ Q ↔ qx sc D 45 66 ls (vi 0 :: st) u bb σ Q := r_iconst (by decide +kernel)
theorem k45_66 : qx sc D 45 66 [l0, l1, l2, l3] (vi x :: st) u bb σ Q ↔ qx sc D 45 67 [l0, l1, l2, vi x] st u bb σ Q := r_istore_n (k := 3) (by decide +kernel) (Nat.le_of_ble_eq_true rfl)
theorem k45_67 : qx sc D 45 67 [vr a, l1, l2, l3] st u bb σ Q ↔ qx sc D 45 68 [vr a, l1, l2, l3] (vr a :: st) u bb σ Q := r_aload_n (k := 0) (by decide +kernel) rfl
theorem k45_68 : qx sc D 45 68 [l0, l1, l2, vi x] st u bb σ Q ↔ qx sc D 45 69 [l0, l1, l2, vi x] (vi x :: st) u bb σ Q := r_iload_n (k := 3) (by decide +kernel) rfl
theorem k45_69 : qx sc D 45 69 ls (vi x :: st) u bb σ Q ↔ (x = 0 → qx sc D 45 76 ls st u bb σ Q) ∧ (¬ (x = 0) → qx sc D 45 72 ls st u bb σ Q) := r_if_eq (off := 7) (t := 76) (by decide +kernel)
theorem k45_72 : qx sc D 45 72 ls st u bb σ Q ↔ qx sc D 45 73 ls (vi (-1) :: st) u bb σ Q := r_iconst (by decide +kernel)
theorem k45_73 : qx sc D 45 73 ls st u bb σ Q ↔ qx sc D 45 88 ls st u bb σ Q := r_goto (off := 15) (by decide +kernel)
theorem k45_76 : qx sc D 45 76 [vr a, l1, l2, l3] st u bb σ Q ↔ qx sc D 45 77 [vr a, l1, l2, l3] (vr a :: st) u bb σ Q := r_aload_n (k := 0) (by decide +kernel) rfl
theorem k45_77 : qx sc D 45 77 ls (vr 4 :: st) u bb σ Q ↔ qx sc D 45 80 ls (vr 5 :: st) u bb σ Q := r_getR (idx := 14) (c := 9) (k := 0) (by decide +kernel)
theorem k45_80 : qx sc D 45 80 ls (vr 5 :: st) u bb σ Q ↔ qx sc D 45 83 ls (vr 7 :: st) u bb σ Q := r_getR (idx := 52) (c := 12) (k := 4) (by decide +kernel)
theorem k45_83 : qx sc D 45 83 [vr a, l1, l2, l3] st u bb σ Q ↔ qx sc D 45 84 [vr a, l1, l2, l3] (vr a :: st) u bb σ Q := r_aload_n (k := 0) (by decide +kernel) rfl
theorem k45_84 : qx sc D 45 84 ls (vr 4 :: st) u bb σ Q ↔ qx sc D 45 87 ls (vi (σ 4 1) :: st) u bb σ Q := r_getI (idx := 33) (c := 9) (k := 1) (by decide +kernel)
theorem k45_87 : qx sc D 45 87 ls (vi i :: vr a :: st) u bb σ Q ↔ (q_ty a = 0 ∧ 0 ≤ i ∧ i < q_ln a) ∧ qx sc D 45 88 ls (vi (σ a i) :: st) u bb σ Q := r_iald (by decide +kernel)
theorem k45_88 : qx sc D 45 88 ls (vi x :: vr 4 :: st) u bb σ Q ↔ qx sc D 45 91 ls st u bb (q_up σ 4 4 x) Q := r_putI (idx := 55) (c := 9) (k := 4) (by decide +kernel)
theorem k45_91 : qx sc D 45 91 [l0, l1, l2, vi x] st u bb σ Q ↔ qx sc D 45 92 [l0, l1, l2, vi x] (vi x :: st) u bb σ Q := r_iload_n (k := 3) (by decide +kernel) rfl
theorem k45_92 : qx sc D 45 92 ls [vi x] (0, 0) bb σ Q ↔ (x = 0 ∨ x = 1) ∧ Q (.inl (some (vi x))) bb σ := r_retB (by decide +kernel)
-- 46: RowProver$Reader.puttingOut()Z
theorem k46_0 : qx sc D 46 0 [vr a, l1] st u bb σ Q ↔ qx sc D 46 1 [vr a, l1] (vr a :: st) u bb σ Q := r_aload_n (k := 0) (by decide +kernel) rfl
theorem k46_1 : qx sc D 46 1 ls (vr 4 :: st) u bb σ Q ↔ 0 ≤ σ 4 3 ∧ qx sc D 46 4 ls (vr (σ 4 3).toNat :: st) u bb σ Q := r_getM (idx := 24) (c := 9) (k := 3) (by decide +kernel)
theorem k46_4 : qx sc D 46 4 ls st u bb σ Q ↔ qx sc D 46 5 ls (vi 2 :: st) u bb σ Q := r_iconst (by decide +kernel)
theorem k46_5 : qx sc D 46 5 [vr a, l1] st u bb σ Q ↔ qx sc D 46 6 [vr a, l1] (vr a :: st) u bb σ Q := r_aload_n (k := 0) (by decide +kernel) rfl
theorem k46_6 : qx sc D 46 6 ls (vr 4 :: st) u bb σ Q ↔ qx sc D 46 9 ls (vi (σ 4 2) :: st) u bb σ Q := r_getI (idx := 37) (c := 9) (k := 2) (by decide +kernel)
theorem k46_9 (hc : q_C c) : qx sc (D + 1) 46 9 ls [vi x1, vi x0, vr c] (0, 0) bb σ Q ↔ qx sc D 12 0 [vr c, vi x0, vi x1, vn] [] (0, 0) bb σ (q_kn sc (D + 1) 46 12 ls [] (0, 0) Q) := r_callc (idx := 92) (n := 2) (m := 4) (by decide +kernel) hc rfl (Nat.le_of_ble_eq_true rfl) ⟨Nat.le_of_ble_eq_true rfl, Nat.le_of_ble_eq_true rfl, rfl⟩ rfl
theorem k46_12 : qx sc D 46 12 [l0, l1] (vi x :: st) u bb σ Q ↔ qx sc D 46 13 [l0, vi x] st u bb σ Q := r_istore_n (k := 1) (by decide +kernel) (Nat.le_of_ble_eq_true rfl)
theorem k46_13 : qx sc D 46 13 [vr a, l1] st u bb σ Q ↔ qx sc D 46 14 [vr a, l1] (vr a :: st) u bb σ Q := r_aload_n (k := 0) (by decide +kernel) rfl
theorem k46_14 : qx sc D 46 14 ls (vr a :: st) u bb σ Q ↔ qx sc D 46 15 ls (vr a :: vr a :: st) u bb σ Q := r_dupA (by decide +kernel)
theorem k46_15 : qx sc D 46 15 ls (vr 4 :: st) u bb σ Q ↔ qx sc D 46 18 ls (vi (σ 4 1) :: st) u bb σ Q := r_getI (idx := 33) (c := 9) (k := 1) (by decide +kernel)
theorem k46_18 : qx sc D 46 18 ls st u bb σ Q ↔ qx sc D 46 19 ls (vi 1 :: st) u bb σ Q := r_iconst (by decide +kernel)
theorem k46_19 : qx sc D 46 19 ls (vi b' :: vi a' :: st) u bb σ Q ↔ q_R (a' + b') ∧ qx sc D 46 20 ls (vi (a' + b') :: st) u bb σ Q := r_iadd (by decide +kernel)
theorem k46_20 : qx sc D 46 20 ls (vi x :: vr 4 :: st) u bb σ Q ↔ qx sc D 46 23 ls st u bb (q_up σ 4 1 x) Q := r_putI (idx := 33) (c := 9) (k := 1) (by decide +kernel)
theorem k46_23 : qx sc D 46 23 [vr a, l1] st u bb σ Q ↔ qx sc D 46 24 [vr a, l1] (vr a :: st) u bb σ Q := r_aload_n (k := 0) (by decide +kernel) rfl
theorem k46_24 : qx sc D 46 24 ls (vr 4 :: st) u bb σ Q ↔ 0 ≤ σ 4 3 ∧ qx sc D 46 27 ls (vr (σ 4 3).toNat :: st) u bb σ Q := r_getM (idx := 24) (c := 9) (k := 3) (by decide +kernel)
theorem k46_27 (hc : q_C c) : qx sc D 46 27 ls (vr c :: st) u bb σ Q ↔ qx sc D 46 30 ls (vr (c + 3) :: st) u bb σ Q := r_getRc (idx := 96) (k := 5) (by decide +kernel) hc
theorem k46_30 : qx sc D 46 30 [l0, vi x] st u bb σ Q ↔ qx sc D 46 31 [l0, vi x] (vi x :: st) u bb σ Q := r_iload_n (k := 1) (by decide +kernel) rfl
theorem k46_31 : qx sc D 46 31 [vr a, l1] st u bb σ Q ↔ qx sc D 46 32 [vr a, l1] (vr a :: st) u bb σ Q := r_aload_n (k := 0) (by decide +kernel) rfl
theorem k46_32 : qx sc (D + 1) 46 32 ls [vr 4, vi x20, vr a21] (0, 0) bb σ Q ↔ qx sc D 57 0 [vr 4, vn] [] (0, 0) bb σ (q_kn sc (D + 1) 46 35 ls [vi x20, vr a21] (0, 0) Q) := r_callv (idx := 88) (n := 0) (m := 2) (by decide +kernel) rfl (Nat.le_of_ble_eq_true rfl) ⟨Nat.le_of_ble_eq_true rfl, Nat.le_of_ble_eq_true rfl, rfl⟩ rfl
theorem k46_35 : qx sc D 46 35 ls (vi x :: vi i :: vr a :: st) u bb σ Q ↔ (q_ty a = 0 ∧ 0 ≤ i ∧ i < q_ln a) ∧ qx sc D 46 36 ls st u bb (q_up σ a i x) Q := r_iast (by decide +kernel)
theorem k46_36 : qx sc D 46 36 [vr a, l1] st u bb σ Q ↔ qx sc D 46 37 [vr a, l1] (vr a :: st) u bb σ Q := r_aload_n (k := 0) (by decide +kernel) rfl
theorem k46_37 : qx sc D 46 37 ls (vr 4 :: st) u bb σ Q ↔ 0 ≤ σ 4 3 ∧ qx sc D 46 40 ls (vr (σ 4 3).toNat :: st) u bb σ Q := r_getM (idx := 24) (c := 9) (k := 3) (by decide +kernel)
theorem k46_40 (hc : q_C c) : qx sc D 46 40 ls (vr c :: st) u bb σ Q ↔ qx sc D 46 43 ls (vr (c + 3) :: st) u bb σ Q := r_getRc (idx := 96) (k := 5) (by decide +kernel) hc
theorem k46_43 : qx sc D 46 43 [l0, vi x] st u bb σ Q ↔ qx sc D 46 44 [l0, vi x] (vi x :: st) u bb σ Q := r_iload_n (k := 1) (by decide +kernel) rfl
theorem k46_44 : qx sc D 46 44 ls (vi i :: vr a :: st) u bb σ Q ↔ (q_ty a = 0 ∧ 0 ≤ i ∧ i < q_ln a) ∧ qx sc D 46 45 ls (vi (σ a i) :: st) u bb σ Q := r_iald (by decide +kernel)
theorem k46_45 : qx sc D 46 45 ls st u bb σ Q ↔ qx sc D 46 46 ls (vi (-1) :: st) u bb σ Q := r_iconst (by decide +kernel)
theorem k46_46 : qx sc D 46 46 ls (vi b' :: vi a' :: st) u bb σ Q ↔ (a' = b' → qx sc D 46 62 ls st u bb σ Q) ∧ (¬ (a' = b') → qx sc D 46 49 ls st u bb σ Q) := r_ic_eq (off := 16) (t := 62) (by decide +kernel)
theorem k46_49 : qx sc D 46 49 [vr a, l1] st u bb σ Q ↔ qx sc D 46 50 [vr a, l1] (vr a :: st) u bb σ Q := r_aload_n (k := 0) (by decide +kernel) rfl
theorem k46_50 : qx sc D 46 50 ls st u bb σ Q ↔ qx sc D 46 52 ls (vi 59 :: st) u bb σ Q := r_bipush (by decide +kernel)
theorem k46_52 : qx sc (D + 1) 46 52 ls [vi x0, vr 4] (0, 0) bb σ Q ↔ qx sc D 51 0 [vr 4, vi x0] [] (0, 0) bb σ (q_kn sc (D + 1) 46 55 ls [] (0, 0) Q) := r_callv (idx := 64) (n := 1) (m := 2) (by decide +kernel) rfl (Nat.le_of_ble_eq_true rfl) ⟨Nat.le_of_ble_eq_true rfl, Nat.le_of_ble_eq_true rfl, rfl⟩ rfl
theorem k46_55 : qx sc D 46 55 ls (vi x :: st) u bb σ Q ↔ (x = 0 → qx sc D 46 62 ls st u bb σ Q) ∧ (¬ (x = 0) → qx sc D 46 58 ls st u bb σ Q) := r_if_eq (off := 7) (t := 62) (by decide +kernel)
theorem k46_58 : qx sc D 46 58 ls st u bb σ Q ↔ qx sc D 46 59 ls (vi 1 :: st) u bb σ Q := r_iconst (by decide +kernel)
theorem k46_59 : qx sc D 46 59 ls st u bb σ Q ↔ qx sc D 46 63 ls st u bb σ Q := r_goto (off := 4) (by decide +kernel)
theorem k46_62 : qx sc D 46 62 ls st u bb σ Q ↔ qx sc D 46 63 ls (vi 0 :: st) u bb σ Q := r_iconst (by decide +kernel)
theorem k46_63 : qx sc D 46 63 ls [vi x] (0, 0) bb σ Q ↔ (x = 0 ∨ x = 1) ∧ Q (.inl (some (vi x))) bb σ := r_retB (by decide +kernel)
-- 47: RowProver$Reader.relation(I)Z
theorem k47_0 : qx sc D 47 0 [vr a, l1] st u bb σ Q ↔ qx sc D 47 1 [vr a, l1] (vr a :: st) u bb σ Q := r_aload_n (k := 0) (by decide +kernel) rfl
theorem k47_1 : qx sc D 47 1 ls st u bb σ Q ↔ qx sc D 47 3 ls (vi 60 :: st) u bb σ Q := r_bipush (by decide +kernel)
theorem k47_3 : qx sc (D + 1) 47 3 ls [vi x0, vr 4] (0, 0) bb σ Q ↔ qx sc D 51 0 [vr 4, vi x0] [] (0, 0) bb σ (q_kn sc (D + 1) 47 6 ls [] (0, 0) Q) := r_callv (idx := 64) (n := 1) (m := 2) (by decide +kernel) rfl (Nat.le_of_ble_eq_true rfl) ⟨Nat.le_of_ble_eq_true rfl, Nat.le_of_ble_eq_true rfl, rfl⟩ rfl
theorem k47_6 : qx sc D 47 6 ls (vi x :: st) u bb σ Q ↔ (x = 0 → qx sc D 47 25 ls st u bb σ Q) ∧ (¬ (x = 0) → qx sc D 47 9 ls st u bb σ Q) := r_if_eq (off := 19) (t := 25) (by decide +kernel)
theorem k47_9 : qx sc D 47 9 [vr a, l1] st u bb σ Q ↔ qx sc D 47 10 [vr a, l1] (vr a :: st) u bb σ Q := r_aload_n (k := 0) (by decide +kernel) rfl
theorem k47_10 : qx sc D 47 10 ls (vr 4 :: st) u bb σ Q ↔ 0 ≤ σ 4 3 ∧ qx sc D 47 13 ls (vr (σ 4 3).toNat :: st) u bb σ Q := r_getM (idx := 24) (c := 9) (k := 3) (by decide +kernel)
theorem k47_13 (hc : q_C c) : qx sc D 47 13 ls (vr c :: st) u bb σ Q ↔ qx sc D 47 16 ls (vr (c + 16) :: st) u bb σ Q := r_getRc (idx := 137) (k := 18) (by decide +kernel) hc
theorem k47_16 (hc : q_C c) : qx sc D 47 16 ls (vr (c + 16) :: st) u bb σ Q ↔ qx sc D 47 19 ls (vr (c + 17) :: st) u bb σ Q := r_getRt (idx := 153) (k := 0) (j := 1) (by decide +kernel) hc
theorem k47_19 : qx sc D 47 19 [l0, vi x] st u bb σ Q ↔ qx sc D 47 20 [l0, vi x] (vi x :: st) u bb σ Q := r_iload_n (k := 1) (by decide +kernel) rfl
theorem k47_20 : qx sc D 47 20 ls st u bb σ Q ↔ qx sc D 47 21 ls (vi 0 :: st) u bb σ Q := r_iconst (by decide +kernel)
theorem k47_21 : qx sc D 47 21 ls (vi x :: vi i :: vr a :: st) u bb σ Q ↔ (q_ty a = 0 ∧ 0 ≤ i ∧ i < q_ln a) ∧ qx sc D 47 22 ls st u bb (q_up σ a i x) Q := r_iast (by decide +kernel)
theorem k47_22 : qx sc D 47 22 ls st u bb σ Q ↔ qx sc D 47 71 ls st u bb σ Q := r_goto (off := 49) (by decide +kernel)
theorem k47_25 : qx sc D 47 25 [vr a, l1] st u bb σ Q ↔ qx sc D 47 26 [vr a, l1] (vr a :: st) u bb σ Q := r_aload_n (k := 0) (by decide +kernel) rfl
theorem k47_26 : qx sc D 47 26 ls st u bb σ Q ↔ qx sc D 47 29 ls (vi 263 :: st) u bb σ Q := r_sipush (by decide +kernel)
theorem k47_29 : qx sc (D + 1) 47 29 ls [vi x0, vr 4] (0, 0) bb σ Q ↔ qx sc D 51 0 [vr 4, vi x0] [] (0, 0) bb σ (q_kn sc (D + 1) 47 32 ls [] (0, 0) Q) := r_callv (idx := 64) (n := 1) (m := 2) (by decide +kernel) rfl (Nat.le_of_ble_eq_true rfl) ⟨Nat.le_of_ble_eq_true rfl, Nat.le_of_ble_eq_true rfl, rfl⟩ rfl
theorem k47_32 : qx sc D 47 32 ls (vi x :: st) u bb σ Q ↔ (x = 0 → qx sc D 47 51 ls st u bb σ Q) ∧ (¬ (x = 0) → qx sc D 47 35 ls st u bb σ Q) := r_if_eq (off := 19) (t := 51) (by decide +kernel)
theorem k47_35 : qx sc D 47 35 [vr a, l1] st u bb σ Q ↔ qx sc D 47 36 [vr a, l1] (vr a :: st) u bb σ Q := r_aload_n (k := 0) (by decide +kernel) rfl
theorem k47_36 : qx sc D 47 36 ls (vr 4 :: st) u bb σ Q ↔ 0 ≤ σ 4 3 ∧ qx sc D 47 39 ls (vr (σ 4 3).toNat :: st) u bb σ Q := r_getM (idx := 24) (c := 9) (k := 3) (by decide +kernel)
theorem k47_39 (hc : q_C c) : qx sc D 47 39 ls (vr c :: st) u bb σ Q ↔ qx sc D 47 42 ls (vr (c + 16) :: st) u bb σ Q := r_getRc (idx := 137) (k := 18) (by decide +kernel) hc
theorem k47_42 (hc : q_C c) : qx sc D 47 42 ls (vr (c + 16) :: st) u bb σ Q ↔ qx sc D 47 45 ls (vr (c + 17) :: st) u bb σ Q := r_getRt (idx := 153) (k := 0) (j := 1) (by decide +kernel) hc
theorem k47_45 : qx sc D 47 45 [l0, vi x] st u bb σ Q ↔ qx sc D 47 46 [l0, vi x] (vi x :: st) u bb σ Q := r_iload_n (k := 1) (by decide +kernel) rfl
theorem k47_46 : qx sc D 47 46 ls st u bb σ Q ↔ qx sc D 47 47 ls (vi 1 :: st) u bb σ Q := r_iconst (by decide +kernel)
theorem k47_47 : qx sc D 47 47 ls (vi x :: vi i :: vr a :: st) u bb σ Q ↔ (q_ty a = 0 ∧ 0 ≤ i ∧ i < q_ln a) ∧ qx sc D 47 48 ls st u bb (q_up σ a i x) Q := r_iast (by decide +kernel)
theorem k47_48 : qx sc D 47 48 ls st u bb σ Q ↔ qx sc D 47 71 ls st u bb σ Q := r_goto (off := 23) (by decide +kernel)
theorem k47_51 : qx sc D 47 51 [vr a, l1] st u bb σ Q ↔ qx sc D 47 52 [vr a, l1] (vr a :: st) u bb σ Q := r_aload_n (k := 0) (by decide +kernel) rfl
theorem k47_52 : qx sc D 47 52 ls (vr 4 :: st) u bb σ Q ↔ 0 ≤ σ 4 3 ∧ qx sc D 47 55 ls (vr (σ 4 3).toNat :: st) u bb σ Q := r_getM (idx := 24) (c := 9) (k := 3) (by decide +kernel)
theorem k47_55 (hc : q_C c) : qx sc D 47 55 ls (vr c :: st) u bb σ Q ↔ qx sc D 47 58 ls (vr (c + 16) :: st) u bb σ Q := r_getRc (idx := 137) (k := 18) (by decide +kernel) hc
theorem k47_58 (hc : q_C c) : qx sc D 47 58 ls (vr (c + 16) :: st) u bb σ Q ↔ qx sc D 47 61 ls (vr (c + 17) :: st) u bb σ Q := r_getRt (idx := 153) (k := 0) (j := 1) (by decide +kernel) hc
theorem k47_61 : qx sc D 47 61 [l0, vi x] st u bb σ Q ↔ qx sc D 47 62 [l0, vi x] (vi x :: st) u bb σ Q := r_iload_n (k := 1) (by decide +kernel) rfl
theorem k47_62 : qx sc D 47 62 ls st u bb σ Q ↔ qx sc D 47 63 ls (vi 2 :: st) u bb σ Q := r_iconst (by decide +kernel)
theorem k47_63 : qx sc D 47 63 ls (vi x :: vi i :: vr a :: st) u bb σ Q ↔ (q_ty a = 0 ∧ 0 ≤ i ∧ i < q_ln a) ∧ qx sc D 47 64 ls st u bb (q_up σ a i x) Q := r_iast (by decide +kernel)
theorem k47_64 : qx sc D 47 64 [vr a, l1] st u bb σ Q ↔ qx sc D 47 65 [vr a, l1] (vr a :: st) u bb σ Q := r_aload_n (k := 0) (by decide +kernel) rfl
theorem k47_65 : qx sc D 47 65 ls st u bb σ Q ↔ qx sc D 47 67 ls (vi 61 :: st) u bb σ Q := r_bipush (by decide +kernel)
theorem k47_67 : qx sc (D + 1) 47 67 ls [vi x0, vr 4] (0, 0) bb σ Q ↔ qx sc D 51 0 [vr 4, vi x0] [] (0, 0) bb σ (q_kn sc (D + 1) 47 70 ls [] (0, 0) Q) := r_callv (idx := 64) (n := 1) (m := 2) (by decide +kernel) rfl (Nat.le_of_ble_eq_true rfl) ⟨Nat.le_of_ble_eq_true rfl, Nat.le_of_ble_eq_true rfl, rfl⟩ rfl
theorem k47_70 : qx sc D 47 70 ls [vi x] (0, 0) bb σ Q ↔ (x = 0 ∨ x = 1) ∧ Q (.inl (some (vi x))) bb σ := r_retB (by decide +kernel)
theorem k47_71 : qx sc D 47 71 ls st u bb σ Q ↔ qx sc D 47 72 ls (vi 1 :: st) u bb σ Q := r_iconst (by decide +kernel)
theorem k47_72 : qx sc D 47 72 ls [vi x] (0, 0) bb σ Q ↔ (x = 0 ∨ x = 1) ∧ Q (.inl (some (vi x))) bb σ := r_retB (by decide +kernel)
-- 48: RowProver$Reader.repetition(I)Z
theorem k48_0 : qx sc D 48 0 [vr a, l1, l2] st u bb σ Q ↔ qx sc D 48 1 [vr a, l1, l2] (vr a :: st) u bb σ Q := r_aload_n (k := 0) (by decide +kernel) rfl
theorem k48_1 : qx sc D 48 1 ls (vr 4 :: st) u bb σ Q ↔ 0 ≤ σ 4 3 ∧ qx sc D 48 4 ls (vr (σ 4 3).toNat :: st) u bb σ Q := r_getM (idx := 24) (c := 9) (k := 3) (by decide +kernel)
theorem k48_4 : qx sc D 48 4 ls st u bb σ Q ↔ qx sc D 48 5 ls (vi 4 :: st) u bb σ Q := r_iconst (by decide +kernel)
theorem k48_5 : qx sc D 48 5 [vr a, l1, l2] st u bb σ Q ↔ qx sc D 48 6 [vr a, l1, l2] (vr a :: st) u bb σ Q := r_aload_n (k := 0) (by decide +kernel) rfl
theorem k48_6 : qx sc D 48 6 ls (vr 4 :: st) u bb σ Q ↔ qx sc D 48 9 ls (vi (σ 4 2) :: st) u bb σ Q := r_getI (idx := 37) (c := 9) (k := 2) (by decide +kernel)
theorem k48_9 (hc : q_C c) : qx sc (D + 1) 48 9 ls [vi x1, vi x0, vr c] (0, 0) bb σ Q ↔ qx sc D 12 0 [vr c, vi x0, vi x1, vn] [] (0, 0) bb σ (q_kn sc (D + 1) 48 12 ls [] (0, 0) Q) := r_callc (idx := 92) (n := 2) (m := 4) (by decide +kernel) hc rfl (Nat.le_of_ble_eq_true rfl) ⟨Nat.le_of_ble_eq_true rfl, Nat.le_of_ble_eq_true rfl, rfl⟩ rfl
theorem k48_12 : qx sc D 48 12 [l0, l1, l2] (vi x :: st) u bb σ Q ↔ qx sc D 48 13 [l0, l1, vi x] st u bb σ Q := r_istore_n (k := 2) (by decide +kernel) (Nat.le_of_ble_eq_true rfl)
theorem k48_13 : qx sc D 48 13 [vr a, l1, l2] st u bb σ Q ↔ qx sc D 48 14 [vr a, l1, l2] (vr a :: st) u bb σ Q := r_aload_n (k := 0) (by decide +kernel) rfl
theorem k48_14 : qx sc D 48 14 ls (vr a :: st) u bb σ Q ↔ qx sc D 48 15 ls (vr a :: vr a :: st) u bb σ Q := r_dupA (by decide +kernel)
theorem k48_15 : qx sc D 48 15 ls (vr 4 :: st) u bb σ Q ↔ qx sc D 48 18 ls (vi (σ 4 1) :: st) u bb σ Q := r_getI (idx := 33) (c := 9) (k := 1) (by decide +kernel)
theorem k48_18 : qx sc D 48 18 ls st u bb σ Q ↔ qx sc D 48 19 ls (vi 1 :: st) u bb σ Q := r_iconst (by decide +kernel)
theorem k48_19 : qx sc D 48 19 ls (vi b' :: vi a' :: st) u bb σ Q ↔ q_R (a' + b') ∧ qx sc D 48 20 ls (vi (a' + b') :: st) u bb σ Q := r_iadd (by decide +kernel)
theorem k48_20 : qx sc D 48 20 ls (vi x :: vr 4 :: st) u bb σ Q ↔ qx sc D 48 23 ls st u bb (q_up σ 4 1 x) Q := r_putI (idx := 33) (c := 9) (k := 1) (by decide +kernel)
theorem k48_23 : qx sc D 48 23 [vr a, l1, l2] st u bb σ Q ↔ qx sc D 48 24 [vr a, l1, l2] (vr a :: st) u bb σ Q := r_aload_n (k := 0) (by decide +kernel) rfl
theorem k48_24 : qx sc D 48 24 [vr a, l1, l2] st u bb σ Q ↔ qx sc D 48 25 [vr a, l1, l2] (vr a :: st) u bb σ Q := r_aload_n (k := 0) (by decide +kernel) rfl
theorem k48_25 : qx sc D 48 25 ls (vr 4 :: st) u bb σ Q ↔ 0 ≤ σ 4 3 ∧ qx sc D 48 28 ls (vr (σ 4 3).toNat :: st) u bb σ Q := r_getM (idx := 24) (c := 9) (k := 3) (by decide +kernel)
theorem k48_28 : qx sc D 48 28 [l0, l1, vi x] st u bb σ Q ↔ qx sc D 48 29 [l0, l1, vi x] (vi x :: st) u bb σ Q := r_iload_n (k := 2) (by decide +kernel) rfl
theorem k48_29 (hc : q_C c) : qx sc (D + 1) 48 29 ls [vi x0, vr c, vr a20] (0, 0) bb σ Q ↔ qx sc D 11 0 [vr c, vi x0, vn] [] (0, 0) bb σ (q_kn sc (D + 1) 48 32 ls [vr a20] (0, 0) Q) := r_callc (idx := 125) (n := 1) (m := 3) (by decide +kernel) hc rfl (Nat.le_of_ble_eq_true rfl) ⟨Nat.le_of_ble_eq_true rfl, Nat.le_of_ble_eq_true rfl, rfl⟩ rfl
theorem k48_32 : qx sc D 48 32 ls (vi x :: vr 4 :: st) u bb σ Q ↔ qx sc D 48 35 ls st u bb (q_up σ 4 2 x) Q := r_putI (idx := 37) (c := 9) (k := 2) (by decide +kernel)
theorem k48_35 : qx sc D 48 35 [vr a, l1, l2] st u bb σ Q ↔ qx sc D 48 36 [vr a, l1, l2] (vr a :: st) u bb σ Q := r_aload_n (k := 0) (by decide +kernel) rfl
theorem k48_36 : qx sc D 48 36 [l0, l1, vi x] st u bb σ Q ↔ qx sc D 48 37 [l0, l1, vi x] (vi x :: st) u bb σ Q := r_iload_n (k := 2) (by decide +kernel) rfl
theorem k48_37 : qx sc (D + 1) 48 37 ls [vi x0, vr 4] (0, 0) bb σ Q ↔ qx sc D 54 0 [vr 4, vi x0] [] (0, 0) bb σ (q_kn sc (D + 1) 48 40 ls [] (0, 0) Q) := r_callv (idx := 113) (n := 1) (m := 2) (by decide +kernel) rfl (Nat.le_of_ble_eq_true rfl) ⟨Nat.le_of_ble_eq_true rfl, Nat.le_of_ble_eq_true rfl, rfl⟩ rfl
theorem k48_40 : qx sc D 48 40 ls (vi x :: st) u bb σ Q ↔ (x = 0 → qx sc D 48 51 ls st u bb σ Q) ∧ (¬ (x = 0) → qx sc D 48 43 ls st u bb σ Q) := r_if_eq (off := 11) (t := 51) (by decide +kernel)
theorem k48_43 : qx sc D 48 43 [vr a, l1, l2] st u bb σ Q ↔ qx sc D 48 44 [vr a, l1, l2] (vr a :: st) u bb σ Q := r_aload_n (k := 0) (by decide +kernel) rfl
theorem k48_44 : qx sc D 48 44 [l0, vi x, l2] st u bb σ Q ↔ qx sc D 48 45 [l0, vi x, l2] (vi x :: st) u bb σ Q := r_iload_n (k := 1) (by decide +kernel) rfl
theorem k48_45 : qx sc (D + 1) 48 45 ls [vi x0, vr 4] (0, 0) bb σ Q ↔ qx sc D 40 0 [vr 4, vi x0] [] (0, 0) bb σ (q_kn sc (D + 1) 48 48 ls [] (0, 0) Q) := r_callv (idx := 116) (n := 1) (m := 2) (by decide +kernel) rfl (Nat.le_of_ble_eq_true rfl) ⟨Nat.le_of_ble_eq_true rfl, Nat.le_of_ble_eq_true rfl, rfl⟩ rfl
theorem k48_48 : qx sc D 48 48 ls (vi x :: st) u bb σ Q ↔ (x = 0 → qx sc D 48 51 ls st u bb σ Q) ∧ (¬ (x = 0) → qx sc D 48 53 ls st u bb σ Q) := r_if_ne (off := 5) (t := 53) (by decide +kernel)
theorem k48_51 : qx sc D 48 51 ls st u bb σ Q ↔ qx sc D 48 52 ls (vi 0 :: st) u bb σ Q := r_iconst (by decide +kernel)
theorem k48_52 : qx sc D 48 52 ls [vi x] (0, 0) bb σ Q ↔ (x = 0 ∨ x = 1) ∧ Q (.inl (some (vi x))) bb σ := r_retB (by decide +kernel)
theorem k48_53 : qx sc D 48 53 [vr a, l1, l2] st u bb σ Q ↔ qx sc D 48 54 [vr a, l1, l2] (vr a :: st) u bb σ Q := r_aload_n (k := 0) (by decide +kernel) rfl
theorem k48_54 : qx sc D 48 54 [vr a, l1, l2] st u bb σ Q ↔ qx sc D 48 55 [vr a, l1, l2] (vr a :: st) u bb σ Q := r_aload_n (k := 0) (by decide +kernel) rfl
theorem k48_55 : qx sc D 48 55 ls (vr 4 :: st) u bb σ Q ↔ 0 ≤ σ 4 3 ∧ qx sc D 48 58 ls (vr (σ 4 3).toNat :: st) u bb σ Q := r_getM (idx := 24) (c := 9) (k := 3) (by decide +kernel)
theorem k48_58 (hc : q_C c) : qx sc D 48 58 ls (vr c :: st) u bb σ Q ↔ qx sc D 48 61 ls (vr (c + 9) :: st) u bb σ Q := r_getRc (idx := 128) (k := 11) (by decide +kernel) hc
theorem k48_61 : qx sc D 48 61 [l0, l1, vi x] st u bb σ Q ↔ qx sc D 48 62 [l0, l1, vi x] (vi x :: st) u bb σ Q := r_iload_n (k := 2) (by decide +kernel) rfl
theorem k48_62 : qx sc D 48 62 ls (vi i :: vr a :: st) u bb σ Q ↔ (q_ty a = 0 ∧ 0 ≤ i ∧ i < q_ln a) ∧ qx sc D 48 63 ls (vi (σ a i) :: st) u bb σ Q := r_iald (by decide +kernel)
theorem k48_63 : qx sc D 48 63 ls (vi x :: vr 4 :: st) u bb σ Q ↔ qx sc D 48 66 ls st u bb (q_up σ 4 2 x) Q := r_putI (idx := 37) (c := 9) (k := 2) (by decide +kernel)
theorem k48_66 : qx sc D 48 66 [vr a, l1, l2] st u bb σ Q ↔ qx sc D 48 67 [vr a, l1, l2] (vr a :: st) u bb σ Q := r_aload_n (k := 0) (by decide +kernel) rfl
theorem k48_67 : qx sc D 48 67 ls (vr 4 :: st) u bb σ Q ↔ 0 ≤ σ 4 3 ∧ qx sc D 48 70 ls (vr (σ 4 3).toNat :: st) u bb σ Q := r_getM (idx := 24) (c := 9) (k := 3) (by decide +kernel)
theorem k48_70 (hc : q_C c) : qx sc D 48 70 ls (vr c :: st) u bb σ Q ↔ qx sc D 48 73 ls (vr (c + 10) :: st) u bb σ Q := r_getRc (idx := 119) (k := 12) (by decide +kernel) hc
theorem k48_73 : qx sc D 48 73 [l0, l1, vi x] st u bb σ Q ↔ qx sc D 48 74 [l0, l1, vi x] (vi x :: st) u bb σ Q := r_iload_n (k := 2) (by decide +kernel) rfl
theorem k48_74 : qx sc D 48 74 [vr a, l1, l2] st u bb σ Q ↔ qx sc D 48 75 [vr a, l1, l2] (vr a :: st) u bb σ Q := r_aload_n (k := 0) (by decide +kernel) rfl
theorem k48_75 : qx sc D 48 75 ls (vr 4 :: st) u bb σ Q ↔ 0 ≤ σ 4 3 ∧ qx sc D 48 78 ls (vr (σ 4 3).toNat :: st) u bb σ Q := r_getM (idx := 24) (c := 9) (k := 3) (by decide +kernel)
theorem k48_78 (hc : q_C c) : qx sc D 48 78 ls (vr c :: st) u bb σ Q ↔ qx sc D 48 81 ls (vi (σ c 0) :: st) u bb σ Q := r_getIc (idx := 71) (k := 0) (by decide +kernel) hc
theorem k48_81 : qx sc D 48 81 ls (vi x :: vi i :: vr a :: st) u bb σ Q ↔ (q_ty a = 0 ∧ 0 ≤ i ∧ i < q_ln a) ∧ qx sc D 48 82 ls st u bb (q_up σ a i x) Q := r_iast (by decide +kernel)
theorem k48_82 : qx sc D 48 82 [vr a, l1, l2] st u bb σ Q ↔ qx sc D 48 83 [vr a, l1, l2] (vr a :: st) u bb σ Q := r_aload_n (k := 0) (by decide +kernel) rfl
theorem k48_83 : qx sc D 48 83 ls (vr 4 :: st) u bb σ Q ↔ 0 ≤ σ 4 3 ∧ qx sc D 48 86 ls (vr (σ 4 3).toNat :: st) u bb σ Q := r_getM (idx := 24) (c := 9) (k := 3) (by decide +kernel)
theorem k48_86 (hc : q_C c) : qx sc D 48 86 ls (vr c :: st) u bb σ Q ↔ qx sc D 48 89 ls (vr (c + 11) :: st) u bb σ Q := r_getRc (idx := 122) (k := 13) (by decide +kernel) hc
theorem k48_89 : qx sc D 48 89 [l0, l1, vi x] st u bb σ Q ↔ qx sc D 48 90 [l0, l1, vi x] (vi x :: st) u bb σ Q := r_iload_n (k := 2) (by decide +kernel) rfl
theorem k48_90 : qx sc D 48 90 [vr a, l1, l2] st u bb σ Q ↔ qx sc D 48 91 [vr a, l1, l2] (vr a :: st) u bb σ Q := r_aload_n (k := 0) (by decide +kernel) rfl
theorem k48_91 : qx sc D 48 91 ls (vr 4 :: st) u bb σ Q ↔ 0 ≤ σ 4 3 ∧ qx sc D 48 94 ls (vr (σ 4 3).toNat :: st) u bb σ Q := r_getM (idx := 24) (c := 9) (k := 3) (by decide +kernel)
theorem k48_94 (hc : q_C c) : qx sc D 48 94 ls (vr c :: st) u bb σ Q ↔ qx sc D 48 97 ls (vi (σ c 0) :: st) u bb σ Q := r_getIc (idx := 71) (k := 0) (by decide +kernel) hc
theorem k48_97 : qx sc D 48 97 ls (vi x :: vi i :: vr a :: st) u bb σ Q ↔ (q_ty a = 0 ∧ 0 ≤ i ∧ i < q_ln a) ∧ qx sc D 48 98 ls st u bb (q_up σ a i x) Q := r_iast (by decide +kernel)
theorem k48_98 : qx sc D 48 98 ls st u bb σ Q ↔ qx sc D 48 99 ls (vi 1 :: st) u bb σ Q := r_iconst (by decide +kernel)
theorem k48_99 : qx sc D 48 99 ls [vi x] (0, 0) bb σ Q ↔ (x = 0 ∨ x = 1) ∧ Q (.inl (some (vi x))) bb σ := r_retB (by decide +kernel)
-- 49: RowProver$Reader.rowsTold()Z
theorem k49_0 : qx sc D 49 0 ls st u bb σ Q ↔ qx sc D 49 1 ls (vi 0 :: st) u bb σ Q := r_iconst (by decide +kernel)
theorem k49_1 : qx sc D 49 1 [l0, l1, l2, l3] (vi x :: st) u bb σ Q ↔ qx sc D 49 2 [l0, vi x, l2, l3] st u bb σ Q := r_istore_n (k := 1) (by decide +kernel) (Nat.le_of_ble_eq_true rfl)
theorem k49_2 : qx sc D 49 2 [l0, vi x, l2, l3] st u bb σ Q ↔ qx sc D 49 3 [l0, vi x, l2, l3] (vi x :: st) u bb σ Q := r_iload_n (k := 1) (by decide +kernel) rfl
theorem k49_3 : qx sc D 49 3 ls st u bb σ Q ↔ qx sc D 49 4 ls (vi 3 :: st) u bb σ Q := r_iconst (by decide +kernel)
theorem k49_4 : qx sc D 49 4 ls (vi b' :: vi a' :: st) u bb σ Q ↔ (b' < a' → qx sc D 49 106 ls st u bb σ Q) ∧ (¬ (b' < a') → qx sc D 49 7 ls st u bb σ Q) := r_ic_gt (off := 102) (t := 106) (by decide +kernel)
theorem k49_7 : qx sc D 49 7 [vr a, l1, l2, l3] st u bb σ Q ↔ qx sc D 49 8 [vr a, l1, l2, l3] (vr a :: st) u bb σ Q := r_aload_n (k := 0) (by decide +kernel) rfl
theorem k49_8 : qx sc D 49 8 ls st u bb σ Q ↔ qx sc D 49 11 ls (vi 256 :: st) u bb σ Q := r_sipush (by decide +kernel)
theorem k49_11 : qx sc (D + 1) 49 11 ls [vi x0, vr 4] (0, 0) bb σ Q ↔ qx sc D 51 0 [vr 4, vi x0] [] (0, 0) bb σ (q_kn sc (D + 1) 49 14 ls [] (0, 0) Q) := r_callv (idx := 64) (n := 1) (m := 2) (by decide +kernel) rfl (Nat.le_of_ble_eq_true rfl) ⟨Nat.le_of_ble_eq_true rfl, Nat.le_of_ble_eq_true rfl, rfl⟩ rfl
theorem k49_14 : qx sc D 49 14 ls (vi x :: st) u bb σ Q ↔ (x = 0 → qx sc D 49 106 ls st u bb σ Q) ∧ (¬ (x = 0) → qx sc D 49 17 ls st u bb σ Q) := r_if_eq (off := 92) (t := 106) (by decide +kernel)
theorem k49_17 : qx sc D 49 17 [vr a, l1, l2, l3] st u bb σ Q ↔ qx sc D 49 18 [vr a, l1, l2, l3] (vr a :: st) u bb σ Q := r_aload_n (k := 0) (by decide +kernel) rfl
theorem k49_18 : qx sc D 49 18 ls (vr 4 :: st) u bb σ Q ↔ qx sc D 49 21 ls (vr 5 :: st) u bb σ Q := r_getR (idx := 14) (c := 9) (k := 0) (by decide +kernel)
theorem k49_21 : qx sc D 49 21 ls (vr 5 :: st) u bb σ Q ↔ qx sc D 49 24 ls (vr 6 :: st) u bb σ Q := r_getR (idx := 48) (c := 12) (k := 3) (by decide +kernel)
theorem k49_24 : qx sc D 49 24 [vr a, l1, l2, l3] st u bb σ Q ↔ qx sc D 49 25 [vr a, l1, l2, l3] (vr a :: st) u bb σ Q := r_aload_n (k := 0) (by decide +kernel) rfl
theorem k49_25 : qx sc D 49 25 ls (vr 4 :: st) u bb σ Q ↔ qx sc D 49 28 ls (vi (σ 4 1) :: st) u bb σ Q := r_getI (idx := 33) (c := 9) (k := 1) (by decide +kernel)
theorem k49_28 : qx sc D 49 28 ls (vi i :: vr a :: st) u bb σ Q ↔ (q_ty a = 0 ∧ 0 ≤ i ∧ i < q_ln a) ∧ qx sc D 49 29 ls (vi (σ a i) :: st) u bb σ Q := r_iald (by decide +kernel)
theorem k49_29 : qx sc D 49 29 ls st u bb σ Q ↔ qx sc D 49 31 ls (vi 65 :: st) u bb σ Q := r_bipush (by decide +kernel)
theorem k49_31 : qx sc D 49 31 ls (vi b' :: vi a' :: st) u bb σ Q ↔ q_R (a' - b') ∧ qx sc D 49 32 ls (vi (a' - b') :: st) u bb σ Q := r_isub (by decide +kernel)
theorem k49_32 : qx sc D 49 32 [l0, l1, l2, l3] (vi x :: st) u bb σ Q ↔ qx sc D 49 33 [l0, l1, vi x, l3] st u bb σ Q := r_istore_n (k := 2) (by decide +kernel) (Nat.le_of_ble_eq_true rfl)
theorem k49_33 : qx sc D 49 33 [l0, l1, vi x, l3] st u bb σ Q ↔ qx sc D 49 34 [l0, l1, vi x, l3] (vi x :: st) u bb σ Q := r_iload_n (k := 2) (by decide +kernel) rfl
theorem k49_34 : qx sc D 49 34 ls (vi x :: st) u bb σ Q ↔ (x < 0 → qx sc D 49 55 ls st u bb σ Q) ∧ (¬ (x < 0) → qx sc D 49 37 ls st u bb σ Q) := r_if_lt (off := 21) (t := 55) (by decide +kernel)
theorem k49_37 : qx sc D 49 37 [l0, l1, vi x, l3] st u bb σ Q ↔ qx sc D 49 38 [l0, l1, vi x, l3] (vi x :: st) u bb σ Q := r_iload_n (k := 2) (by decide +kernel) rfl
theorem k49_38 : qx sc D 49 38 ls st u bb σ Q ↔ qx sc D 49 39 ls (vi 3 :: st) u bb σ Q := r_iconst (by decide +kernel)
theorem k49_39 : qx sc D 49 39 ls (vi b' :: vi a' :: st) u bb σ Q ↔ (a' < b' → qx sc D 49 42 ls st u bb σ Q) ∧ (¬ (a' < b') → qx sc D 49 55 ls st u bb σ Q) := r_ic_ge (off := 16) (t := 55) (by decide +kernel)
theorem k49_42 : qx sc D 49 42 [vr a, l1, l2, l3] st u bb σ Q ↔ qx sc D 49 43 [vr a, l1, l2, l3] (vr a :: st) u bb σ Q := r_aload_n (k := 0) (by decide +kernel) rfl
theorem k49_43 : qx sc D 49 43 ls (vr 4 :: st) u bb σ Q ↔ 0 ≤ σ 4 3 ∧ qx sc D 49 46 ls (vr (σ 4 3).toNat :: st) u bb σ Q := r_getM (idx := 24) (c := 9) (k := 3) (by decide +kernel)
theorem k49_46 (hc : q_C c) : qx sc D 49 46 ls (vr c :: st) u bb σ Q ↔ qx sc D 49 49 ls (vr (c + 1) :: st) u bb σ Q := r_getRc (idx := 61) (k := 3) (by decide +kernel) hc
theorem k49_49 : qx sc D 49 49 [l0, l1, vi x, l3] st u bb σ Q ↔ qx sc D 49 50 [l0, l1, vi x, l3] (vi x :: st) u bb σ Q := r_iload_n (k := 2) (by decide +kernel) rfl
theorem k49_50 : qx sc D 49 50 ls (vi i :: vr a :: st) u bb σ Q ↔ (q_ty a = 0 ∧ 0 ≤ i ∧ i < q_ln a) ∧ qx sc D 49 51 ls (vi (σ a i) :: st) u bb σ Q := r_iald (by decide +kernel)
theorem k49_51 : qx sc D 49 51 ls st u bb σ Q ↔ qx sc D 49 52 ls (vi (-1) :: st) u bb σ Q := r_iconst (by decide +kernel)
theorem k49_52 : qx sc D 49 52 ls (vi b' :: vi a' :: st) u bb σ Q ↔ (a' = b' → qx sc D 49 57 ls st u bb σ Q) ∧ (¬ (a' = b') → qx sc D 49 55 ls st u bb σ Q) := r_ic_eq (off := 5) (t := 57) (by decide +kernel)
theorem k49_55 : qx sc D 49 55 ls st u bb σ Q ↔ qx sc D 49 56 ls (vi 0 :: st) u bb σ Q := r_iconst (by decide +kernel)
theorem k49_56 : qx sc D 49 56 ls [vi x] (0, 0) bb σ Q ↔ (x = 0 ∨ x = 1) ∧ Q (.inl (some (vi x))) bb σ := r_retB (by decide +kernel)
theorem k49_57 : qx sc D 49 57 [vr a, l1, l2, l3] st u bb σ Q ↔ qx sc D 49 58 [vr a, l1, l2, l3] (vr a :: st) u bb σ Q := r_aload_n (k := 0) (by decide +kernel) rfl
theorem k49_58 : qx sc D 49 58 ls (vr a :: st) u bb σ Q ↔ qx sc D 49 59 ls (vr a :: vr a :: st) u bb σ Q := r_dupA (by decide +kernel)
theorem k49_59 : qx sc D 49 59 ls (vr 4 :: st) u bb σ Q ↔ qx sc D 49 62 ls (vi (σ 4 1) :: st) u bb σ Q := r_getI (idx := 33) (c := 9) (k := 1) (by decide +kernel)
theorem k49_62 : qx sc D 49 62 ls st u bb σ Q ↔ qx sc D 49 63 ls (vi 1 :: st) u bb σ Q := r_iconst (by decide +kernel)
theorem k49_63 : qx sc D 49 63 ls (vi b' :: vi a' :: st) u bb σ Q ↔ q_R (a' + b') ∧ qx sc D 49 64 ls (vi (a' + b') :: st) u bb σ Q := r_iadd (by decide +kernel)
theorem k49_64 : qx sc D 49 64 ls (vi x :: vr 4 :: st) u bb σ Q ↔ qx sc D 49 67 ls st u bb (q_up σ 4 1 x) Q := r_putI (idx := 33) (c := 9) (k := 1) (by decide +kernel)
theorem k49_67 : qx sc D 49 67 [vr a, l1, l2, l3] st u bb σ Q ↔ qx sc D 49 68 [vr a, l1, l2, l3] (vr a :: st) u bb σ Q := r_aload_n (k := 0) (by decide +kernel) rfl
theorem k49_68 : qx sc D 49 68 ls st u bb σ Q ↔ qx sc D 49 70 ls (vi 20 :: st) u bb σ Q := r_bipush (by decide +kernel)
theorem k49_70 : qx sc (D + 1) 49 70 ls [vi x0, vr 4] (0, 0) bb σ Q ↔ qx sc D 43 0 [vr 4, vi x0] [] (0, 0) bb σ (q_kn sc (D + 1) 49 73 ls [] (0, 0) Q) := r_callv (idx := 67) (n := 1) (m := 2) (by decide +kernel) rfl (Nat.le_of_ble_eq_true rfl) ⟨Nat.le_of_ble_eq_true rfl, Nat.le_of_ble_eq_true rfl, rfl⟩ rfl
theorem k49_73 : qx sc D 49 73 [l0, l1, l2, l3] (vi x :: st) u bb σ Q ↔ qx sc D 49 74 [l0, l1, l2, vi x] st u bb σ Q := r_istore_n (k := 3) (by decide +kernel) (Nat.le_of_ble_eq_true rfl)
theorem k49_74 : qx sc D 49 74 [l0, l1, l2, vi x] st u bb σ Q ↔ qx sc D 49 75 [l0, l1, l2, vi x] (vi x :: st) u bb σ Q := r_iload_n (k := 3) (by decide +kernel) rfl
theorem k49_75 : qx sc D 49 75 ls st u bb σ Q ↔ qx sc D 49 76 ls (vi (-1) :: st) u bb σ Q := r_iconst (by decide +kernel)
theorem k49_76 : qx sc D 49 76 ls (vi b' :: vi a' :: st) u bb σ Q ↔ (a' = b' → qx sc D 49 88 ls st u bb σ Q) ∧ (¬ (a' = b') → qx sc D 49 79 ls st u bb σ Q) := r_ic_eq (off := 12) (t := 88) (by decide +kernel)
theorem k49_79 : qx sc D 49 79 [vr a, l1, l2, l3] st u bb σ Q ↔ qx sc D 49 80 [vr a, l1, l2, l3] (vr a :: st) u bb σ Q := r_aload_n (k := 0) (by decide +kernel) rfl
theorem k49_80 : qx sc D 49 80 ls st u bb σ Q ↔ qx sc D 49 82 ls (vi 59 :: st) u bb σ Q := r_bipush (by decide +kernel)
theorem k49_82 : qx sc (D + 1) 49 82 ls [vi x0, vr 4] (0, 0) bb σ Q ↔ qx sc D 51 0 [vr 4, vi x0] [] (0, 0) bb σ (q_kn sc (D + 1) 49 85 ls [] (0, 0) Q) := r_callv (idx := 64) (n := 1) (m := 2) (by decide +kernel) rfl (Nat.le_of_ble_eq_true rfl) ⟨Nat.le_of_ble_eq_true rfl, Nat.le_of_ble_eq_true rfl, rfl⟩ rfl
theorem k49_85 : qx sc D 49 85 ls (vi x :: st) u bb σ Q ↔ (x = 0 → qx sc D 49 88 ls st u bb σ Q) ∧ (¬ (x = 0) → qx sc D 49 90 ls st u bb σ Q) := r_if_ne (off := 5) (t := 90) (by decide +kernel)
theorem k49_88 : qx sc D 49 88 ls st u bb σ Q ↔ qx sc D 49 89 ls (vi 0 :: st) u bb σ Q := r_iconst (by decide +kernel)
theorem k49_89 : qx sc D 49 89 ls [vi x] (0, 0) bb σ Q ↔ (x = 0 ∨ x = 1) ∧ Q (.inl (some (vi x))) bb σ := r_retB (by decide +kernel)
theorem k49_90 : qx sc D 49 90 [vr a, l1, l2, l3] st u bb σ Q ↔ qx sc D 49 91 [vr a, l1, l2, l3] (vr a :: st) u bb σ Q := r_aload_n (k := 0) (by decide +kernel) rfl
theorem k49_91 : qx sc D 49 91 ls (vr 4 :: st) u bb σ Q ↔ 0 ≤ σ 4 3 ∧ qx sc D 49 94 ls (vr (σ 4 3).toNat :: st) u bb σ Q := r_getM (idx := 24) (c := 9) (k := 3) (by decide +kernel)
theorem k49_94 (hc : q_C c) : qx sc D 49 94 ls (vr c :: st) u bb σ Q ↔ qx sc D 49 97 ls (vr (c + 1) :: st) u bb σ Q := r_getRc (idx := 61) (k := 3) (by decide +kernel) hc
theorem k49_97 : qx sc D 49 97 [l0, l1, vi x, l3] st u bb σ Q ↔ qx sc D 49 98 [l0, l1, vi x, l3] (vi x :: st) u bb σ Q := r_iload_n (k := 2) (by decide +kernel) rfl
theorem k49_98 : qx sc D 49 98 [l0, l1, l2, vi x] st u bb σ Q ↔ qx sc D 49 99 [l0, l1, l2, vi x] (vi x :: st) u bb σ Q := r_iload_n (k := 3) (by decide +kernel) rfl
theorem k49_99 : qx sc D 49 99 ls (vi x :: vi i :: vr a :: st) u bb σ Q ↔ (q_ty a = 0 ∧ 0 ≤ i ∧ i < q_ln a) ∧ qx sc D 49 100 ls st u bb (q_up σ a i x) Q := r_iast (by decide +kernel)
theorem k49_100 : qx sc D 49 100 [l0, vi x, l2, l3] st u bb σ Q ↔ q_R (x + 1) ∧ qx sc D 49 103 [l0, vi (x + 1), l2, l3] st u bb σ Q := r_iinc (k := 1) (n := 1) (by decide +kernel) rfl
theorem k49_103 : qx sc D 49 103 ls st u bb σ Q ↔ qx sc D 49 2 ls st u bb σ Q := r_goto (off := (-101)) (by decide +kernel)
theorem k49_106 : qx sc D 49 106 ls st u bb σ Q ↔ qx sc D 49 107 ls (vi 1 :: st) u bb σ Q := r_iconst (by decide +kernel)
theorem k49_107 : qx sc D 49 107 ls [vi x] (0, 0) bb σ Q ↔ (x = 0 ∨ x = 1) ∧ Q (.inl (some (vi x))) bb σ := r_retB (by decide +kernel)
-- 50: RowProver$Reader.side(II)Z
theorem k50_0 : qx sc D 50 0 [vr a, l1, l2, l3] st u bb σ Q ↔ qx sc D 50 1 [vr a, l1, l2, l3] (vr a :: st) u bb σ Q := r_aload_n (k := 0) (by decide +kernel) rfl
theorem k50_1 : qx sc D 50 1 ls (vr 4 :: st) u bb σ Q ↔ 0 ≤ σ 4 3 ∧ qx sc D 50 4 ls (vr (σ 4 3).toNat :: st) u bb σ Q := r_getM (idx := 24) (c := 9) (k := 3) (by decide +kernel)
theorem k50_4 (hc : q_C c) : qx sc D 50 4 ls (vr c :: st) u bb σ Q ↔ qx sc D 50 7 ls (vr (c + 16) :: st) u bb σ Q := r_getRc (idx := 137) (k := 18) (by decide +kernel) hc
theorem k50_7 : qx sc D 50 7 [l0, l1, l2, l3] (vr a :: st) u bb σ Q ↔ qx sc D 50 8 [l0, l1, l2, vr a] st u bb σ Q := r_astore_n (k := 3) (by decide +kernel) (Nat.le_of_ble_eq_true rfl)
theorem k50_8 : qx sc D 50 8 [vr a, l1, l2, l3] st u bb σ Q ↔ qx sc D 50 9 [vr a, l1, l2, l3] (vr a :: st) u bb σ Q := r_aload_n (k := 0) (by decide +kernel) rfl
theorem k50_9 : qx sc D 50 9 ls (vr 4 :: st) u bb σ Q ↔ qx sc D 50 12 ls (vr 5 :: st) u bb σ Q := r_getR (idx := 14) (c := 9) (k := 0) (by decide +kernel)
theorem k50_12 : qx sc D 50 12 ls (vr 5 :: st) u bb σ Q ↔ qx sc D 50 15 ls (vr 6 :: st) u bb σ Q := r_getR (idx := 48) (c := 12) (k := 3) (by decide +kernel)
theorem k50_15 : qx sc D 50 15 [vr a, l1, l2, l3] st u bb σ Q ↔ qx sc D 50 16 [vr a, l1, l2, l3] (vr a :: st) u bb σ Q := r_aload_n (k := 0) (by decide +kernel) rfl
theorem k50_16 : qx sc D 50 16 ls (vr 4 :: st) u bb σ Q ↔ qx sc D 50 19 ls (vi (σ 4 1) :: st) u bb σ Q := r_getI (idx := 33) (c := 9) (k := 1) (by decide +kernel)
theorem k50_19 : qx sc D 50 19 ls (vi i :: vr a :: st) u bb σ Q ↔ (q_ty a = 0 ∧ 0 ≤ i ∧ i < q_ln a) ∧ qx sc D 50 20 ls (vi (σ a i) :: st) u bb σ Q := r_iald (by decide +kernel)
theorem k50_20 : qx sc D 50 20 ls st u bb σ Q ↔ qx sc D 50 23 ls (vi 262 :: st) u bb σ Q := r_sipush (by decide +kernel)
theorem k50_23 : qx sc D 50 23 ls (vi b' :: vi a' :: st) u bb σ Q ↔ (a' = b' → qx sc D 50 26 ls st u bb σ Q) ∧ (¬ (a' = b') → qx sc D 50 52 ls st u bb σ Q) := r_ic_ne (off := 29) (t := 52) (by decide +kernel)
theorem k50_26 : qx sc D 50 26 [l0, l1, l2, vr a] st u bb σ Q ↔ qx sc D 50 27 [l0, l1, l2, vr a] (vr a :: st) u bb σ Q := r_aload_n (k := 3) (by decide +kernel) rfl
theorem k50_27 (hc : q_C c) : qx sc D 50 27 ls (vr (c + 16) :: st) u bb σ Q ↔ qx sc D 50 30 ls (vr (c + 18) :: st) u bb σ Q := r_getRt (idx := 141) (k := 1) (j := 2) (by decide +kernel) hc
theorem k50_30 : qx sc D 50 30 [l0, l1, vi x, l3] st u bb σ Q ↔ qx sc D 50 31 [l0, l1, vi x, l3] (vi x :: st) u bb σ Q := r_iload_n (k := 2) (by decide +kernel) rfl
theorem k50_31 : qx sc D 50 31 ls (vi i :: vr a :: st) u bb σ Q ↔ (q_ty a = 4 ∧ 0 ≤ i ∧ i < q_ln a) ∧ qx sc D 50 32 ls (vr (a + 1 + i.toNat) :: st) u bb σ Q := r_aald (by decide +kernel)
theorem k50_32 : qx sc D 50 32 [l0, vi x, l2, l3] st u bb σ Q ↔ qx sc D 50 33 [l0, vi x, l2, l3] (vi x :: st) u bb σ Q := r_iload_n (k := 1) (by decide +kernel) rfl
theorem k50_33 : qx sc D 50 33 ls st u bb σ Q ↔ qx sc D 50 34 ls (vi 1 :: st) u bb σ Q := r_iconst (by decide +kernel)
theorem k50_34 : qx sc D 50 34 ls (vi x :: vi i :: vr a :: st) u bb σ Q ↔ (q_ty a = 0 ∧ 0 ≤ i ∧ i < q_ln a) ∧ qx sc D 50 35 ls st u bb (q_up σ a i x) Q := r_iast (by decide +kernel)
theorem k50_35 : qx sc D 50 35 [l0, l1, l2, vr a] st u bb σ Q ↔ qx sc D 50 36 [l0, l1, l2, vr a] (vr a :: st) u bb σ Q := r_aload_n (k := 3) (by decide +kernel) rfl
theorem k50_36 (hc : q_C c) : qx sc D 50 36 ls (vr (c + 16) :: st) u bb σ Q ↔ qx sc D 50 39 ls (vr (c + 21) :: st) u bb σ Q := r_getRt (idx := 147) (k := 2) (j := 5) (by decide +kernel) hc
theorem k50_39 : qx sc D 50 39 [l0, l1, vi x, l3] st u bb σ Q ↔ qx sc D 50 40 [l0, l1, vi x, l3] (vi x :: st) u bb σ Q := r_iload_n (k := 2) (by decide +kernel) rfl
theorem k50_40 : qx sc D 50 40 ls (vi i :: vr a :: st) u bb σ Q ↔ (q_ty a = 4 ∧ 0 ≤ i ∧ i < q_ln a) ∧ qx sc D 50 41 ls (vr (a + 1 + i.toNat) :: st) u bb σ Q := r_aald (by decide +kernel)
theorem k50_41 : qx sc D 50 41 [l0, vi x, l2, l3] st u bb σ Q ↔ qx sc D 50 42 [l0, vi x, l2, l3] (vi x :: st) u bb σ Q := r_iload_n (k := 1) (by decide +kernel) rfl
theorem k50_42 : qx sc D 50 42 [vr a, l1, l2, l3] st u bb σ Q ↔ qx sc D 50 43 [vr a, l1, l2, l3] (vr a :: st) u bb σ Q := r_aload_n (k := 0) (by decide +kernel) rfl
theorem k50_43 : qx sc D 50 43 ls st u bb σ Q ↔ qx sc D 50 45 ls (vi 99 :: st) u bb σ Q := r_bipush (by decide +kernel)
theorem k50_45 : qx sc (D + 1) 50 45 ls [vi x0, vr 4, vi x20, vr a21] (0, 0) bb σ Q ↔ qx sc D 43 0 [vr 4, vi x0] [] (0, 0) bb σ (q_kn sc (D + 1) 50 48 ls [vi x20, vr a21] (0, 0) Q) := r_callv (idx := 67) (n := 1) (m := 2) (by decide +kernel) rfl (Nat.le_of_ble_eq_true rfl) ⟨Nat.le_of_ble_eq_true rfl, Nat.le_of_ble_eq_true rfl, rfl⟩ rfl
theorem k50_48 : qx sc D 50 48 ls (vi x :: vi i :: vr a :: st) u bb σ Q ↔ (q_ty a = 0 ∧ 0 ≤ i ∧ i < q_ln a) ∧ qx sc D 50 49 ls st u bb (q_up σ a i x) Q := r_iast (by decide +kernel)
theorem k50_49 : qx sc D 50 49 ls st u bb σ Q ↔ qx sc D 50 106 ls st u bb σ Q := r_goto (off := 57) (by decide +kernel)
theorem k50_52 : qx sc D 50 52 [vr a, l1, l2, l3] st u bb σ Q ↔ qx sc D 50 53 [vr a, l1, l2, l3] (vr a :: st) u bb σ Q := r_aload_n (k := 0) (by decide +kernel) rfl
theorem k50_53 : qx sc D 50 53 ls st u bb σ Q ↔ qx sc D 50 55 ls (vi 35 :: st) u bb σ Q := r_bipush (by decide +kernel)
theorem k50_55 : qx sc (D + 1) 50 55 ls [vi x0, vr 4] (0, 0) bb σ Q ↔ qx sc D 51 0 [vr 4, vi x0] [] (0, 0) bb σ (q_kn sc (D + 1) 50 58 ls [] (0, 0) Q) := r_callv (idx := 64) (n := 1) (m := 2) (by decide +kernel) rfl (Nat.le_of_ble_eq_true rfl) ⟨Nat.le_of_ble_eq_true rfl, Nat.le_of_ble_eq_true rfl, rfl⟩ rfl
theorem k50_58 : qx sc D 50 58 ls (vi x :: st) u bb σ Q ↔ (x = 0 → qx sc D 50 85 ls st u bb σ Q) ∧ (¬ (x = 0) → qx sc D 50 61 ls st u bb σ Q) := r_if_eq (off := 27) (t := 85) (by decide +kernel)
theorem k50_61 : qx sc D 50 61 [l0, l1, l2, vr a] st u bb σ Q ↔ qx sc D 50 62 [l0, l1, l2, vr a] (vr a :: st) u bb σ Q := r_aload_n (k := 3) (by decide +kernel) rfl
theorem k50_62 (hc : q_C c) : qx sc D 50 62 ls (vr (c + 16) :: st) u bb σ Q ↔ qx sc D 50 65 ls (vr (c + 18) :: st) u bb σ Q := r_getRt (idx := 141) (k := 1) (j := 2) (by decide +kernel) hc
theorem k50_65 : qx sc D 50 65 [l0, l1, vi x, l3] st u bb σ Q ↔ qx sc D 50 66 [l0, l1, vi x, l3] (vi x :: st) u bb σ Q := r_iload_n (k := 2) (by decide +kernel) rfl
theorem k50_66 : qx sc D 50 66 ls (vi i :: vr a :: st) u bb σ Q ↔ (q_ty a = 4 ∧ 0 ≤ i ∧ i < q_ln a) ∧ qx sc D 50 67 ls (vr (a + 1 + i.toNat) :: st) u bb σ Q := r_aald (by decide +kernel)
theorem k50_67 : qx sc D 50 67 [l0, vi x, l2, l3] st u bb σ Q ↔ qx sc D 50 68 [l0, vi x, l2, l3] (vi x :: st) u bb σ Q := r_iload_n (k := 1) (by decide +kernel) rfl
theorem k50_68 : qx sc D 50 68 ls st u bb σ Q ↔ qx sc D 50 69 ls (vi 2 :: st) u bb σ Q := r_iconst (by decide +kernel)
theorem k50_69 : qx sc D 50 69 ls (vi x :: vi i :: vr a :: st) u bb σ Q ↔ (q_ty a = 0 ∧ 0 ≤ i ∧ i < q_ln a) ∧ qx sc D 50 70 ls st u bb (q_up σ a i x) Q := r_iast (by decide +kernel)
theorem k50_70 : qx sc D 50 70 [l0, l1, l2, vr a] st u bb σ Q ↔ qx sc D 50 71 [l0, l1, l2, vr a] (vr a :: st) u bb σ Q := r_aload_n (k := 3) (by decide +kernel) rfl
theorem k50_71 (hc : q_C c) : qx sc D 50 71 ls (vr (c + 16) :: st) u bb σ Q ↔ qx sc D 50 74 ls (vr (c + 21) :: st) u bb σ Q := r_getRt (idx := 147) (k := 2) (j := 5) (by decide +kernel) hc
theorem k50_74 : qx sc D 50 74 [l0, l1, vi x, l3] st u bb σ Q ↔ qx sc D 50 75 [l0, l1, vi x, l3] (vi x :: st) u bb σ Q := r_iload_n (k := 2) (by decide +kernel) rfl
theorem k50_75 : qx sc D 50 75 ls (vi i :: vr a :: st) u bb σ Q ↔ (q_ty a = 4 ∧ 0 ≤ i ∧ i < q_ln a) ∧ qx sc D 50 76 ls (vr (a + 1 + i.toNat) :: st) u bb σ Q := r_aald (by decide +kernel)
theorem k50_76 : qx sc D 50 76 [l0, vi x, l2, l3] st u bb σ Q ↔ qx sc D 50 77 [l0, vi x, l2, l3] (vi x :: st) u bb σ Q := r_iload_n (k := 1) (by decide +kernel) rfl
theorem k50_77 : qx sc D 50 77 [vr a, l1, l2, l3] st u bb σ Q ↔ qx sc D 50 78 [vr a, l1, l2, l3] (vr a :: st) u bb σ Q := r_aload_n (k := 0) (by decide +kernel) rfl
theorem k50_78 : qx sc (D + 1) 50 78 ls [vr 4, vi x20, vr a21] (0, 0) bb σ Q ↔ qx sc D 55 0 [vr 4, vn] [] (0, 0) bb σ (q_kn sc (D + 1) 50 81 ls [vi x20, vr a21] (0, 0) Q) := r_callv (idx := 150) (n := 0) (m := 2) (by decide +kernel) rfl (Nat.le_of_ble_eq_true rfl) ⟨Nat.le_of_ble_eq_true rfl, Nat.le_of_ble_eq_true rfl, rfl⟩ rfl
theorem k50_81 : qx sc D 50 81 ls (vi x :: vi i :: vr a :: st) u bb σ Q ↔ (q_ty a = 0 ∧ 0 ≤ i ∧ i < q_ln a) ∧ qx sc D 50 82 ls st u bb (q_up σ a i x) Q := r_iast (by decide +kernel)
theorem k50_82 : qx sc D 50 82 ls st u bb σ Q ↔ qx sc D 50 106 ls st u bb σ Q := r_goto (off := 24) (by decide +kernel)
theorem k50_85 : qx sc D 50 85 [l0, l1, l2, vr a] st u bb σ Q ↔ qx sc D 50 86 [l0, l1, l2, vr a] (vr a :: st) u bb σ Q := r_aload_n (k := 3) (by decide +kernel) rfl
theorem k50_86 (hc : q_C c) : qx sc D 50 86 ls (vr (c + 16) :: st) u bb σ Q ↔ qx sc D 50 89 ls (vr (c + 18) :: st) u bb σ Q := r_getRt (idx := 141) (k := 1) (j := 2) (by decide +kernel) hc
theorem k50_89 : qx sc D 50 89 [l0, l1, vi x, l3] st u bb σ Q ↔ qx sc D 50 90 [l0, l1, vi x, l3] (vi x :: st) u bb σ Q := r_iload_n (k := 2) (by decide +kernel) rfl
theorem k50_90 : qx sc D 50 90 ls (vi i :: vr a :: st) u bb σ Q ↔ (q_ty a = 4 ∧ 0 ≤ i ∧ i < q_ln a) ∧ qx sc D 50 91 ls (vr (a + 1 + i.toNat) :: st) u bb σ Q := r_aald (by decide +kernel)
theorem k50_91 : qx sc D 50 91 [l0, vi x, l2, l3] st u bb σ Q ↔ qx sc D 50 92 [l0, vi x, l2, l3] (vi x :: st) u bb σ Q := r_iload_n (k := 1) (by decide +kernel) rfl
theorem k50_92 : qx sc D 50 92 ls st u bb σ Q ↔ qx sc D 50 93 ls (vi 3 :: st) u bb σ Q := r_iconst (by decide +kernel)
theorem k50_93 : qx sc D 50 93 ls (vi x :: vi i :: vr a :: st) u bb σ Q ↔ (q_ty a = 0 ∧ 0 ≤ i ∧ i < q_ln a) ∧ qx sc D 50 94 ls st u bb (q_up σ a i x) Q := r_iast (by decide +kernel)
theorem k50_94 : qx sc D 50 94 [l0, l1, l2, vr a] st u bb σ Q ↔ qx sc D 50 95 [l0, l1, l2, vr a] (vr a :: st) u bb σ Q := r_aload_n (k := 3) (by decide +kernel) rfl
theorem k50_95 (hc : q_C c) : qx sc D 50 95 ls (vr (c + 16) :: st) u bb σ Q ↔ qx sc D 50 98 ls (vr (c + 21) :: st) u bb σ Q := r_getRt (idx := 147) (k := 2) (j := 5) (by decide +kernel) hc
theorem k50_98 : qx sc D 50 98 [l0, l1, vi x, l3] st u bb σ Q ↔ qx sc D 50 99 [l0, l1, vi x, l3] (vi x :: st) u bb σ Q := r_iload_n (k := 2) (by decide +kernel) rfl
theorem k50_99 : qx sc D 50 99 ls (vi i :: vr a :: st) u bb σ Q ↔ (q_ty a = 4 ∧ 0 ≤ i ∧ i < q_ln a) ∧ qx sc D 50 100 ls (vr (a + 1 + i.toNat) :: st) u bb σ Q := r_aald (by decide +kernel)
theorem k50_100 : qx sc D 50 100 [l0, vi x, l2, l3] st u bb σ Q ↔ qx sc D 50 101 [l0, vi x, l2, l3] (vi x :: st) u bb σ Q := r_iload_n (k := 1) (by decide +kernel) rfl
theorem k50_101 : qx sc D 50 101 [vr a, l1, l2, l3] st u bb σ Q ↔ qx sc D 50 102 [vr a, l1, l2, l3] (vr a :: st) u bb σ Q := r_aload_n (k := 0) (by decide +kernel) rfl
theorem k50_102 : qx sc (D + 1) 50 102 ls [vr 4, vi x20, vr a21] (0, 0) bb σ Q ↔ qx sc D 57 0 [vr 4, vn] [] (0, 0) bb σ (q_kn sc (D + 1) 50 105 ls [vi x20, vr a21] (0, 0) Q) := r_callv (idx := 88) (n := 0) (m := 2) (by decide +kernel) rfl (Nat.le_of_ble_eq_true rfl) ⟨Nat.le_of_ble_eq_true rfl, Nat.le_of_ble_eq_true rfl, rfl⟩ rfl
theorem k50_105 : qx sc D 50 105 ls (vi x :: vi i :: vr a :: st) u bb σ Q ↔ (q_ty a = 0 ∧ 0 ≤ i ∧ i < q_ln a) ∧ qx sc D 50 106 ls st u bb (q_up σ a i x) Q := r_iast (by decide +kernel)
theorem k50_106 : qx sc D 50 106 [l0, l1, l2, vr a] st u bb σ Q ↔ qx sc D 50 107 [l0, l1, l2, vr a] (vr a :: st) u bb σ Q := r_aload_n (k := 3) (by decide +kernel) rfl
theorem k50_107 (hc : q_C c) : qx sc D 50 107 ls (vr (c + 16) :: st) u bb σ Q ↔ qx sc D 50 110 ls (vr (c + 21) :: st) u bb σ Q := r_getRt (idx := 147) (k := 2) (j := 5) (by decide +kernel) hc
theorem k50_110 : qx sc D 50 110 [l0, l1, vi x, l3] st u bb σ Q ↔ qx sc D 50 111 [l0, l1, vi x, l3] (vi x :: st) u bb σ Q := r_iload_n (k := 2) (by decide +kernel) rfl
theorem k50_111 : qx sc D 50 111 ls (vi i :: vr a :: st) u bb σ Q ↔ (q_ty a = 4 ∧ 0 ≤ i ∧ i < q_ln a) ∧ qx sc D 50 112 ls (vr (a + 1 + i.toNat) :: st) u bb σ Q := r_aald (by decide +kernel)
theorem k50_112 : qx sc D 50 112 [l0, vi x, l2, l3] st u bb σ Q ↔ qx sc D 50 113 [l0, vi x, l2, l3] (vi x :: st) u bb σ Q := r_iload_n (k := 1) (by decide +kernel) rfl
theorem k50_113 : qx sc D 50 113 ls (vi i :: vr a :: st) u bb σ Q ↔ (q_ty a = 0 ∧ 0 ≤ i ∧ i < q_ln a) ∧ qx sc D 50 114 ls (vi (σ a i) :: st) u bb σ Q := r_iald (by decide +kernel)
theorem k50_114 : qx sc D 50 114 ls st u bb σ Q ↔ qx sc D 50 115 ls (vi (-1) :: st) u bb σ Q := r_iconst (by decide +kernel)
theorem k50_115 : qx sc D 50 115 ls (vi b' :: vi a' :: st) u bb σ Q ↔ (a' = b' → qx sc D 50 122 ls st u bb σ Q) ∧ (¬ (a' = b') → qx sc D 50 118 ls st u bb σ Q) := r_ic_eq (off := 7) (t := 122) (by decide +kernel)
theorem k50_118 : qx sc D 50 118 ls st u bb σ Q ↔ qx sc D 50 119 ls (vi 1 :: st) u bb σ Q := r_iconst (by decide +kernel)
theorem k50_119 : qx sc D 50 119 ls st u bb σ Q ↔ qx sc D 50 123 ls st u bb σ Q := r_goto (off := 4) (by decide +kernel)
theorem k50_122 : qx sc D 50 122 ls st u bb σ Q ↔ qx sc D 50 123 ls (vi 0 :: st) u bb σ Q := r_iconst (by decide +kernel)
theorem k50_123 : qx sc D 50 123 ls [vi x] (0, 0) bb σ Q ↔ (x = 0 ∨ x = 1) ∧ Q (.inl (some (vi x))) bb σ := r_retB (by decide +kernel)
-- 51: RowProver$Reader.sign(I)Z
theorem k51_0 : qx sc D 51 0 [vr a, l1] st u bb σ Q ↔ qx sc D 51 1 [vr a, l1] (vr a :: st) u bb σ Q := r_aload_n (k := 0) (by decide +kernel) rfl
theorem k51_1 : qx sc D 51 1 ls (vr 4 :: st) u bb σ Q ↔ qx sc D 51 4 ls (vr 5 :: st) u bb σ Q := r_getR (idx := 14) (c := 9) (k := 0) (by decide +kernel)
theorem k51_4 : qx sc D 51 4 ls (vr 5 :: st) u bb σ Q ↔ qx sc D 51 7 ls (vr 6 :: st) u bb σ Q := r_getR (idx := 48) (c := 12) (k := 3) (by decide +kernel)
theorem k51_7 : qx sc D 51 7 [vr a, l1] st u bb σ Q ↔ qx sc D 51 8 [vr a, l1] (vr a :: st) u bb σ Q := r_aload_n (k := 0) (by decide +kernel) rfl
theorem k51_8 : qx sc D 51 8 ls (vr 4 :: st) u bb σ Q ↔ qx sc D 51 11 ls (vi (σ 4 1) :: st) u bb σ Q := r_getI (idx := 33) (c := 9) (k := 1) (by decide +kernel)
theorem k51_11 : qx sc D 51 11 ls (vi i :: vr a :: st) u bb σ Q ↔ (q_ty a = 0 ∧ 0 ≤ i ∧ i < q_ln a) ∧ qx sc D 51 12 ls (vi (σ a i) :: st) u bb σ Q := r_iald (by decide +kernel)
theorem k51_12 : qx sc D 51 12 [l0, vi x] st u bb σ Q ↔ qx sc D 51 13 [l0, vi x] (vi x :: st) u bb σ Q := r_iload_n (k := 1) (by decide +kernel) rfl
theorem k51_13 : qx sc D 51 13 ls (vi b' :: vi a' :: st) u bb σ Q ↔ (a' = b' → qx sc D 51 18 ls st u bb σ Q) ∧ (¬ (a' = b') → qx sc D 51 16 ls st u bb σ Q) := r_ic_eq (off := 5) (t := 18) (by decide +kernel)
theorem k51_16 : qx sc D 51 16 ls st u bb σ Q ↔ qx sc D 51 17 ls (vi 0 :: st) u bb σ Q := r_iconst (by decide +kernel)
theorem k51_17 : qx sc D 51 17 ls [vi x] (0, 0) bb σ Q ↔ (x = 0 ∨ x = 1) ∧ Q (.inl (some (vi x))) bb σ := r_retB (by decide +kernel)
theorem k51_18 : qx sc D 51 18 [vr a, l1] st u bb σ Q ↔ qx sc D 51 19 [vr a, l1] (vr a :: st) u bb σ Q := r_aload_n (k := 0) (by decide +kernel) rfl
theorem k51_19 : qx sc D 51 19 ls (vr a :: st) u bb σ Q ↔ qx sc D 51 20 ls (vr a :: vr a :: st) u bb σ Q := r_dupA (by decide +kernel)
theorem k51_20 : qx sc D 51 20 ls (vr 4 :: st) u bb σ Q ↔ qx sc D 51 23 ls (vi (σ 4 1) :: st) u bb σ Q := r_getI (idx := 33) (c := 9) (k := 1) (by decide +kernel)
theorem k51_23 : qx sc D 51 23 ls st u bb σ Q ↔ qx sc D 51 24 ls (vi 1 :: st) u bb σ Q := r_iconst (by decide +kernel)
theorem k51_24 : qx sc D 51 24 ls (vi b' :: vi a' :: st) u bb σ Q ↔ q_R (a' + b') ∧ qx sc D 51 25 ls (vi (a' + b') :: st) u bb σ Q := r_iadd (by decide +kernel)
theorem k51_25 : qx sc D 51 25 ls (vi x :: vr 4 :: st) u bb σ Q ↔ qx sc D 51 28 ls st u bb (q_up σ 4 1 x) Q := r_putI (idx := 33) (c := 9) (k := 1) (by decide +kernel)
theorem k51_28 : qx sc D 51 28 ls st u bb σ Q ↔ qx sc D 51 29 ls (vi 1 :: st) u bb σ Q := r_iconst (by decide +kernel)
theorem k51_29 : qx sc D 51 29 ls [vi x] (0, 0) bb σ Q ↔ (x = 0 ∨ x = 1) ∧ Q (.inl (some (vi x))) bb σ := r_retB (by decide +kernel)
-- 52: RowProver$Reader.statements(I)Z
theorem k52_0 : qx sc D 52 0 ls st u bb σ Q ↔ qx sc D 52 1 ls (vi 1 :: st) u bb σ Q := r_iconst (by decide +kernel)
theorem k52_1 : qx sc D 52 1 [l0, l1, l2, l3, l4] (vi x :: st) u bb σ Q ↔ qx sc D 52 2 [l0, l1, vi x, l3, l4] st u bb σ Q := r_istore_n (k := 2) (by decide +kernel) (Nat.le_of_ble_eq_true rfl)
theorem k52_2 : qx sc D 52 2 ls st u bb σ Q ↔ qx sc D 52 3 ls (vi 0 :: st) u bb σ Q := r_iconst (by decide +kernel)
theorem k52_3 : qx sc D 52 3 [l0, l1, l2, l3, l4] (vi x :: st) u bb σ Q ↔ qx sc D 52 4 [l0, l1, l2, vi x, l4] st u bb σ Q := r_istore_n (k := 3) (by decide +kernel) (Nat.le_of_ble_eq_true rfl)
theorem k52_4 : qx sc D 52 4 [l0, l1, vi x, l3, l4] st u bb σ Q ↔ qx sc D 52 5 [l0, l1, vi x, l3, l4] (vi x :: st) u bb σ Q := r_iload_n (k := 2) (by decide +kernel) rfl
theorem k52_5 : qx sc D 52 5 ls (vi x :: st) u bb σ Q ↔ (x = 0 → qx sc D 52 161 ls st u bb σ Q) ∧ (¬ (x = 0) → qx sc D 52 8 ls st u bb σ Q) := r_if_eq (off := 156) (t := 161) (by decide +kernel)
theorem k52_8 : qx sc D 52 8 [l0, l1, l2, vi x, l4] st u bb σ Q ↔ qx sc D 52 9 [l0, l1, l2, vi x, l4] (vi x :: st) u bb σ Q := r_iload_n (k := 3) (by decide +kernel) rfl
theorem k52_9 : qx sc D 52 9 ls st u bb σ Q ↔ qx sc D 52 11 ls (vi 40 :: st) u bb σ Q := r_bipush (by decide +kernel)
theorem k52_11 : qx sc D 52 11 ls (vi b' :: vi a' :: st) u bb σ Q ↔ (b' < a' → qx sc D 52 161 ls st u bb σ Q) ∧ (¬ (b' < a') → qx sc D 52 14 ls st u bb σ Q) := r_ic_gt (off := 150) (t := 161) (by decide +kernel)
theorem k52_14 : qx sc D 52 14 [vr a, l1, l2, l3, l4] st u bb σ Q ↔ qx sc D 52 15 [vr a, l1, l2, l3, l4] (vr a :: st) u bb σ Q := r_aload_n (k := 0) (by decide +kernel) rfl
theorem k52_15 : qx sc D 52 15 ls (vr 4 :: st) u bb σ Q ↔ qx sc D 52 18 ls (vr 5 :: st) u bb σ Q := r_getR (idx := 14) (c := 9) (k := 0) (by decide +kernel)
theorem k52_18 : qx sc D 52 18 ls (vr 5 :: st) u bb σ Q ↔ qx sc D 52 21 ls (vr 6 :: st) u bb σ Q := r_getR (idx := 48) (c := 12) (k := 3) (by decide +kernel)
theorem k52_21 : qx sc D 52 21 [vr a, l1, l2, l3, l4] st u bb σ Q ↔ qx sc D 52 22 [vr a, l1, l2, l3, l4] (vr a :: st) u bb σ Q := r_aload_n (k := 0) (by decide +kernel) rfl
theorem k52_22 : qx sc D 52 22 ls (vr 4 :: st) u bb σ Q ↔ qx sc D 52 25 ls (vi (σ 4 1) :: st) u bb σ Q := r_getI (idx := 33) (c := 9) (k := 1) (by decide +kernel)
theorem k52_25 : qx sc D 52 25 ls (vi i :: vr a :: st) u bb σ Q ↔ (q_ty a = 0 ∧ 0 ≤ i ∧ i < q_ln a) ∧ qx sc D 52 26 ls (vi (σ a i) :: st) u bb σ Q := r_iald (by decide +kernel)
theorem k52_26 : qx sc D 52 26 [l0, l1, l2, l3, l4] (vi x :: st) u bb σ Q ↔ qx sc D 52 28 [l0, l1, l2, l3, vi x] st u bb σ Q := r_istore (k := 4) (by decide +kernel) (Nat.le_of_ble_eq_true rfl)
theorem k52_28 : qx sc D 52 28 [l0, l1, l2, l3, vi x] st u bb σ Q ↔ qx sc D 52 30 [l0, l1, l2, l3, vi x] (vi x :: st) u bb σ Q := r_iload (k := 4) (by decide +kernel) rfl
theorem k52_30 : qx sc D 52 30 ls st u bb σ Q ↔ qx sc D 52 31 ls (vi (-1) :: st) u bb σ Q := r_iconst (by decide +kernel)
theorem k52_31 : qx sc D 52 31 ls (vi b' :: vi a' :: st) u bb σ Q ↔ (a' = b' → qx sc D 52 41 ls st u bb σ Q) ∧ (¬ (a' = b') → qx sc D 52 34 ls st u bb σ Q) := r_ic_eq (off := 10) (t := 41) (by decide +kernel)
theorem k52_34 : qx sc D 52 34 [l0, l1, l2, l3, vi x] st u bb σ Q ↔ qx sc D 52 36 [l0, l1, l2, l3, vi x] (vi x :: st) u bb σ Q := r_iload (k := 4) (by decide +kernel) rfl
theorem k52_36 : qx sc D 52 36 ls st u bb σ Q ↔ qx sc D 52 38 ls (vi 125 :: st) u bb σ Q := r_bipush (by decide +kernel)
theorem k52_38 : qx sc D 52 38 ls (vi b' :: vi a' :: st) u bb σ Q ↔ (a' = b' → qx sc D 52 41 ls st u bb σ Q) ∧ (¬ (a' = b') → qx sc D 52 43 ls st u bb σ Q) := r_ic_ne (off := 5) (t := 43) (by decide +kernel)
theorem k52_41 : qx sc D 52 41 ls st u bb σ Q ↔ qx sc D 52 42 ls (vi 1 :: st) u bb σ Q := r_iconst (by decide +kernel)
theorem k52_42 : qx sc D 52 42 ls [vi x] (0, 0) bb σ Q ↔ (x = 0 ∨ x = 1) ∧ Q (.inl (some (vi x))) bb σ := r_retB (by decide +kernel)
theorem k52_43 : qx sc D 52 43 [vr a, l1, l2, l3, l4] st u bb σ Q ↔ qx sc D 52 44 [vr a, l1, l2, l3, l4] (vr a :: st) u bb σ Q := r_aload_n (k := 0) (by decide +kernel) rfl
theorem k52_44 : qx sc D 52 44 ls (vr 4 :: st) u bb σ Q ↔ 0 ≤ σ 4 3 ∧ qx sc D 52 47 ls (vr (σ 4 3).toNat :: st) u bb σ Q := r_getM (idx := 24) (c := 9) (k := 3) (by decide +kernel)
theorem k52_47 (hc : q_C c) : qx sc D 52 47 ls (vr c :: st) u bb σ Q ↔ qx sc D 52 50 ls (vi (σ c 0) :: st) u bb σ Q := r_getIc (idx := 71) (k := 0) (by decide +kernel) hc
theorem k52_50 : qx sc D 52 50 ls st u bb σ Q ↔ qx sc D 52 52 ls (vi 40 :: st) u bb σ Q := r_bipush (by decide +kernel)
theorem k52_52 : qx sc D 52 52 ls (vi b' :: vi a' :: st) u bb σ Q ↔ (a' < b' → qx sc D 52 57 ls st u bb σ Q) ∧ (¬ (a' < b') → qx sc D 52 55 ls st u bb σ Q) := r_ic_lt (off := 5) (t := 57) (by decide +kernel)
theorem k52_55 : qx sc D 52 55 ls st u bb σ Q ↔ qx sc D 52 56 ls (vi 0 :: st) u bb σ Q := r_iconst (by decide +kernel)
theorem k52_56 : qx sc D 52 56 ls [vi x] (0, 0) bb σ Q ↔ (x = 0 ∨ x = 1) ∧ Q (.inl (some (vi x))) bb σ := r_retB (by decide +kernel)
theorem k52_57 : qx sc D 52 57 [l0, l1, l2, l3, vi x] st u bb σ Q ↔ qx sc D 52 59 [l0, l1, l2, l3, vi x] (vi x :: st) u bb σ Q := r_iload (k := 4) (by decide +kernel) rfl
theorem k52_59 : qx sc D 52 59 ls (vi x :: st) u bb σ Q ↔ qx sc D 52 (if x = 65 then 142 else if x = 66 then 142 else if x = 67 then 142 else if x = 257 then 116 else if x = 258 then 124 else if x = 260 then 133 else 150) ls st u bb σ Q := by
  rw [r_lsw (d := 91) (ps := #[(65, 83), (66, 83), (67, 83), (257, 57), (258, 65), (260, 74)]) (dt := 150) (tg := [(65, 142), (66, 142), (67, 142), (257, 116), (258, 124), (260, 133)]) (by decide +kernel)]
  rfl
theorem k52_116 : qx sc D 52 116 [vr a, l1, l2, l3, l4] st u bb σ Q ↔ qx sc D 52 117 [vr a, l1, l2, l3, l4] (vr a :: st) u bb σ Q := r_aload_n (k := 0) (by decide +kernel) rfl
theorem k52_117 : qx sc (D + 1) 52 117 ls [vr 4] (0, 0) bb σ Q ↔ qx sc D 46 0 [vr 4, vn] [] (0, 0) bb σ (q_kn sc (D + 1) 52 120 ls [] (0, 0) Q) := r_callv (idx := 73) (n := 0) (m := 2) (by decide +kernel) rfl (Nat.le_of_ble_eq_true rfl) ⟨Nat.le_of_ble_eq_true rfl, Nat.le_of_ble_eq_true rfl, rfl⟩ rfl
theorem k52_120 : qx sc D 52 120 [l0, l1, l2, l3, l4] (vi x :: st) u bb σ Q ↔ qx sc D 52 121 [l0, l1, vi x, l3, l4] st u bb σ Q := r_istore_n (k := 2) (by decide +kernel) (Nat.le_of_ble_eq_true rfl)
theorem k52_121 : qx sc D 52 121 ls st u bb σ Q ↔ qx sc D 52 155 ls st u bb σ Q := r_goto (off := 34) (by decide +kernel)
theorem k52_124 : qx sc D 52 124 [vr a, l1, l2, l3, l4] st u bb σ Q ↔ qx sc D 52 125 [vr a, l1, l2, l3, l4] (vr a :: st) u bb σ Q := r_aload_n (k := 0) (by decide +kernel) rfl
theorem k52_125 : qx sc D 52 125 [l0, vi x, l2, l3, l4] st u bb σ Q ↔ qx sc D 52 126 [l0, vi x, l2, l3, l4] (vi x :: st) u bb σ Q := r_iload_n (k := 1) (by decide +kernel) rfl
theorem k52_126 : qx sc (D + 1) 52 126 ls [vi x0, vr 4] (0, 0) bb σ Q ↔ qx sc D 41 0 [vr 4, vi x0, vn] [] (0, 0) bb σ (q_kn sc (D + 1) 52 129 ls [] (0, 0) Q) := r_callv (idx := 76) (n := 1) (m := 3) (by decide +kernel) rfl (Nat.le_of_ble_eq_true rfl) ⟨Nat.le_of_ble_eq_true rfl, Nat.le_of_ble_eq_true rfl, rfl⟩ rfl
theorem k52_129 : qx sc D 52 129 [l0, l1, l2, l3, l4] (vi x :: st) u bb σ Q ↔ qx sc D 52 130 [l0, l1, vi x, l3, l4] st u bb σ Q := r_istore_n (k := 2) (by decide +kernel) (Nat.le_of_ble_eq_true rfl)
theorem k52_130 : qx sc D 52 130 ls st u bb σ Q ↔ qx sc D 52 155 ls st u bb σ Q := r_goto (off := 25) (by decide +kernel)
theorem k52_133 : qx sc D 52 133 [vr a, l1, l2, l3, l4] st u bb σ Q ↔ qx sc D 52 134 [vr a, l1, l2, l3, l4] (vr a :: st) u bb σ Q := r_aload_n (k := 0) (by decide +kernel) rfl
theorem k52_134 : qx sc D 52 134 [l0, vi x, l2, l3, l4] st u bb σ Q ↔ qx sc D 52 135 [l0, vi x, l2, l3, l4] (vi x :: st) u bb σ Q := r_iload_n (k := 1) (by decide +kernel) rfl
theorem k52_135 : qx sc (D + 1) 52 135 ls [vi x0, vr 4] (0, 0) bb σ Q ↔ qx sc D 48 0 [vr 4, vi x0, vn] [] (0, 0) bb σ (q_kn sc (D + 1) 52 138 ls [] (0, 0) Q) := r_callv (idx := 79) (n := 1) (m := 3) (by decide +kernel) rfl (Nat.le_of_ble_eq_true rfl) ⟨Nat.le_of_ble_eq_true rfl, Nat.le_of_ble_eq_true rfl, rfl⟩ rfl
theorem k52_138 : qx sc D 52 138 [l0, l1, l2, l3, l4] (vi x :: st) u bb σ Q ↔ qx sc D 52 139 [l0, l1, vi x, l3, l4] st u bb σ Q := r_istore_n (k := 2) (by decide +kernel) (Nat.le_of_ble_eq_true rfl)
theorem k52_139 : qx sc D 52 139 ls st u bb σ Q ↔ qx sc D 52 155 ls st u bb σ Q := r_goto (off := 16) (by decide +kernel)
theorem k52_142 : qx sc D 52 142 [vr a, l1, l2, l3, l4] st u bb σ Q ↔ qx sc D 52 143 [vr a, l1, l2, l3, l4] (vr a :: st) u bb σ Q := r_aload_n (k := 0) (by decide +kernel) rfl
theorem k52_143 : qx sc (D + 1) 52 143 ls [vr 4] (0, 0) bb σ Q ↔ qx sc D 53 0 [vr 4, vn] [] (0, 0) bb σ (q_kn sc (D + 1) 52 146 ls [] (0, 0) Q) := r_callv (idx := 82) (n := 0) (m := 2) (by decide +kernel) rfl (Nat.le_of_ble_eq_true rfl) ⟨Nat.le_of_ble_eq_true rfl, Nat.le_of_ble_eq_true rfl, rfl⟩ rfl
theorem k52_146 : qx sc D 52 146 [l0, l1, l2, l3, l4] (vi x :: st) u bb σ Q ↔ qx sc D 52 147 [l0, l1, vi x, l3, l4] st u bb σ Q := r_istore_n (k := 2) (by decide +kernel) (Nat.le_of_ble_eq_true rfl)
theorem k52_147 : qx sc D 52 147 ls st u bb σ Q ↔ qx sc D 52 155 ls st u bb σ Q := r_goto (off := 8) (by decide +kernel)
theorem k52_150 : qx sc D 52 150 [vr a, l1, l2, l3, l4] st u bb σ Q ↔ qx sc D 52 151 [vr a, l1, l2, l3, l4] (vr a :: st) u bb σ Q := r_aload_n (k := 0) (by decide +kernel) rfl
theorem k52_151 : qx sc (D + 1) 52 151 ls [vr 4] (0, 0) bb σ Q ↔ qx sc D 39 0 [vr 4, vn, vn] [] (0, 0) bb σ (q_kn sc (D + 1) 52 154 ls [] (0, 0) Q) := r_callv (idx := 85) (n := 0) (m := 3) (by decide +kernel) rfl (Nat.le_of_ble_eq_true rfl) ⟨Nat.le_of_ble_eq_true rfl, Nat.le_of_ble_eq_true rfl, rfl⟩ rfl
theorem k52_154 : qx sc D 52 154 [l0, l1, l2, l3, l4] (vi x :: st) u bb σ Q ↔ qx sc D 52 155 [l0, l1, vi x, l3, l4] st u bb σ Q := r_istore_n (k := 2) (by decide +kernel) (Nat.le_of_ble_eq_true rfl)
theorem k52_155 : qx sc D 52 155 [l0, l1, l2, vi x, l4] st u bb σ Q ↔ q_R (x + 1) ∧ qx sc D 52 158 [l0, l1, l2, vi (x + 1), l4] st u bb σ Q := r_iinc (k := 3) (n := 1) (by decide +kernel) rfl
theorem k52_158 : qx sc D 52 158 ls st u bb σ Q ↔ qx sc D 52 4 ls st u bb σ Q := r_goto (off := (-154)) (by decide +kernel)
theorem k52_161 : qx sc D 52 161 [l0, l1, vi x, l3, l4] st u bb σ Q ↔ qx sc D 52 162 [l0, l1, vi x, l3, l4] (vi x :: st) u bb σ Q := r_iload_n (k := 2) (by decide +kernel) rfl
theorem k52_162 : qx sc D 52 162 ls [vi x] (0, 0) bb σ Q ↔ (x = 0 ∨ x = 1) ∧ Q (.inl (some (vi x))) bb σ := r_retB (by decide +kernel)
-- 53: RowProver$Reader.store()Z
theorem k53_0 : qx sc D 53 0 [vr a, l1] st u bb σ Q ↔ qx sc D 53 1 [vr a, l1] (vr a :: st) u bb σ Q := r_aload_n (k := 0) (by decide +kernel) rfl
theorem k53_1 : qx sc D 53 1 ls (vr 4 :: st) u bb σ Q ↔ 0 ≤ σ 4 3 ∧ qx sc D 53 4 ls (vr (σ 4 3).toNat :: st) u bb σ Q := r_getM (idx := 24) (c := 9) (k := 3) (by decide +kernel)
theorem k53_4 : qx sc D 53 4 ls st u bb σ Q ↔ qx sc D 53 5 ls (vi 1 :: st) u bb σ Q := r_iconst (by decide +kernel)
theorem k53_5 : qx sc D 53 5 [vr a, l1] st u bb σ Q ↔ qx sc D 53 6 [vr a, l1] (vr a :: st) u bb σ Q := r_aload_n (k := 0) (by decide +kernel) rfl
theorem k53_6 : qx sc D 53 6 ls (vr 4 :: st) u bb σ Q ↔ qx sc D 53 9 ls (vi (σ 4 2) :: st) u bb σ Q := r_getI (idx := 37) (c := 9) (k := 2) (by decide +kernel)
theorem k53_9 (hc : q_C c) : qx sc (D + 1) 53 9 ls [vi x1, vi x0, vr c] (0, 0) bb σ Q ↔ qx sc D 12 0 [vr c, vi x0, vi x1, vn] [] (0, 0) bb σ (q_kn sc (D + 1) 53 12 ls [] (0, 0) Q) := r_callc (idx := 92) (n := 2) (m := 4) (by decide +kernel) hc rfl (Nat.le_of_ble_eq_true rfl) ⟨Nat.le_of_ble_eq_true rfl, Nat.le_of_ble_eq_true rfl, rfl⟩ rfl
theorem k53_12 : qx sc D 53 12 [l0, l1] (vi x :: st) u bb σ Q ↔ qx sc D 53 13 [l0, vi x] st u bb σ Q := r_istore_n (k := 1) (by decide +kernel) (Nat.le_of_ble_eq_true rfl)
theorem k53_13 : qx sc D 53 13 [vr a, l1] st u bb σ Q ↔ qx sc D 53 14 [vr a, l1] (vr a :: st) u bb σ Q := r_aload_n (k := 0) (by decide +kernel) rfl
theorem k53_14 : qx sc D 53 14 [l0, vi x] st u bb σ Q ↔ qx sc D 53 15 [l0, vi x] (vi x :: st) u bb σ Q := r_iload_n (k := 1) (by decide +kernel) rfl
theorem k53_15 : qx sc (D + 1) 53 15 ls [vi x0, vr 4] (0, 0) bb σ Q ↔ qx sc D 42 0 [vr 4, vi x0, vn, vn] [] (0, 0) bb σ (q_kn sc (D + 1) 53 18 ls [] (0, 0) Q) := r_callv (idx := 101) (n := 1) (m := 4) (by decide +kernel) rfl (Nat.le_of_ble_eq_true rfl) ⟨Nat.le_of_ble_eq_true rfl, Nat.le_of_ble_eq_true rfl, rfl⟩ rfl
theorem k53_18 : qx sc D 53 18 ls (vi x :: st) u bb σ Q ↔ (x = 0 → qx sc D 53 30 ls st u bb σ Q) ∧ (¬ (x = 0) → qx sc D 53 21 ls st u bb σ Q) := r_if_eq (off := 12) (t := 30) (by decide +kernel)
theorem k53_21 : qx sc D 53 21 [vr a, l1] st u bb σ Q ↔ qx sc D 53 22 [vr a, l1] (vr a :: st) u bb σ Q := r_aload_n (k := 0) (by decide +kernel) rfl
theorem k53_22 : qx sc D 53 22 ls st u bb σ Q ↔ qx sc D 53 24 ls (vi 61 :: st) u bb σ Q := r_bipush (by decide +kernel)
theorem k53_24 : qx sc (D + 1) 53 24 ls [vi x0, vr 4] (0, 0) bb σ Q ↔ qx sc D 51 0 [vr 4, vi x0] [] (0, 0) bb σ (q_kn sc (D + 1) 53 27 ls [] (0, 0) Q) := r_callv (idx := 64) (n := 1) (m := 2) (by decide +kernel) rfl (Nat.le_of_ble_eq_true rfl) ⟨Nat.le_of_ble_eq_true rfl, Nat.le_of_ble_eq_true rfl, rfl⟩ rfl
theorem k53_27 : qx sc D 53 27 ls (vi x :: st) u bb σ Q ↔ (x = 0 → qx sc D 53 30 ls st u bb σ Q) ∧ (¬ (x = 0) → qx sc D 53 32 ls st u bb σ Q) := r_if_ne (off := 5) (t := 32) (by decide +kernel)
theorem k53_30 : qx sc D 53 30 ls st u bb σ Q ↔ qx sc D 53 31 ls (vi 0 :: st) u bb σ Q := r_iconst (by decide +kernel)
theorem k53_31 : qx sc D 53 31 ls [vi x] (0, 0) bb σ Q ↔ (x = 0 ∨ x = 1) ∧ Q (.inl (some (vi x))) bb σ := r_retB (by decide +kernel)
theorem k53_32 : qx sc D 53 32 [vr a, l1] st u bb σ Q ↔ qx sc D 53 33 [vr a, l1] (vr a :: st) u bb σ Q := r_aload_n (k := 0) (by decide +kernel) rfl
theorem k53_33 : qx sc D 53 33 ls (vr 4 :: st) u bb σ Q ↔ 0 ≤ σ 4 3 ∧ qx sc D 53 36 ls (vr (σ 4 3).toNat :: st) u bb σ Q := r_getM (idx := 24) (c := 9) (k := 3) (by decide +kernel)
theorem k53_36 (hc : q_C c) : qx sc D 53 36 ls (vr c :: st) u bb σ Q ↔ qx sc D 53 39 ls (vr (c + 3) :: st) u bb σ Q := r_getRc (idx := 96) (k := 5) (by decide +kernel) hc
theorem k53_39 : qx sc D 53 39 [l0, vi x] st u bb σ Q ↔ qx sc D 53 40 [l0, vi x] (vi x :: st) u bb σ Q := r_iload_n (k := 1) (by decide +kernel) rfl
theorem k53_40 : qx sc D 53 40 [vr a, l1] st u bb σ Q ↔ qx sc D 53 41 [vr a, l1] (vr a :: st) u bb σ Q := r_aload_n (k := 0) (by decide +kernel) rfl
theorem k53_41 : qx sc D 53 41 ls (vr 4 :: st) u bb σ Q ↔ 0 ≤ σ 4 3 ∧ qx sc D 53 44 ls (vr (σ 4 3).toNat :: st) u bb σ Q := r_getM (idx := 24) (c := 9) (k := 3) (by decide +kernel)
theorem k53_44 (hc : q_C c) : qx sc D 53 44 ls (vr c :: st) u bb σ Q ↔ qx sc D 53 47 ls (vr (c + 14) :: st) u bb σ Q := r_getRc (idx := 104) (k := 16) (by decide +kernel) hc
theorem k53_47 : qx sc D 53 47 [vr a, l1] st u bb σ Q ↔ qx sc D 53 48 [vr a, l1] (vr a :: st) u bb σ Q := r_aload_n (k := 0) (by decide +kernel) rfl
theorem k53_48 : qx sc D 53 48 ls (vr 4 :: st) u bb σ Q ↔ 0 ≤ σ 4 3 ∧ qx sc D 53 51 ls (vr (σ 4 3).toNat :: st) u bb σ Q := r_getM (idx := 24) (c := 9) (k := 3) (by decide +kernel)
theorem k53_51 (hc : q_C c) : qx sc D 53 51 ls (vr c :: st) u bb σ Q ↔ qx sc D 53 54 ls (vr (c + 7) :: st) u bb σ Q := r_getRc (idx := 107) (k := 9) (by decide +kernel) hc
theorem k53_54 : qx sc D 53 54 [l0, vi x] st u bb σ Q ↔ qx sc D 53 55 [l0, vi x] (vi x :: st) u bb σ Q := r_iload_n (k := 1) (by decide +kernel) rfl
theorem k53_55 : qx sc D 53 55 ls (vi i :: vr a :: st) u bb σ Q ↔ (q_ty a = 0 ∧ 0 ≤ i ∧ i < q_ln a) ∧ qx sc D 53 56 ls (vi (σ a i) :: st) u bb σ Q := r_iald (by decide +kernel)
theorem k53_56 : qx sc D 53 56 ls (vi i :: vr a :: st) u bb σ Q ↔ (q_ty a = 0 ∧ 0 ≤ i ∧ i < q_ln a) ∧ qx sc D 53 57 ls (vi (σ a i) :: st) u bb σ Q := r_iald (by decide +kernel)
theorem k53_57 : qx sc D 53 57 ls (vi x :: vi i :: vr a :: st) u bb σ Q ↔ (q_ty a = 0 ∧ 0 ≤ i ∧ i < q_ln a) ∧ qx sc D 53 58 ls st u bb (q_up σ a i x) Q := r_iast (by decide +kernel)
theorem k53_58 : qx sc D 53 58 [vr a, l1] st u bb σ Q ↔ qx sc D 53 59 [vr a, l1] (vr a :: st) u bb σ Q := r_aload_n (k := 0) (by decide +kernel) rfl
theorem k53_59 : qx sc D 53 59 ls (vr 4 :: st) u bb σ Q ↔ 0 ≤ σ 4 3 ∧ qx sc D 53 62 ls (vr (σ 4 3).toNat :: st) u bb σ Q := r_getM (idx := 24) (c := 9) (k := 3) (by decide +kernel)
theorem k53_62 (hc : q_C c) : qx sc D 53 62 ls (vr c :: st) u bb σ Q ↔ qx sc D 53 65 ls (vr (c + 5) :: st) u bb σ Q := r_getRc (idx := 110) (k := 7) (by decide +kernel) hc
theorem k53_65 : qx sc D 53 65 [l0, vi x] st u bb σ Q ↔ qx sc D 53 66 [l0, vi x] (vi x :: st) u bb σ Q := r_iload_n (k := 1) (by decide +kernel) rfl
theorem k53_66 : qx sc D 53 66 [vr a, l1] st u bb σ Q ↔ qx sc D 53 67 [vr a, l1] (vr a :: st) u bb σ Q := r_aload_n (k := 0) (by decide +kernel) rfl
theorem k53_67 : qx sc (D + 1) 53 67 ls [vr 4, vi x20, vr a21] (0, 0) bb σ Q ↔ qx sc D 57 0 [vr 4, vn] [] (0, 0) bb σ (q_kn sc (D + 1) 53 70 ls [vi x20, vr a21] (0, 0) Q) := r_callv (idx := 88) (n := 0) (m := 2) (by decide +kernel) rfl (Nat.le_of_ble_eq_true rfl) ⟨Nat.le_of_ble_eq_true rfl, Nat.le_of_ble_eq_true rfl, rfl⟩ rfl
theorem k53_70 : qx sc D 53 70 ls (vi x :: vi i :: vr a :: st) u bb σ Q ↔ (q_ty a = 0 ∧ 0 ≤ i ∧ i < q_ln a) ∧ qx sc D 53 71 ls st u bb (q_up σ a i x) Q := r_iast (by decide +kernel)
theorem k53_71 : qx sc D 53 71 [vr a, l1] st u bb σ Q ↔ qx sc D 53 72 [vr a, l1] (vr a :: st) u bb σ Q := r_aload_n (k := 0) (by decide +kernel) rfl
theorem k53_72 : qx sc D 53 72 ls (vr 4 :: st) u bb σ Q ↔ 0 ≤ σ 4 3 ∧ qx sc D 53 75 ls (vr (σ 4 3).toNat :: st) u bb σ Q := r_getM (idx := 24) (c := 9) (k := 3) (by decide +kernel)
theorem k53_75 (hc : q_C c) : qx sc D 53 75 ls (vr c :: st) u bb σ Q ↔ qx sc D 53 78 ls (vr (c + 5) :: st) u bb σ Q := r_getRc (idx := 110) (k := 7) (by decide +kernel) hc
theorem k53_78 : qx sc D 53 78 [l0, vi x] st u bb σ Q ↔ qx sc D 53 79 [l0, vi x] (vi x :: st) u bb σ Q := r_iload_n (k := 1) (by decide +kernel) rfl
theorem k53_79 : qx sc D 53 79 ls (vi i :: vr a :: st) u bb σ Q ↔ (q_ty a = 0 ∧ 0 ≤ i ∧ i < q_ln a) ∧ qx sc D 53 80 ls (vi (σ a i) :: st) u bb σ Q := r_iald (by decide +kernel)
theorem k53_80 : qx sc D 53 80 ls st u bb σ Q ↔ qx sc D 53 81 ls (vi (-1) :: st) u bb σ Q := r_iconst (by decide +kernel)
theorem k53_81 : qx sc D 53 81 ls (vi b' :: vi a' :: st) u bb σ Q ↔ (a' = b' → qx sc D 53 97 ls st u bb σ Q) ∧ (¬ (a' = b') → qx sc D 53 84 ls st u bb σ Q) := r_ic_eq (off := 16) (t := 97) (by decide +kernel)
theorem k53_84 : qx sc D 53 84 [vr a, l1] st u bb σ Q ↔ qx sc D 53 85 [vr a, l1] (vr a :: st) u bb σ Q := r_aload_n (k := 0) (by decide +kernel) rfl
theorem k53_85 : qx sc D 53 85 ls st u bb σ Q ↔ qx sc D 53 87 ls (vi 59 :: st) u bb σ Q := r_bipush (by decide +kernel)
theorem k53_87 : qx sc (D + 1) 53 87 ls [vi x0, vr 4] (0, 0) bb σ Q ↔ qx sc D 51 0 [vr 4, vi x0] [] (0, 0) bb σ (q_kn sc (D + 1) 53 90 ls [] (0, 0) Q) := r_callv (idx := 64) (n := 1) (m := 2) (by decide +kernel) rfl (Nat.le_of_ble_eq_true rfl) ⟨Nat.le_of_ble_eq_true rfl, Nat.le_of_ble_eq_true rfl, rfl⟩ rfl
theorem k53_90 : qx sc D 53 90 ls (vi x :: st) u bb σ Q ↔ (x = 0 → qx sc D 53 97 ls st u bb σ Q) ∧ (¬ (x = 0) → qx sc D 53 93 ls st u bb σ Q) := r_if_eq (off := 7) (t := 97) (by decide +kernel)
theorem k53_93 : qx sc D 53 93 ls st u bb σ Q ↔ qx sc D 53 94 ls (vi 1 :: st) u bb σ Q := r_iconst (by decide +kernel)
theorem k53_94 : qx sc D 53 94 ls st u bb σ Q ↔ qx sc D 53 98 ls st u bb σ Q := r_goto (off := 4) (by decide +kernel)
theorem k53_97 : qx sc D 53 97 ls st u bb σ Q ↔ qx sc D 53 98 ls (vi 0 :: st) u bb σ Q := r_iconst (by decide +kernel)
theorem k53_98 : qx sc D 53 98 ls [vi x] (0, 0) bb σ Q ↔ (x = 0 ∨ x = 1) ∧ Q (.inl (some (vi x))) bb σ := r_retB (by decide +kernel)
-- 54: RowProver$Reader.test(I)Z
theorem k54_0 : qx sc D 54 0 [vr a, l1] st u bb σ Q ↔ qx sc D 54 1 [vr a, l1] (vr a :: st) u bb σ Q := r_aload_n (k := 0) (by decide +kernel) rfl
theorem k54_1 : qx sc D 54 1 [l0, vi x] st u bb σ Q ↔ qx sc D 54 2 [l0, vi x] (vi x :: st) u bb σ Q := r_iload_n (k := 1) (by decide +kernel) rfl
theorem k54_2 : qx sc D 54 2 ls st u bb σ Q ↔ qx sc D 54 3 ls (vi 0 :: st) u bb σ Q := r_iconst (by decide +kernel)
theorem k54_3 : qx sc (D + 1) 54 3 ls [vi x1, vi x0, vr 4] (0, 0) bb σ Q ↔ qx sc D 50 0 [vr 4, vi x0, vi x1, vn] [] (0, 0) bb σ (q_kn sc (D + 1) 54 6 ls [] (0, 0) Q) := r_callv (idx := 130) (n := 2) (m := 4) (by decide +kernel) rfl (Nat.le_of_ble_eq_true rfl) ⟨Nat.le_of_ble_eq_true rfl, Nat.le_of_ble_eq_true rfl, rfl⟩ rfl
theorem k54_6 : qx sc D 54 6 ls (vi x :: st) u bb σ Q ↔ (x = 0 → qx sc D 54 30 ls st u bb σ Q) ∧ (¬ (x = 0) → qx sc D 54 9 ls st u bb σ Q) := r_if_eq (off := 24) (t := 30) (by decide +kernel)
theorem k54_9 : qx sc D 54 9 [vr a, l1] st u bb σ Q ↔ qx sc D 54 10 [vr a, l1] (vr a :: st) u bb σ Q := r_aload_n (k := 0) (by decide +kernel) rfl
theorem k54_10 : qx sc D 54 10 [l0, vi x] st u bb σ Q ↔ qx sc D 54 11 [l0, vi x] (vi x :: st) u bb σ Q := r_iload_n (k := 1) (by decide +kernel) rfl
theorem k54_11 : qx sc (D + 1) 54 11 ls [vi x0, vr 4] (0, 0) bb σ Q ↔ qx sc D 47 0 [vr 4, vi x0] [] (0, 0) bb σ (q_kn sc (D + 1) 54 14 ls [] (0, 0) Q) := r_callv (idx := 134) (n := 1) (m := 2) (by decide +kernel) rfl (Nat.le_of_ble_eq_true rfl) ⟨Nat.le_of_ble_eq_true rfl, Nat.le_of_ble_eq_true rfl, rfl⟩ rfl
theorem k54_14 : qx sc D 54 14 ls (vi x :: st) u bb σ Q ↔ (x = 0 → qx sc D 54 30 ls st u bb σ Q) ∧ (¬ (x = 0) → qx sc D 54 17 ls st u bb σ Q) := r_if_eq (off := 16) (t := 30) (by decide +kernel)
theorem k54_17 : qx sc D 54 17 [vr a, l1] st u bb σ Q ↔ qx sc D 54 18 [vr a, l1] (vr a :: st) u bb σ Q := r_aload_n (k := 0) (by decide +kernel) rfl
theorem k54_18 : qx sc D 54 18 [l0, vi x] st u bb σ Q ↔ qx sc D 54 19 [l0, vi x] (vi x :: st) u bb σ Q := r_iload_n (k := 1) (by decide +kernel) rfl
theorem k54_19 : qx sc D 54 19 ls st u bb σ Q ↔ qx sc D 54 20 ls (vi 1 :: st) u bb σ Q := r_iconst (by decide +kernel)
theorem k54_20 : qx sc (D + 1) 54 20 ls [vi x1, vi x0, vr 4] (0, 0) bb σ Q ↔ qx sc D 50 0 [vr 4, vi x0, vi x1, vn] [] (0, 0) bb σ (q_kn sc (D + 1) 54 23 ls [] (0, 0) Q) := r_callv (idx := 130) (n := 2) (m := 4) (by decide +kernel) rfl (Nat.le_of_ble_eq_true rfl) ⟨Nat.le_of_ble_eq_true rfl, Nat.le_of_ble_eq_true rfl, rfl⟩ rfl
theorem k54_23 : qx sc D 54 23 ls (vi x :: st) u bb σ Q ↔ (x = 0 → qx sc D 54 30 ls st u bb σ Q) ∧ (¬ (x = 0) → qx sc D 54 26 ls st u bb σ Q) := r_if_eq (off := 7) (t := 30) (by decide +kernel)
theorem k54_26 : qx sc D 54 26 ls st u bb σ Q ↔ qx sc D 54 27 ls (vi 1 :: st) u bb σ Q := r_iconst (by decide +kernel)
theorem k54_27 : qx sc D 54 27 ls st u bb σ Q ↔ qx sc D 54 31 ls st u bb σ Q := r_goto (off := 4) (by decide +kernel)
theorem k54_30 : qx sc D 54 30 ls st u bb σ Q ↔ qx sc D 54 31 ls (vi 0 :: st) u bb σ Q := r_iconst (by decide +kernel)
theorem k54_31 : qx sc D 54 31 ls [vi x] (0, 0) bb σ Q ↔ (x = 0 ∨ x = 1) ∧ Q (.inl (some (vi x))) bb σ := r_retB (by decide +kernel)
-- 55: RowProver$Reader.toldRow()I
theorem k55_0 : qx sc D 55 0 [vr a, l1] st u bb σ Q ↔ qx sc D 55 1 [vr a, l1] (vr a :: st) u bb σ Q := r_aload_n (k := 0) (by decide +kernel) rfl
theorem k55_1 : qx sc D 55 1 ls (vr 4 :: st) u bb σ Q ↔ qx sc D 55 4 ls (vr 5 :: st) u bb σ Q := r_getR (idx := 14) (c := 9) (k := 0) (by decide +kernel)
theorem k55_4 : qx sc D 55 4 ls (vr 5 :: st) u bb σ Q ↔ qx sc D 55 7 ls (vr 6 :: st) u bb σ Q := r_getR (idx := 48) (c := 12) (k := 3) (by decide +kernel)
theorem k55_7 : qx sc D 55 7 [vr a, l1] st u bb σ Q ↔ qx sc D 55 8 [vr a, l1] (vr a :: st) u bb σ Q := r_aload_n (k := 0) (by decide +kernel) rfl
theorem k55_8 : qx sc D 55 8 ls (vr 4 :: st) u bb σ Q ↔ qx sc D 55 11 ls (vi (σ 4 1) :: st) u bb σ Q := r_getI (idx := 33) (c := 9) (k := 1) (by decide +kernel)
theorem k55_11 : qx sc D 55 11 ls (vi i :: vr a :: st) u bb σ Q ↔ (q_ty a = 0 ∧ 0 ≤ i ∧ i < q_ln a) ∧ qx sc D 55 12 ls (vi (σ a i) :: st) u bb σ Q := r_iald (by decide +kernel)
theorem k55_12 : qx sc D 55 12 ls st u bb σ Q ↔ qx sc D 55 14 ls (vi 65 :: st) u bb σ Q := r_bipush (by decide +kernel)
theorem k55_14 : qx sc D 55 14 ls (vi b' :: vi a' :: st) u bb σ Q ↔ q_R (a' - b') ∧ qx sc D 55 15 ls (vi (a' - b') :: st) u bb σ Q := r_isub (by decide +kernel)
theorem k55_15 : qx sc D 55 15 [l0, l1] (vi x :: st) u bb σ Q ↔ qx sc D 55 16 [l0, vi x] st u bb σ Q := r_istore_n (k := 1) (by decide +kernel) (Nat.le_of_ble_eq_true rfl)
theorem k55_16 : qx sc D 55 16 [l0, vi x] st u bb σ Q ↔ qx sc D 55 17 [l0, vi x] (vi x :: st) u bb σ Q := r_iload_n (k := 1) (by decide +kernel) rfl
theorem k55_17 : qx sc D 55 17 ls (vi x :: st) u bb σ Q ↔ (x < 0 → qx sc D 55 38 ls st u bb σ Q) ∧ (¬ (x < 0) → qx sc D 55 20 ls st u bb σ Q) := r_if_lt (off := 21) (t := 38) (by decide +kernel)
theorem k55_20 : qx sc D 55 20 [l0, vi x] st u bb σ Q ↔ qx sc D 55 21 [l0, vi x] (vi x :: st) u bb σ Q := r_iload_n (k := 1) (by decide +kernel) rfl
theorem k55_21 : qx sc D 55 21 ls st u bb σ Q ↔ qx sc D 55 22 ls (vi 3 :: st) u bb σ Q := r_iconst (by decide +kernel)
theorem k55_22 : qx sc D 55 22 ls (vi b' :: vi a' :: st) u bb σ Q ↔ (a' < b' → qx sc D 55 25 ls st u bb σ Q) ∧ (¬ (a' < b') → qx sc D 55 38 ls st u bb σ Q) := r_ic_ge (off := 16) (t := 38) (by decide +kernel)
theorem k55_25 : qx sc D 55 25 [vr a, l1] st u bb σ Q ↔ qx sc D 55 26 [vr a, l1] (vr a :: st) u bb σ Q := r_aload_n (k := 0) (by decide +kernel) rfl
theorem k55_26 : qx sc D 55 26 ls (vr 4 :: st) u bb σ Q ↔ 0 ≤ σ 4 3 ∧ qx sc D 55 29 ls (vr (σ 4 3).toNat :: st) u bb σ Q := r_getM (idx := 24) (c := 9) (k := 3) (by decide +kernel)
theorem k55_29 (hc : q_C c) : qx sc D 55 29 ls (vr c :: st) u bb σ Q ↔ qx sc D 55 32 ls (vr (c + 1) :: st) u bb σ Q := r_getRc (idx := 61) (k := 3) (by decide +kernel) hc
theorem k55_32 : qx sc D 55 32 [l0, vi x] st u bb σ Q ↔ qx sc D 55 33 [l0, vi x] (vi x :: st) u bb σ Q := r_iload_n (k := 1) (by decide +kernel) rfl
theorem k55_33 : qx sc D 55 33 ls (vi i :: vr a :: st) u bb σ Q ↔ (q_ty a = 0 ∧ 0 ≤ i ∧ i < q_ln a) ∧ qx sc D 55 34 ls (vi (σ a i) :: st) u bb σ Q := r_iald (by decide +kernel)
theorem k55_34 : qx sc D 55 34 ls st u bb σ Q ↔ qx sc D 55 35 ls (vi (-1) :: st) u bb σ Q := r_iconst (by decide +kernel)
theorem k55_35 : qx sc D 55 35 ls (vi b' :: vi a' :: st) u bb σ Q ↔ (a' = b' → qx sc D 55 38 ls st u bb σ Q) ∧ (¬ (a' = b') → qx sc D 55 40 ls st u bb σ Q) := r_ic_ne (off := 5) (t := 40) (by decide +kernel)
theorem k55_38 : qx sc D 55 38 ls st u bb σ Q ↔ qx sc D 55 39 ls (vi (-1) :: st) u bb σ Q := r_iconst (by decide +kernel)
theorem k55_39 : qx sc D 55 39 ls [vi x] (0, 0) bb σ Q ↔ Q (.inl (some (vi x))) bb σ := r_ret (by decide +kernel)
theorem k55_40 : qx sc D 55 40 [vr a, l1] st u bb σ Q ↔ qx sc D 55 41 [vr a, l1] (vr a :: st) u bb σ Q := r_aload_n (k := 0) (by decide +kernel) rfl
theorem k55_41 : qx sc D 55 41 ls (vr a :: st) u bb σ Q ↔ qx sc D 55 42 ls (vr a :: vr a :: st) u bb σ Q := r_dupA (by decide +kernel)
theorem k55_42 : qx sc D 55 42 ls (vr 4 :: st) u bb σ Q ↔ qx sc D 55 45 ls (vi (σ 4 1) :: st) u bb σ Q := r_getI (idx := 33) (c := 9) (k := 1) (by decide +kernel)
theorem k55_45 : qx sc D 55 45 ls st u bb σ Q ↔ qx sc D 55 46 ls (vi 1 :: st) u bb σ Q := r_iconst (by decide +kernel)
theorem k55_46 : qx sc D 55 46 ls (vi b' :: vi a' :: st) u bb σ Q ↔ q_R (a' + b') ∧ qx sc D 55 47 ls (vi (a' + b') :: st) u bb σ Q := r_iadd (by decide +kernel)
theorem k55_47 : qx sc D 55 47 ls (vi x :: vr 4 :: st) u bb σ Q ↔ qx sc D 55 50 ls st u bb (q_up σ 4 1 x) Q := r_putI (idx := 33) (c := 9) (k := 1) (by decide +kernel)
theorem k55_50 : qx sc D 55 50 [l0, vi x] st u bb σ Q ↔ qx sc D 55 51 [l0, vi x] (vi x :: st) u bb σ Q := r_iload_n (k := 1) (by decide +kernel) rfl
theorem k55_51 : qx sc D 55 51 ls [vi x] (0, 0) bb σ Q ↔ Q (.inl (some (vi x))) bb σ := r_ret (by decide +kernel)
-- 56: RowProver$Reader.value(I)Z
theorem k56_0 : qx sc D 56 0 [vr a, l1] st u bb σ Q ↔ qx sc D 56 1 [vr a, l1] (vr a :: st) u bb σ Q := r_aload_n (k := 0) (by decide +kernel) rfl
theorem k56_1 : qx sc D 56 1 ls (vr 4 :: st) u bb σ Q ↔ qx sc D 56 4 ls (vr 5 :: st) u bb σ Q := r_getR (idx := 14) (c := 9) (k := 0) (by decide +kernel)
theorem k56_4 : qx sc D 56 4 ls (vr 5 :: st) u bb σ Q ↔ qx sc D 56 7 ls (vr 6 :: st) u bb σ Q := r_getR (idx := 48) (c := 12) (k := 3) (by decide +kernel)
theorem k56_7 : qx sc D 56 7 [vr a, l1] st u bb σ Q ↔ qx sc D 56 8 [vr a, l1] (vr a :: st) u bb σ Q := r_aload_n (k := 0) (by decide +kernel) rfl
theorem k56_8 : qx sc D 56 8 ls (vr 4 :: st) u bb σ Q ↔ qx sc D 56 11 ls (vi (σ 4 1) :: st) u bb σ Q := r_getI (idx := 33) (c := 9) (k := 1) (by decide +kernel)
theorem k56_11 : qx sc D 56 11 ls (vi i :: vr a :: st) u bb σ Q ↔ (q_ty a = 0 ∧ 0 ≤ i ∧ i < q_ln a) ∧ qx sc D 56 12 ls (vi (σ a i) :: st) u bb σ Q := r_iald (by decide +kernel)
theorem k56_12 : qx sc D 56 12 ls (vi x :: st) u bb σ Q ↔ qx sc D 56 (if x = 35 then 104 else if x = 45 then 87 else if x = 65 then 209 else if x = 66 then 209 else if x = 67 then 209 else if x = 261 then 156 else if x = 262 then 80 else 225) ls st u bb σ Q := by
  rw [r_lsw (d := 213) (ps := #[(35, 92), (45, 75), (65, 197), (66, 197), (67, 197), (261, 144), (262, 68)]) (dt := 225) (tg := [(35, 104), (45, 87), (65, 209), (66, 209), (67, 209), (261, 156), (262, 80)]) (by decide +kernel)]
  rfl
theorem k56_80 : qx sc D 56 80 [vr a, l1] st u bb σ Q ↔ qx sc D 56 81 [vr a, l1] (vr a :: st) u bb σ Q := r_aload_n (k := 0) (by decide +kernel) rfl
theorem k56_81 : qx sc D 56 81 [l0, vi x] st u bb σ Q ↔ qx sc D 56 82 [l0, vi x] (vi x :: st) u bb σ Q := r_iload_n (k := 1) (by decide +kernel) rfl
theorem k56_82 : qx sc D 56 82 ls st u bb σ Q ↔ qx sc D 56 83 ls (vi 1 :: st) u bb σ Q := r_iconst (by decide +kernel)
theorem k56_83 : qx sc (D + 1) 56 83 ls [vi x1, vi x0, vr 4] (0, 0) bb σ Q ↔ qx sc D 44 0 [vr 4, vi x0, vi x1, vn] [] (0, 0) bb σ (q_kn sc (D + 1) 56 86 ls [] (0, 0) Q) := r_callv (idx := 155) (n := 2) (m := 4) (by decide +kernel) rfl (Nat.le_of_ble_eq_true rfl) ⟨Nat.le_of_ble_eq_true rfl, Nat.le_of_ble_eq_true rfl, rfl⟩ rfl
theorem k56_86 : qx sc D 56 86 ls [vi x] (0, 0) bb σ Q ↔ (x = 0 ∨ x = 1) ∧ Q (.inl (some (vi x))) bb σ := r_retB (by decide +kernel)
theorem k56_87 : qx sc D 56 87 [vr a, l1] st u bb σ Q ↔ qx sc D 56 88 [vr a, l1] (vr a :: st) u bb σ Q := r_aload_n (k := 0) (by decide +kernel) rfl
theorem k56_88 : qx sc D 56 88 ls (vr a :: st) u bb σ Q ↔ qx sc D 56 89 ls (vr a :: vr a :: st) u bb σ Q := r_dupA (by decide +kernel)
theorem k56_89 : qx sc D 56 89 ls (vr 4 :: st) u bb σ Q ↔ qx sc D 56 92 ls (vi (σ 4 1) :: st) u bb σ Q := r_getI (idx := 33) (c := 9) (k := 1) (by decide +kernel)
theorem k56_92 : qx sc D 56 92 ls st u bb σ Q ↔ qx sc D 56 93 ls (vi 1 :: st) u bb σ Q := r_iconst (by decide +kernel)
theorem k56_93 : qx sc D 56 93 ls (vi b' :: vi a' :: st) u bb σ Q ↔ q_R (a' + b') ∧ qx sc D 56 94 ls (vi (a' + b') :: st) u bb σ Q := r_iadd (by decide +kernel)
theorem k56_94 : qx sc D 56 94 ls (vi x :: vr 4 :: st) u bb σ Q ↔ qx sc D 56 97 ls st u bb (q_up σ 4 1 x) Q := r_putI (idx := 33) (c := 9) (k := 1) (by decide +kernel)
theorem k56_97 : qx sc D 56 97 [vr a, l1] st u bb σ Q ↔ qx sc D 56 98 [vr a, l1] (vr a :: st) u bb σ Q := r_aload_n (k := 0) (by decide +kernel) rfl
theorem k56_98 : qx sc D 56 98 [l0, vi x] st u bb σ Q ↔ qx sc D 56 99 [l0, vi x] (vi x :: st) u bb σ Q := r_iload_n (k := 1) (by decide +kernel) rfl
theorem k56_99 : qx sc D 56 99 ls st u bb σ Q ↔ qx sc D 56 100 ls (vi (-1) :: st) u bb σ Q := r_iconst (by decide +kernel)
theorem k56_100 : qx sc (D + 1) 56 100 ls [vi x1, vi x0, vr 4] (0, 0) bb σ Q ↔ qx sc D 44 0 [vr 4, vi x0, vi x1, vn] [] (0, 0) bb σ (q_kn sc (D + 1) 56 103 ls [] (0, 0) Q) := r_callv (idx := 155) (n := 2) (m := 4) (by decide +kernel) rfl (Nat.le_of_ble_eq_true rfl) ⟨Nat.le_of_ble_eq_true rfl, Nat.le_of_ble_eq_true rfl, rfl⟩ rfl
theorem k56_103 : qx sc D 56 103 ls [vi x] (0, 0) bb σ Q ↔ (x = 0 ∨ x = 1) ∧ Q (.inl (some (vi x))) bb σ := r_retB (by decide +kernel)
theorem k56_104 : qx sc D 56 104 [vr a, l1] st u bb σ Q ↔ qx sc D 56 105 [vr a, l1] (vr a :: st) u bb σ Q := r_aload_n (k := 0) (by decide +kernel) rfl
theorem k56_105 : qx sc D 56 105 ls (vr a :: st) u bb σ Q ↔ qx sc D 56 106 ls (vr a :: vr a :: st) u bb σ Q := r_dupA (by decide +kernel)
theorem k56_106 : qx sc D 56 106 ls (vr 4 :: st) u bb σ Q ↔ qx sc D 56 109 ls (vi (σ 4 1) :: st) u bb σ Q := r_getI (idx := 33) (c := 9) (k := 1) (by decide +kernel)
theorem k56_109 : qx sc D 56 109 ls st u bb σ Q ↔ qx sc D 56 110 ls (vi 1 :: st) u bb σ Q := r_iconst (by decide +kernel)
theorem k56_110 : qx sc D 56 110 ls (vi b' :: vi a' :: st) u bb σ Q ↔ q_R (a' + b') ∧ qx sc D 56 111 ls (vi (a' + b') :: st) u bb σ Q := r_iadd (by decide +kernel)
theorem k56_111 : qx sc D 56 111 ls (vi x :: vr 4 :: st) u bb σ Q ↔ qx sc D 56 114 ls st u bb (q_up σ 4 1 x) Q := r_putI (idx := 33) (c := 9) (k := 1) (by decide +kernel)
theorem k56_114 : qx sc D 56 114 [vr a, l1] st u bb σ Q ↔ qx sc D 56 115 [vr a, l1] (vr a :: st) u bb σ Q := r_aload_n (k := 0) (by decide +kernel) rfl
theorem k56_115 : qx sc D 56 115 ls (vr 4 :: st) u bb σ Q ↔ 0 ≤ σ 4 3 ∧ qx sc D 56 118 ls (vr (σ 4 3).toNat :: st) u bb σ Q := r_getM (idx := 24) (c := 9) (k := 3) (by decide +kernel)
theorem k56_118 (hc : q_C c) : qx sc D 56 118 ls (vr c :: st) u bb σ Q ↔ qx sc D 56 121 ls (vr (c + 4) :: st) u bb σ Q := r_getRc (idx := 158) (k := 6) (by decide +kernel) hc
theorem k56_121 : qx sc D 56 121 [l0, vi x] st u bb σ Q ↔ qx sc D 56 122 [l0, vi x] (vi x :: st) u bb σ Q := r_iload_n (k := 1) (by decide +kernel) rfl
theorem k56_122 : qx sc D 56 122 ls st u bb σ Q ↔ qx sc D 56 123 ls (vi 2 :: st) u bb σ Q := r_iconst (by decide +kernel)
theorem k56_123 : qx sc D 56 123 ls (vi x :: vi i :: vr a :: st) u bb σ Q ↔ (q_ty a = 0 ∧ 0 ≤ i ∧ i < q_ln a) ∧ qx sc D 56 124 ls st u bb (q_up σ a i x) Q := r_iast (by decide +kernel)
theorem k56_124 : qx sc D 56 124 [vr a, l1] st u bb σ Q ↔ qx sc D 56 125 [vr a, l1] (vr a :: st) u bb σ Q := r_aload_n (k := 0) (by decide +kernel) rfl
theorem k56_125 : qx sc D 56 125 ls (vr 4 :: st) u bb σ Q ↔ 0 ≤ σ 4 3 ∧ qx sc D 56 128 ls (vr (σ 4 3).toNat :: st) u bb σ Q := r_getM (idx := 24) (c := 9) (k := 3) (by decide +kernel)
theorem k56_128 (hc : q_C c) : qx sc D 56 128 ls (vr c :: st) u bb σ Q ↔ qx sc D 56 131 ls (vr (c + 5) :: st) u bb σ Q := r_getRc (idx := 110) (k := 7) (by decide +kernel) hc
theorem k56_131 : qx sc D 56 131 [l0, vi x] st u bb σ Q ↔ qx sc D 56 132 [l0, vi x] (vi x :: st) u bb σ Q := r_iload_n (k := 1) (by decide +kernel) rfl
theorem k56_132 : qx sc D 56 132 [vr a, l1] st u bb σ Q ↔ qx sc D 56 133 [vr a, l1] (vr a :: st) u bb σ Q := r_aload_n (k := 0) (by decide +kernel) rfl
theorem k56_133 : qx sc (D + 1) 56 133 ls [vr 4, vi x20, vr a21] (0, 0) bb σ Q ↔ qx sc D 55 0 [vr 4, vn] [] (0, 0) bb σ (q_kn sc (D + 1) 56 136 ls [vi x20, vr a21] (0, 0) Q) := r_callv (idx := 150) (n := 0) (m := 2) (by decide +kernel) rfl (Nat.le_of_ble_eq_true rfl) ⟨Nat.le_of_ble_eq_true rfl, Nat.le_of_ble_eq_true rfl, rfl⟩ rfl
theorem k56_136 : qx sc D 56 136 ls (vi x :: vi i :: vr a :: st) u bb σ Q ↔ (q_ty a = 0 ∧ 0 ≤ i ∧ i < q_ln a) ∧ qx sc D 56 137 ls st u bb (q_up σ a i x) Q := r_iast (by decide +kernel)
theorem k56_137 : qx sc D 56 137 [vr a, l1] st u bb σ Q ↔ qx sc D 56 138 [vr a, l1] (vr a :: st) u bb σ Q := r_aload_n (k := 0) (by decide +kernel) rfl
theorem k56_138 : qx sc D 56 138 ls (vr 4 :: st) u bb σ Q ↔ 0 ≤ σ 4 3 ∧ qx sc D 56 141 ls (vr (σ 4 3).toNat :: st) u bb σ Q := r_getM (idx := 24) (c := 9) (k := 3) (by decide +kernel)
theorem k56_141 (hc : q_C c) : qx sc D 56 141 ls (vr c :: st) u bb σ Q ↔ qx sc D 56 144 ls (vr (c + 5) :: st) u bb σ Q := r_getRc (idx := 110) (k := 7) (by decide +kernel) hc
theorem k56_144 : qx sc D 56 144 [l0, vi x] st u bb σ Q ↔ qx sc D 56 145 [l0, vi x] (vi x :: st) u bb σ Q := r_iload_n (k := 1) (by decide +kernel) rfl
theorem k56_145 : qx sc D 56 145 ls (vi i :: vr a :: st) u bb σ Q ↔ (q_ty a = 0 ∧ 0 ≤ i ∧ i < q_ln a) ∧ qx sc D 56 146 ls (vi (σ a i) :: st) u bb σ Q := r_iald (by decide +kernel)
theorem k56_146 : qx sc D 56 146 ls st u bb σ Q ↔ qx sc D 56 147 ls (vi (-1) :: st) u bb σ Q := r_iconst (by decide +kernel)
theorem k56_147 : qx sc D 56 147 ls (vi b' :: vi a' :: st) u bb σ Q ↔ (a' = b' → qx sc D 56 154 ls st u bb σ Q) ∧ (¬ (a' = b') → qx sc D 56 150 ls st u bb σ Q) := r_ic_eq (off := 7) (t := 154) (by decide +kernel)
theorem k56_150 : qx sc D 56 150 ls st u bb σ Q ↔ qx sc D 56 151 ls (vi 1 :: st) u bb σ Q := r_iconst (by decide +kernel)
theorem k56_151 : qx sc D 56 151 ls st u bb σ Q ↔ qx sc D 56 155 ls st u bb σ Q := r_goto (off := 4) (by decide +kernel)
theorem k56_154 : qx sc D 56 154 ls st u bb σ Q ↔ qx sc D 56 155 ls (vi 0 :: st) u bb σ Q := r_iconst (by decide +kernel)
theorem k56_155 : qx sc D 56 155 ls [vi x] (0, 0) bb σ Q ↔ (x = 0 ∨ x = 1) ∧ Q (.inl (some (vi x))) bb σ := r_retB (by decide +kernel)
theorem k56_156 : qx sc D 56 156 [vr a, l1] st u bb σ Q ↔ qx sc D 56 157 [vr a, l1] (vr a :: st) u bb σ Q := r_aload_n (k := 0) (by decide +kernel) rfl
theorem k56_157 : qx sc D 56 157 ls (vr a :: st) u bb σ Q ↔ qx sc D 56 158 ls (vr a :: vr a :: st) u bb σ Q := r_dupA (by decide +kernel)
theorem k56_158 : qx sc D 56 158 ls (vr 4 :: st) u bb σ Q ↔ qx sc D 56 161 ls (vi (σ 4 1) :: st) u bb σ Q := r_getI (idx := 33) (c := 9) (k := 1) (by decide +kernel)
theorem k56_161 : qx sc D 56 161 ls st u bb σ Q ↔ qx sc D 56 162 ls (vi 1 :: st) u bb σ Q := r_iconst (by decide +kernel)
theorem k56_162 : qx sc D 56 162 ls (vi b' :: vi a' :: st) u bb σ Q ↔ q_R (a' + b') ∧ qx sc D 56 163 ls (vi (a' + b') :: st) u bb σ Q := r_iadd (by decide +kernel)
theorem k56_163 : qx sc D 56 163 ls (vi x :: vr 4 :: st) u bb σ Q ↔ qx sc D 56 166 ls st u bb (q_up σ 4 1 x) Q := r_putI (idx := 33) (c := 9) (k := 1) (by decide +kernel)
theorem k56_166 : qx sc D 56 166 [vr a, l1] st u bb σ Q ↔ qx sc D 56 167 [vr a, l1] (vr a :: st) u bb σ Q := r_aload_n (k := 0) (by decide +kernel) rfl
theorem k56_167 : qx sc D 56 167 ls (vr 4 :: st) u bb σ Q ↔ 0 ≤ σ 4 3 ∧ qx sc D 56 170 ls (vr (σ 4 3).toNat :: st) u bb σ Q := r_getM (idx := 24) (c := 9) (k := 3) (by decide +kernel)
theorem k56_170 (hc : q_C c) : qx sc D 56 170 ls (vr c :: st) u bb σ Q ↔ qx sc D 56 173 ls (vr (c + 4) :: st) u bb σ Q := r_getRc (idx := 158) (k := 6) (by decide +kernel) hc
theorem k56_173 : qx sc D 56 173 [l0, vi x] st u bb σ Q ↔ qx sc D 56 174 [l0, vi x] (vi x :: st) u bb σ Q := r_iload_n (k := 1) (by decide +kernel) rfl
theorem k56_174 : qx sc D 56 174 ls st u bb σ Q ↔ qx sc D 56 175 ls (vi 5 :: st) u bb σ Q := r_iconst (by decide +kernel)
theorem k56_175 : qx sc D 56 175 ls (vi x :: vi i :: vr a :: st) u bb σ Q ↔ (q_ty a = 0 ∧ 0 ≤ i ∧ i < q_ln a) ∧ qx sc D 56 176 ls st u bb (q_up σ a i x) Q := r_iast (by decide +kernel)
theorem k56_176 : qx sc D 56 176 [vr a, l1] st u bb σ Q ↔ qx sc D 56 177 [vr a, l1] (vr a :: st) u bb σ Q := r_aload_n (k := 0) (by decide +kernel) rfl
theorem k56_177 : qx sc D 56 177 ls (vr 4 :: st) u bb σ Q ↔ 0 ≤ σ 4 3 ∧ qx sc D 56 180 ls (vr (σ 4 3).toNat :: st) u bb σ Q := r_getM (idx := 24) (c := 9) (k := 3) (by decide +kernel)
theorem k56_180 (hc : q_C c) : qx sc D 56 180 ls (vr c :: st) u bb σ Q ↔ qx sc D 56 183 ls (vr (c + 5) :: st) u bb σ Q := r_getRc (idx := 110) (k := 7) (by decide +kernel) hc
theorem k56_183 : qx sc D 56 183 [l0, vi x] st u bb σ Q ↔ qx sc D 56 184 [l0, vi x] (vi x :: st) u bb σ Q := r_iload_n (k := 1) (by decide +kernel) rfl
theorem k56_184 : qx sc D 56 184 [vr a, l1] st u bb σ Q ↔ qx sc D 56 185 [vr a, l1] (vr a :: st) u bb σ Q := r_aload_n (k := 0) (by decide +kernel) rfl
theorem k56_185 : qx sc D 56 185 ls st u bb σ Q ↔ qx sc D 56 186 ls (vi 2 :: st) u bb σ Q := r_iconst (by decide +kernel)
theorem k56_186 : qx sc (D + 1) 56 186 ls [vi x0, vr 4, vi x20, vr a21] (0, 0) bb σ Q ↔ qx sc D 43 0 [vr 4, vi x0] [] (0, 0) bb σ (q_kn sc (D + 1) 56 189 ls [vi x20, vr a21] (0, 0) Q) := r_callv (idx := 67) (n := 1) (m := 2) (by decide +kernel) rfl (Nat.le_of_ble_eq_true rfl) ⟨Nat.le_of_ble_eq_true rfl, Nat.le_of_ble_eq_true rfl, rfl⟩ rfl
theorem k56_189 : qx sc D 56 189 ls (vi x :: vi i :: vr a :: st) u bb σ Q ↔ (q_ty a = 0 ∧ 0 ≤ i ∧ i < q_ln a) ∧ qx sc D 56 190 ls st u bb (q_up σ a i x) Q := r_iast (by decide +kernel)
theorem k56_190 : qx sc D 56 190 [vr a, l1] st u bb σ Q ↔ qx sc D 56 191 [vr a, l1] (vr a :: st) u bb σ Q := r_aload_n (k := 0) (by decide +kernel) rfl
theorem k56_191 : qx sc D 56 191 ls (vr 4 :: st) u bb σ Q ↔ 0 ≤ σ 4 3 ∧ qx sc D 56 194 ls (vr (σ 4 3).toNat :: st) u bb σ Q := r_getM (idx := 24) (c := 9) (k := 3) (by decide +kernel)
theorem k56_194 (hc : q_C c) : qx sc D 56 194 ls (vr c :: st) u bb σ Q ↔ qx sc D 56 197 ls (vr (c + 5) :: st) u bb σ Q := r_getRc (idx := 110) (k := 7) (by decide +kernel) hc
theorem k56_197 : qx sc D 56 197 [l0, vi x] st u bb σ Q ↔ qx sc D 56 198 [l0, vi x] (vi x :: st) u bb σ Q := r_iload_n (k := 1) (by decide +kernel) rfl
theorem k56_198 : qx sc D 56 198 ls (vi i :: vr a :: st) u bb σ Q ↔ (q_ty a = 0 ∧ 0 ≤ i ∧ i < q_ln a) ∧ qx sc D 56 199 ls (vi (σ a i) :: st) u bb σ Q := r_iald (by decide +kernel)
theorem k56_199 : qx sc D 56 199 ls st u bb σ Q ↔ qx sc D 56 200 ls (vi (-1) :: st) u bb σ Q := r_iconst (by decide +kernel)
theorem k56_200 : qx sc D 56 200 ls (vi b' :: vi a' :: st) u bb σ Q ↔ (a' = b' → qx sc D 56 207 ls st u bb σ Q) ∧ (¬ (a' = b') → qx sc D 56 203 ls st u bb σ Q) := r_ic_eq (off := 7) (t := 207) (by decide +kernel)
theorem k56_203 : qx sc D 56 203 ls st u bb σ Q ↔ qx sc D 56 204 ls (vi 1 :: st) u bb σ Q := r_iconst (by decide +kernel)
theorem k56_204 : qx sc D 56 204 ls st u bb σ Q ↔ qx sc D 56 208 ls st u bb σ Q := r_goto (off := 4) (by decide +kernel)
theorem k56_207 : qx sc D 56 207 ls st u bb σ Q ↔ qx sc D 56 208 ls (vi 0 :: st) u bb σ Q := r_iconst (by decide +kernel)
theorem k56_208 : qx sc D 56 208 ls [vi x] (0, 0) bb σ Q ↔ (x = 0 ∨ x = 1) ∧ Q (.inl (some (vi x))) bb σ := r_retB (by decide +kernel)
theorem k56_209 : qx sc D 56 209 [vr a, l1] st u bb σ Q ↔ qx sc D 56 210 [vr a, l1] (vr a :: st) u bb σ Q := r_aload_n (k := 0) (by decide +kernel) rfl
theorem k56_210 : qx sc D 56 210 ls (vr 4 :: st) u bb σ Q ↔ 0 ≤ σ 4 3 ∧ qx sc D 56 213 ls (vr (σ 4 3).toNat :: st) u bb σ Q := r_getM (idx := 24) (c := 9) (k := 3) (by decide +kernel)
theorem k56_213 (hc : q_C c) : qx sc D 56 213 ls (vr c :: st) u bb σ Q ↔ qx sc D 56 216 ls (vr (c + 4) :: st) u bb σ Q := r_getRc (idx := 158) (k := 6) (by decide +kernel) hc
theorem k56_216 : qx sc D 56 216 [l0, vi x] st u bb σ Q ↔ qx sc D 56 217 [l0, vi x] (vi x :: st) u bb σ Q := r_iload_n (k := 1) (by decide +kernel) rfl
theorem k56_217 : qx sc D 56 217 ls st u bb σ Q ↔ qx sc D 56 218 ls (vi 4 :: st) u bb σ Q := r_iconst (by decide +kernel)
theorem k56_218 : qx sc D 56 218 ls (vi x :: vi i :: vr a :: st) u bb σ Q ↔ (q_ty a = 0 ∧ 0 ≤ i ∧ i < q_ln a) ∧ qx sc D 56 219 ls st u bb (q_up σ a i x) Q := r_iast (by decide +kernel)
theorem k56_219 : qx sc D 56 219 [vr a, l1] st u bb σ Q ↔ qx sc D 56 220 [vr a, l1] (vr a :: st) u bb σ Q := r_aload_n (k := 0) (by decide +kernel) rfl
theorem k56_220 : qx sc D 56 220 [l0, vi x] st u bb σ Q ↔ qx sc D 56 221 [l0, vi x] (vi x :: st) u bb σ Q := r_iload_n (k := 1) (by decide +kernel) rfl
theorem k56_221 : qx sc (D + 1) 56 221 ls [vi x0, vr 4] (0, 0) bb σ Q ↔ qx sc D 42 0 [vr 4, vi x0, vn, vn] [] (0, 0) bb σ (q_kn sc (D + 1) 56 224 ls [] (0, 0) Q) := r_callv (idx := 101) (n := 1) (m := 4) (by decide +kernel) rfl (Nat.le_of_ble_eq_true rfl) ⟨Nat.le_of_ble_eq_true rfl, Nat.le_of_ble_eq_true rfl, rfl⟩ rfl
theorem k56_224 : qx sc D 56 224 ls [vi x] (0, 0) bb σ Q ↔ (x = 0 ∨ x = 1) ∧ Q (.inl (some (vi x))) bb σ := r_retB (by decide +kernel)
theorem k56_225 : qx sc D 56 225 [vr a, l1] st u bb σ Q ↔ qx sc D 56 226 [vr a, l1] (vr a :: st) u bb σ Q := r_aload_n (k := 0) (by decide +kernel) rfl
theorem k56_226 : qx sc D 56 226 [l0, vi x] st u bb σ Q ↔ qx sc D 56 227 [l0, vi x] (vi x :: st) u bb σ Q := r_iload_n (k := 1) (by decide +kernel) rfl
theorem k56_227 : qx sc (D + 1) 56 227 ls [vi x0, vr 4] (0, 0) bb σ Q ↔ qx sc D 58 0 [vr 4, vi x0, vn, vn] [] (0, 0) bb σ (q_kn sc (D + 1) 56 230 ls [] (0, 0) Q) := r_callv (idx := 161) (n := 1) (m := 4) (by decide +kernel) rfl (Nat.le_of_ble_eq_true rfl) ⟨Nat.le_of_ble_eq_true rfl, Nat.le_of_ble_eq_true rfl, rfl⟩ rfl
theorem k56_230 : qx sc D 56 230 ls [vi x] (0, 0) bb σ Q ↔ (x = 0 ∨ x = 1) ∧ Q (.inl (some (vi x))) bb σ := r_retB (by decide +kernel)
-- 57: RowProver$Reader.variable()I
theorem k57_0 : qx sc D 57 0 [vr a, l1] st u bb σ Q ↔ qx sc D 57 1 [vr a, l1] (vr a :: st) u bb σ Q := r_aload_n (k := 0) (by decide +kernel) rfl
theorem k57_1 : qx sc D 57 1 ls (vr 4 :: st) u bb σ Q ↔ qx sc D 57 4 ls (vr 5 :: st) u bb σ Q := r_getR (idx := 14) (c := 9) (k := 0) (by decide +kernel)
theorem k57_4 : qx sc D 57 4 ls (vr 5 :: st) u bb σ Q ↔ qx sc D 57 7 ls (vr 6 :: st) u bb σ Q := r_getR (idx := 48) (c := 12) (k := 3) (by decide +kernel)
theorem k57_7 : qx sc D 57 7 [vr a, l1] st u bb σ Q ↔ qx sc D 57 8 [vr a, l1] (vr a :: st) u bb σ Q := r_aload_n (k := 0) (by decide +kernel) rfl
theorem k57_8 : qx sc D 57 8 ls (vr 4 :: st) u bb σ Q ↔ qx sc D 57 11 ls (vi (σ 4 1) :: st) u bb σ Q := r_getI (idx := 33) (c := 9) (k := 1) (by decide +kernel)
theorem k57_11 : qx sc D 57 11 ls (vi i :: vr a :: st) u bb σ Q ↔ (q_ty a = 0 ∧ 0 ≤ i ∧ i < q_ln a) ∧ qx sc D 57 12 ls (vi (σ a i) :: st) u bb σ Q := r_iald (by decide +kernel)
theorem k57_12 : qx sc D 57 12 ls st u bb σ Q ↔ qx sc D 57 14 ls (vi 97 :: st) u bb σ Q := r_bipush (by decide +kernel)
theorem k57_14 : qx sc D 57 14 ls (vi b' :: vi a' :: st) u bb σ Q ↔ q_R (a' - b') ∧ qx sc D 57 15 ls (vi (a' - b') :: st) u bb σ Q := r_isub (by decide +kernel)
theorem k57_15 : qx sc D 57 15 [l0, l1] (vi x :: st) u bb σ Q ↔ qx sc D 57 16 [l0, vi x] st u bb σ Q := r_istore_n (k := 1) (by decide +kernel) (Nat.le_of_ble_eq_true rfl)
theorem k57_16 : qx sc D 57 16 [l0, vi x] st u bb σ Q ↔ qx sc D 57 17 [l0, vi x] (vi x :: st) u bb σ Q := r_iload_n (k := 1) (by decide +kernel) rfl
theorem k57_17 : qx sc D 57 17 ls (vi x :: st) u bb σ Q ↔ (x < 0 → qx sc D 57 26 ls st u bb σ Q) ∧ (¬ (x < 0) → qx sc D 57 20 ls st u bb σ Q) := r_if_lt (off := 9) (t := 26) (by decide +kernel)
theorem k57_20 : qx sc D 57 20 [l0, vi x] st u bb σ Q ↔ qx sc D 57 21 [l0, vi x] (vi x :: st) u bb σ Q := r_iload_n (k := 1) (by decide +kernel) rfl
theorem k57_21 : qx sc D 57 21 ls st u bb σ Q ↔ qx sc D 57 23 ls (vi 8 :: st) u bb σ Q := r_bipush (by decide +kernel)
theorem k57_23 : qx sc D 57 23 ls (vi b' :: vi a' :: st) u bb σ Q ↔ (a' < b' → qx sc D 57 28 ls st u bb σ Q) ∧ (¬ (a' < b') → qx sc D 57 26 ls st u bb σ Q) := r_ic_lt (off := 5) (t := 28) (by decide +kernel)
theorem k57_26 : qx sc D 57 26 ls st u bb σ Q ↔ qx sc D 57 27 ls (vi (-1) :: st) u bb σ Q := r_iconst (by decide +kernel)
theorem k57_27 : qx sc D 57 27 ls [vi x] (0, 0) bb σ Q ↔ Q (.inl (some (vi x))) bb σ := r_ret (by decide +kernel)
theorem k57_28 : qx sc D 57 28 [vr a, l1] st u bb σ Q ↔ qx sc D 57 29 [vr a, l1] (vr a :: st) u bb σ Q := r_aload_n (k := 0) (by decide +kernel) rfl
theorem k57_29 : qx sc D 57 29 ls (vr a :: st) u bb σ Q ↔ qx sc D 57 30 ls (vr a :: vr a :: st) u bb σ Q := r_dupA (by decide +kernel)
theorem k57_30 : qx sc D 57 30 ls (vr 4 :: st) u bb σ Q ↔ qx sc D 57 33 ls (vi (σ 4 1) :: st) u bb σ Q := r_getI (idx := 33) (c := 9) (k := 1) (by decide +kernel)
theorem k57_33 : qx sc D 57 33 ls st u bb σ Q ↔ qx sc D 57 34 ls (vi 1 :: st) u bb σ Q := r_iconst (by decide +kernel)
theorem k57_34 : qx sc D 57 34 ls (vi b' :: vi a' :: st) u bb σ Q ↔ q_R (a' + b') ∧ qx sc D 57 35 ls (vi (a' + b') :: st) u bb σ Q := r_iadd (by decide +kernel)
theorem k57_35 : qx sc D 57 35 ls (vi x :: vr 4 :: st) u bb σ Q ↔ qx sc D 57 38 ls st u bb (q_up σ 4 1 x) Q := r_putI (idx := 33) (c := 9) (k := 1) (by decide +kernel)
theorem k57_38 : qx sc D 57 38 [l0, vi x] st u bb σ Q ↔ qx sc D 57 39 [l0, vi x] (vi x :: st) u bb σ Q := r_iload_n (k := 1) (by decide +kernel) rfl
theorem k57_39 : qx sc D 57 39 ls [vi x] (0, 0) bb σ Q ↔ Q (.inl (some (vi x))) bb σ := r_ret (by decide +kernel)
-- 58: RowProver$Reader.variableValue(I)Z
theorem k58_0 : qx sc D 58 0 [vr a, l1, l2, l3] st u bb σ Q ↔ qx sc D 58 1 [vr a, l1, l2, l3] (vr a :: st) u bb σ Q := r_aload_n (k := 0) (by decide +kernel) rfl
theorem k58_1 : qx sc D 58 1 ls (vr 4 :: st) u bb σ Q ↔ 0 ≤ σ 4 3 ∧ qx sc D 58 4 ls (vr (σ 4 3).toNat :: st) u bb σ Q := r_getM (idx := 24) (c := 9) (k := 3) (by decide +kernel)
theorem k58_4 (hc : q_C c) : qx sc D 58 4 ls (vr c :: st) u bb σ Q ↔ qx sc D 58 7 ls (vr (c + 4) :: st) u bb σ Q := r_getRc (idx := 158) (k := 6) (by decide +kernel) hc
theorem k58_7 : qx sc D 58 7 [l0, vi x, l2, l3] st u bb σ Q ↔ qx sc D 58 8 [l0, vi x, l2, l3] (vi x :: st) u bb σ Q := r_iload_n (k := 1) (by decide +kernel) rfl
theorem k58_8 : qx sc D 58 8 ls st u bb σ Q ↔ qx sc D 58 9 ls (vi 3 :: st) u bb σ Q := r_iconst (by decide +kernel)
theorem k58_9 : qx sc D 58 9 ls (vi x :: vi i :: vr a :: st) u bb σ Q ↔ (q_ty a = 0 ∧ 0 ≤ i ∧ i < q_ln a) ∧ qx sc D 58 10 ls st u bb (q_up σ a i x) Q := r_iast (by decide +kernel)
theorem k58_10 : qx sc D 58 10 [vr a, l1, l2, l3] st u bb σ Q ↔ qx sc D 58 11 [vr a, l1, l2, l3] (vr a :: st) u bb σ Q := r_aload_n (k := 0) (by decide +kernel) rfl
theorem k58_11 : qx sc D 58 11 ls (vr 4 :: st) u bb σ Q ↔ 0 ≤ σ 4 3 ∧ qx sc D 58 14 ls (vr (σ 4 3).toNat :: st) u bb σ Q := r_getM (idx := 24) (c := 9) (k := 3) (by decide +kernel)
theorem k58_14 (hc : q_C c) : qx sc D 58 14 ls (vr c :: st) u bb σ Q ↔ qx sc D 58 17 ls (vr (c + 5) :: st) u bb σ Q := r_getRc (idx := 110) (k := 7) (by decide +kernel) hc
theorem k58_17 : qx sc D 58 17 [l0, vi x, l2, l3] st u bb σ Q ↔ qx sc D 58 18 [l0, vi x, l2, l3] (vi x :: st) u bb σ Q := r_iload_n (k := 1) (by decide +kernel) rfl
theorem k58_18 : qx sc D 58 18 [vr a, l1, l2, l3] st u bb σ Q ↔ qx sc D 58 19 [vr a, l1, l2, l3] (vr a :: st) u bb σ Q := r_aload_n (k := 0) (by decide +kernel) rfl
theorem k58_19 : qx sc (D + 1) 58 19 ls [vr 4, vi x20, vr a21] (0, 0) bb σ Q ↔ qx sc D 57 0 [vr 4, vn] [] (0, 0) bb σ (q_kn sc (D + 1) 58 22 ls [vi x20, vr a21] (0, 0) Q) := r_callv (idx := 88) (n := 0) (m := 2) (by decide +kernel) rfl (Nat.le_of_ble_eq_true rfl) ⟨Nat.le_of_ble_eq_true rfl, Nat.le_of_ble_eq_true rfl, rfl⟩ rfl
theorem k58_22 : qx sc D 58 22 ls (vi x :: vi i :: vr a :: st) u bb σ Q ↔ (q_ty a = 0 ∧ 0 ≤ i ∧ i < q_ln a) ∧ qx sc D 58 23 ls st u bb (q_up σ a i x) Q := r_iast (by decide +kernel)
theorem k58_23 : qx sc D 58 23 [vr a, l1, l2, l3] st u bb σ Q ↔ qx sc D 58 24 [vr a, l1, l2, l3] (vr a :: st) u bb σ Q := r_aload_n (k := 0) (by decide +kernel) rfl
theorem k58_24 : qx sc D 58 24 ls (vr 4 :: st) u bb σ Q ↔ 0 ≤ σ 4 3 ∧ qx sc D 58 27 ls (vr (σ 4 3).toNat :: st) u bb σ Q := r_getM (idx := 24) (c := 9) (k := 3) (by decide +kernel)
theorem k58_27 (hc : q_C c) : qx sc D 58 27 ls (vr c :: st) u bb σ Q ↔ qx sc D 58 30 ls (vr (c + 5) :: st) u bb σ Q := r_getRc (idx := 110) (k := 7) (by decide +kernel) hc
theorem k58_30 : qx sc D 58 30 [l0, vi x, l2, l3] st u bb σ Q ↔ qx sc D 58 31 [l0, vi x, l2, l3] (vi x :: st) u bb σ Q := r_iload_n (k := 1) (by decide +kernel) rfl
theorem k58_31 : qx sc D 58 31 ls (vi i :: vr a :: st) u bb σ Q ↔ (q_ty a = 0 ∧ 0 ≤ i ∧ i < q_ln a) ∧ qx sc D 58 32 ls (vi (σ a i) :: st) u bb σ Q := r_iald (by decide +kernel)
theorem k58_32 : qx sc D 58 32 ls st u bb σ Q ↔ qx sc D 58 33 ls (vi (-1) :: st) u bb σ Q := r_iconst (by decide +kernel)
theorem k58_33 : qx sc D 58 33 ls (vi b' :: vi a' :: st) u bb σ Q ↔ (a' = b' → qx sc D 58 36 ls st u bb σ Q) ∧ (¬ (a' = b') → qx sc D 58 38 ls st u bb σ Q) := r_ic_ne (off := 5) (t := 38) (by decide +kernel)
theorem k58_36 : qx sc D 58 36 ls st u bb σ Q ↔ qx sc D 58 37 ls (vi 0 :: st) u bb σ Q := r_iconst (by decide +kernel)
theorem k58_37 : qx sc D 58 37 ls [vi x] (0, 0) bb σ Q ↔ (x = 0 ∨ x = 1) ∧ Q (.inl (some (vi x))) bb σ := r_retB (by decide +kernel)
theorem k58_38 : qx sc D 58 38 [vr a, l1, l2, l3] st u bb σ Q ↔ qx sc D 58 39 [vr a, l1, l2, l3] (vr a :: st) u bb σ Q := r_aload_n (k := 0) (by decide +kernel) rfl
theorem k58_39 : qx sc D 58 39 ls (vr 4 :: st) u bb σ Q ↔ qx sc D 58 42 ls (vr 5 :: st) u bb σ Q := r_getR (idx := 14) (c := 9) (k := 0) (by decide +kernel)
theorem k58_42 : qx sc D 58 42 ls (vr 5 :: st) u bb σ Q ↔ qx sc D 58 45 ls (vr 6 :: st) u bb σ Q := r_getR (idx := 48) (c := 12) (k := 3) (by decide +kernel)
theorem k58_45 : qx sc D 58 45 [vr a, l1, l2, l3] st u bb σ Q ↔ qx sc D 58 46 [vr a, l1, l2, l3] (vr a :: st) u bb σ Q := r_aload_n (k := 0) (by decide +kernel) rfl
theorem k58_46 : qx sc D 58 46 ls (vr 4 :: st) u bb σ Q ↔ qx sc D 58 49 ls (vi (σ 4 1) :: st) u bb σ Q := r_getI (idx := 33) (c := 9) (k := 1) (by decide +kernel)
theorem k58_49 : qx sc D 58 49 ls (vi i :: vr a :: st) u bb σ Q ↔ (q_ty a = 0 ∧ 0 ≤ i ∧ i < q_ln a) ∧ qx sc D 58 50 ls (vi (σ a i) :: st) u bb σ Q := r_iald (by decide +kernel)
theorem k58_50 : qx sc D 58 50 ls st u bb σ Q ↔ qx sc D 58 52 ls (vi 43 :: st) u bb σ Q := r_bipush (by decide +kernel)
theorem k58_52 : qx sc D 58 52 ls (vi b' :: vi a' :: st) u bb σ Q ↔ (a' = b' → qx sc D 58 55 ls st u bb σ Q) ∧ (¬ (a' = b') → qx sc D 58 59 ls st u bb σ Q) := r_ic_ne (off := 7) (t := 59) (by decide +kernel)
theorem k58_55 : qx sc D 58 55 ls st u bb σ Q ↔ qx sc D 58 56 ls (vi 1 :: st) u bb σ Q := r_iconst (by decide +kernel)
theorem k58_56 : qx sc D 58 56 ls st u bb σ Q ↔ qx sc D 58 60 ls st u bb σ Q := r_goto (off := 4) (by decide +kernel)
theorem k58_59 : qx sc D 58 59 ls st u bb σ Q ↔ qx sc D 58 60 ls (vi (-1) :: st) u bb σ Q := r_iconst (by decide +kernel)
theorem k58_60 : qx sc D 58 60 [l0, l1, l2, l3] (vi x :: st) u bb σ Q ↔ qx sc D 58 61 [l0, l1, vi x, l3] st u bb σ Q := r_istore_n (k := 2) (by decide +kernel) (Nat.le_of_ble_eq_true rfl)
theorem k58_61 : qx sc D 58 61 [vr a, l1, l2, l3] st u bb σ Q ↔ qx sc D 58 62 [vr a, l1, l2, l3] (vr a :: st) u bb σ Q := r_aload_n (k := 0) (by decide +kernel) rfl
theorem k58_62 : qx sc D 58 62 ls st u bb σ Q ↔ qx sc D 58 64 ls (vi 43 :: st) u bb σ Q := r_bipush (by decide +kernel)
theorem k58_64 : qx sc (D + 1) 58 64 ls [vi x0, vr 4] (0, 0) bb σ Q ↔ qx sc D 51 0 [vr 4, vi x0] [] (0, 0) bb σ (q_kn sc (D + 1) 58 67 ls [] (0, 0) Q) := r_callv (idx := 64) (n := 1) (m := 2) (by decide +kernel) rfl (Nat.le_of_ble_eq_true rfl) ⟨Nat.le_of_ble_eq_true rfl, Nat.le_of_ble_eq_true rfl, rfl⟩ rfl
theorem k58_67 : qx sc D 58 67 ls (vi x :: st) u bb σ Q ↔ (x = 0 → qx sc D 58 70 ls st u bb σ Q) ∧ (¬ (x = 0) → qx sc D 58 81 ls st u bb σ Q) := r_if_ne (off := 14) (t := 81) (by decide +kernel)
theorem k58_70 : qx sc D 58 70 [vr a, l1, l2, l3] st u bb σ Q ↔ qx sc D 58 71 [vr a, l1, l2, l3] (vr a :: st) u bb σ Q := r_aload_n (k := 0) (by decide +kernel) rfl
theorem k58_71 : qx sc D 58 71 ls st u bb σ Q ↔ qx sc D 58 73 ls (vi 45 :: st) u bb σ Q := r_bipush (by decide +kernel)
theorem k58_73 : qx sc (D + 1) 58 73 ls [vi x0, vr 4] (0, 0) bb σ Q ↔ qx sc D 51 0 [vr 4, vi x0] [] (0, 0) bb σ (q_kn sc (D + 1) 58 76 ls [] (0, 0) Q) := r_callv (idx := 64) (n := 1) (m := 2) (by decide +kernel) rfl (Nat.le_of_ble_eq_true rfl) ⟨Nat.le_of_ble_eq_true rfl, Nat.le_of_ble_eq_true rfl, rfl⟩ rfl
theorem k58_76 : qx sc D 58 76 ls (vi x :: st) u bb σ Q ↔ (x = 0 → qx sc D 58 79 ls st u bb σ Q) ∧ (¬ (x = 0) → qx sc D 58 81 ls st u bb σ Q) := r_if_ne (off := 5) (t := 81) (by decide +kernel)
theorem k58_79 : qx sc D 58 79 ls st u bb σ Q ↔ qx sc D 58 80 ls (vi 1 :: st) u bb σ Q := r_iconst (by decide +kernel)
theorem k58_80 : qx sc D 58 80 ls [vi x] (0, 0) bb σ Q ↔ (x = 0 ∨ x = 1) ∧ Q (.inl (some (vi x))) bb σ := r_retB (by decide +kernel)
theorem k58_81 : qx sc D 58 81 [vr a, l1, l2, l3] st u bb σ Q ↔ qx sc D 58 82 [vr a, l1, l2, l3] (vr a :: st) u bb σ Q := r_aload_n (k := 0) (by decide +kernel) rfl
theorem k58_82 : qx sc D 58 82 ls st u bb σ Q ↔ qx sc D 58 84 ls (vi 99 :: st) u bb σ Q := r_bipush (by decide +kernel)
theorem k58_84 : qx sc (D + 1) 58 84 ls [vi x0, vr 4] (0, 0) bb σ Q ↔ qx sc D 43 0 [vr 4, vi x0] [] (0, 0) bb σ (q_kn sc (D + 1) 58 87 ls [] (0, 0) Q) := r_callv (idx := 67) (n := 1) (m := 2) (by decide +kernel) rfl (Nat.le_of_ble_eq_true rfl) ⟨Nat.le_of_ble_eq_true rfl, Nat.le_of_ble_eq_true rfl, rfl⟩ rfl
theorem k58_87 : qx sc D 58 87 [l0, l1, l2, l3] (vi x :: st) u bb σ Q ↔ qx sc D 58 88 [l0, l1, l2, vi x] st u bb σ Q := r_istore_n (k := 3) (by decide +kernel) (Nat.le_of_ble_eq_true rfl)
theorem k58_88 : qx sc D 58 88 [vr a, l1, l2, l3] st u bb σ Q ↔ qx sc D 58 89 [vr a, l1, l2, l3] (vr a :: st) u bb σ Q := r_aload_n (k := 0) (by decide +kernel) rfl
theorem k58_89 : qx sc D 58 89 ls (vr 4 :: st) u bb σ Q ↔ 0 ≤ σ 4 3 ∧ qx sc D 58 92 ls (vr (σ 4 3).toNat :: st) u bb σ Q := r_getM (idx := 24) (c := 9) (k := 3) (by decide +kernel)
theorem k58_92 (hc : q_C c) : qx sc D 58 92 ls (vr c :: st) u bb σ Q ↔ qx sc D 58 95 ls (vr (c + 6) :: st) u bb σ Q := r_getRc (idx := 164) (k := 8) (by decide +kernel) hc
theorem k58_95 : qx sc D 58 95 [l0, vi x, l2, l3] st u bb σ Q ↔ qx sc D 58 96 [l0, vi x, l2, l3] (vi x :: st) u bb σ Q := r_iload_n (k := 1) (by decide +kernel) rfl
theorem k58_96 : qx sc D 58 96 [l0, l1, vi x, l3] st u bb σ Q ↔ qx sc D 58 97 [l0, l1, vi x, l3] (vi x :: st) u bb σ Q := r_iload_n (k := 2) (by decide +kernel) rfl
theorem k58_97 : qx sc D 58 97 [l0, l1, l2, vi x] st u bb σ Q ↔ qx sc D 58 98 [l0, l1, l2, vi x] (vi x :: st) u bb σ Q := r_iload_n (k := 3) (by decide +kernel) rfl
theorem k58_98 : qx sc D 58 98 ls (vi b' :: vi a' :: st) u bb σ Q ↔ q_R (a' * b') ∧ qx sc D 58 99 ls (vi (a' * b') :: st) u bb σ Q := r_imul (by decide +kernel)
theorem k58_99 : qx sc D 58 99 ls (vi x :: vi i :: vr a :: st) u bb σ Q ↔ (q_ty a = 0 ∧ 0 ≤ i ∧ i < q_ln a) ∧ qx sc D 58 100 ls st u bb (q_up σ a i x) Q := r_iast (by decide +kernel)
theorem k58_100 : qx sc D 58 100 [l0, l1, l2, vi x] st u bb σ Q ↔ qx sc D 58 101 [l0, l1, l2, vi x] (vi x :: st) u bb σ Q := r_iload_n (k := 3) (by decide +kernel) rfl
theorem k58_101 : qx sc D 58 101 ls st u bb σ Q ↔ qx sc D 58 102 ls (vi (-1) :: st) u bb σ Q := r_iconst (by decide +kernel)
theorem k58_102 : qx sc D 58 102 ls (vi b' :: vi a' :: st) u bb σ Q ↔ (a' = b' → qx sc D 58 109 ls st u bb σ Q) ∧ (¬ (a' = b') → qx sc D 58 105 ls st u bb σ Q) := r_ic_eq (off := 7) (t := 109) (by decide +kernel)
theorem k58_105 : qx sc D 58 105 ls st u bb σ Q ↔ qx sc D 58 106 ls (vi 1 :: st) u bb σ Q := r_iconst (by decide +kernel)
theorem k58_106 : qx sc D 58 106 ls st u bb σ Q ↔ qx sc D 58 110 ls st u bb σ Q := r_goto (off := 4) (by decide +kernel)
theorem k58_109 : qx sc D 58 109 ls st u bb σ Q ↔ qx sc D 58 110 ls (vi 0 :: st) u bb σ Q := r_iconst (by decide +kernel)
theorem k58_110 : qx sc D 58 110 ls [vi x] (0, 0) bb σ Q ↔ (x = 0 ∨ x = 1) ∧ Q (.inl (some (vi x))) bb σ := r_retB (by decide +kernel)
end K_301_kB
