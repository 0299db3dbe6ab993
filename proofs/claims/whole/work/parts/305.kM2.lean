section K_305_kM2
variable {sc : Nat × (Nat → Int32)} {D : Nat} {ls st : List V2} {u : PU} {bb : Bool} {σ : St} {Q : QP} {x i a' b' x0 x1 x2 x3 x4 x5 x20 x21 x22 x23 x24 : Int} {a b c a0 a1 a2 a3 a4 a20 a21 a22 a23 : Nat} {l0 l1 l2 l3 l4 l5 l6 l7 l8 l9 l10 l11 l12 : V2}
-- 183: RowProverModel.nextOf(II)I
theorem k183_0 : qx sc D 183 0 [vr a, l1, l2, l3] st u bb σ Q ↔ qx sc D 183 1 [vr a, l1, l2, l3] (vr a :: st) u bb σ Q := r_aload_n (k := 0) (by decide +kernel) rfl
theorem k183_1 : qx sc D 183 1 [l0, vi x, l2, l3] st u bb σ Q ↔ qx sc D 183 2 [l0, vi x, l2, l3] (vi x :: st) u bb σ Q := r_iload_n (k := 1) (by decide +kernel) rfl
theorem k183_2 : qx sc D 183 2 [l0, l1, vi x, l3] st u bb σ Q ↔ qx sc D 183 3 [l0, l1, vi x, l3] (vi x :: st) u bb σ Q := r_iload_n (k := 2) (by decide +kernel) rfl
theorem k183_3 : qx sc (D + 1) 183 3 ls [vi x1, vi x0, vr 136] (0, 0) bb σ Q ↔ qx sc D 133 0 [vr 136, vi x0, vi x1] [] (0, 0) bb σ (q_kn sc (D + 1) 183 6 ls [] (0, 0) Q) := r_callv (idx := 369) (n := 2) (m := 3) (by decide +kernel) rfl (Nat.le_of_ble_eq_true rfl) ⟨Nat.le_of_ble_eq_true rfl, Nat.le_of_ble_eq_true rfl, rfl⟩ rfl
theorem k183_6 : qx sc D 183 6 [l0, l1, l2, l3] (vi x :: st) u bb σ Q ↔ qx sc D 183 7 [l0, l1, l2, vi x] st u bb σ Q := r_istore_n (k := 3) (by decide +kernel) (Nat.le_of_ble_eq_true rfl)
theorem k183_7 : qx sc D 183 7 [vr a, l1, l2, l3] st u bb σ Q ↔ qx sc D 183 8 [vr a, l1, l2, l3] (vr a :: st) u bb σ Q := r_aload_n (k := 0) (by decide +kernel) rfl
theorem k183_8 : qx sc D 183 8 ls (vr 136 :: st) u bb σ Q ↔ qx sc D 183 11 ls (vr 148 :: st) u bb σ Q := r_getR (idx := 36) (c := 15) (k := 25) (by decide +kernel)
theorem k183_11 : qx sc D 183 11 [l0, l1, vi x, l3] st u bb σ Q ↔ qx sc D 183 12 [l0, l1, vi x, l3] (vi x :: st) u bb σ Q := r_iload_n (k := 2) (by decide +kernel) rfl
theorem k183_12 : qx sc D 183 12 ls (vi i :: vr a :: st) u bb σ Q ↔ (q_ty a = 0 ∧ 0 ≤ i ∧ i < q_ln a) ∧ qx sc D 183 13 ls (vi (σ a i) :: st) u bb σ Q := r_iald (by decide +kernel)
theorem k183_13 : qx sc D 183 13 ls (vi x :: st) u bb σ Q ↔ qx sc D 183 (if x < 0 ∨ 6 < x then 169 else [56, 60, 130, 169, 169, 99, 99].getD (x - 0).toNat 0) ls st u bb σ Q := r_tsw (d := 156) (lo := 0) (hi := 6) (offs := #[43, 47, 117, 156, 156, 86, 86]) (dt := 169) (tg := [56, 60, 130, 169, 169, 99, 99]) (by decide +kernel)
theorem k183_56 : qx sc D 183 56 ls st u bb σ Q ↔ qx sc D 183 59 ls (vi 1001 :: st) u bb σ Q := r_sipush (by decide +kernel)
theorem k183_59 : qx sc D 183 59 ls [vi x] (0, 0) bb σ Q ↔ Q (.inl (some (vi x))) bb σ := r_ret (by decide +kernel)
theorem k183_60 : qx sc D 183 60 [vr a, l1, l2, l3] st u bb σ Q ↔ qx sc D 183 61 [vr a, l1, l2, l3] (vr a :: st) u bb σ Q := r_aload_n (k := 0) (by decide +kernel) rfl
theorem k183_61 : qx sc D 183 61 ls (vr 136 :: st) u bb σ Q ↔ qx sc D 183 64 ls (vr 152 :: st) u bb σ Q := r_getR (idx := 48) (c := 15) (k := 29) (by decide +kernel)
theorem k183_64 : qx sc D 183 64 [l0, l1, vi x, l3] st u bb σ Q ↔ qx sc D 183 65 [l0, l1, vi x, l3] (vi x :: st) u bb σ Q := r_iload_n (k := 2) (by decide +kernel) rfl
theorem k183_65 : qx sc D 183 65 ls (vi i :: vr a :: st) u bb σ Q ↔ (q_ty a = 0 ∧ 0 ≤ i ∧ i < q_ln a) ∧ qx sc D 183 66 ls (vi (σ a i) :: st) u bb σ Q := r_iald (by decide +kernel)
theorem k183_66 : qx sc D 183 66 ls st u bb σ Q ↔ qx sc D 183 67 ls (vi 1 :: st) u bb σ Q := r_iconst (by decide +kernel)
theorem k183_67 : qx sc D 183 67 ls (vi b' :: vi a' :: st) u bb σ Q ↔ (a' = b' → qx sc D 183 70 ls st u bb σ Q) ∧ (¬ (a' = b') → qx sc D 183 79 ls st u bb σ Q) := r_ic_ne (off := 12) (t := 79) (by decide +kernel)
theorem k183_70 : qx sc D 183 70 [vr a, l1, l2, l3] st u bb σ Q ↔ qx sc D 183 71 [vr a, l1, l2, l3] (vr a :: st) u bb σ Q := r_aload_n (k := 0) (by decide +kernel) rfl
theorem k183_71 : qx sc D 183 71 ls (vr 136 :: st) u bb σ Q ↔ qx sc D 183 74 ls (vr 150 :: st) u bb σ Q := r_getR (idx := 42) (c := 15) (k := 27) (by decide +kernel)
theorem k183_74 : qx sc D 183 74 [l0, l1, vi x, l3] st u bb σ Q ↔ qx sc D 183 75 [l0, l1, vi x, l3] (vi x :: st) u bb σ Q := r_iload_n (k := 2) (by decide +kernel) rfl
theorem k183_75 : qx sc D 183 75 ls (vi i :: vr a :: st) u bb σ Q ↔ (q_ty a = 0 ∧ 0 ≤ i ∧ i < q_ln a) ∧ qx sc D 183 76 ls (vi (σ a i) :: st) u bb σ Q := r_iald (by decide +kernel)
theorem k183_76 : qx sc D 183 76 ls st u bb σ Q ↔ qx sc D 183 98 ls st u bb σ Q := r_goto (off := 22) (by decide +kernel)
theorem k183_79 : qx sc D 183 79 [vr a, l1, l2, l3] st u bb σ Q ↔ qx sc D 183 80 [vr a, l1, l2, l3] (vr a :: st) u bb σ Q := r_aload_n (k := 0) (by decide +kernel) rfl
theorem k183_80 : qx sc D 183 80 ls (vr 136 :: st) u bb σ Q ↔ qx sc D 183 83 ls (vr 152 :: st) u bb σ Q := r_getR (idx := 48) (c := 15) (k := 29) (by decide +kernel)
theorem k183_83 : qx sc D 183 83 [l0, l1, vi x, l3] st u bb σ Q ↔ qx sc D 183 84 [l0, l1, vi x, l3] (vi x :: st) u bb σ Q := r_iload_n (k := 2) (by decide +kernel) rfl
theorem k183_84 : qx sc D 183 84 ls (vi i :: vr a :: st) u bb σ Q ↔ (q_ty a = 0 ∧ 0 ≤ i ∧ i < q_ln a) ∧ qx sc D 183 85 ls (vi (σ a i) :: st) u bb σ Q := r_iald (by decide +kernel)
theorem k183_85 : qx sc D 183 85 ls st u bb σ Q ↔ qx sc D 183 86 ls (vi 2 :: st) u bb σ Q := r_iconst (by decide +kernel)
theorem k183_86 : qx sc D 183 86 ls (vi b' :: vi a' :: st) u bb σ Q ↔ (a' = b' → qx sc D 183 89 ls st u bb σ Q) ∧ (¬ (a' = b') → qx sc D 183 95 ls st u bb σ Q) := r_ic_ne (off := 9) (t := 95) (by decide +kernel)
theorem k183_89 : qx sc D 183 89 ls st u bb σ Q ↔ qx sc D 183 92 ls (vi 1000 :: st) u bb σ Q := r_sipush (by decide +kernel)
theorem k183_92 : qx sc D 183 92 ls st u bb σ Q ↔ qx sc D 183 98 ls st u bb σ Q := r_goto (off := 6) (by decide +kernel)
theorem k183_95 : qx sc D 183 95 ls st u bb σ Q ↔ qx sc D 183 98 ls (vi 1001 :: st) u bb σ Q := r_sipush (by decide +kernel)
theorem k183_98 : qx sc D 183 98 ls [vi x] (0, 0) bb σ Q ↔ Q (.inl (some (vi x))) bb σ := r_ret (by decide +kernel)
theorem k183_99 : qx sc D 183 99 [vr a, l1, l2, l3] st u bb σ Q ↔ qx sc D 183 100 [vr a, l1, l2, l3] (vr a :: st) u bb σ Q := r_aload_n (k := 0) (by decide +kernel) rfl
theorem k183_100 : qx sc D 183 100 [l0, vi x, l2, l3] st u bb σ Q ↔ qx sc D 183 101 [l0, vi x, l2, l3] (vi x :: st) u bb σ Q := r_iload_n (k := 1) (by decide +kernel) rfl
theorem k183_101 : qx sc D 183 101 [vr a, l1, l2, l3] st u bb σ Q ↔ qx sc D 183 102 [vr a, l1, l2, l3] (vr a :: st) u bb σ Q := r_aload_n (k := 0) (by decide +kernel) rfl
theorem k183_102 : qx sc D 183 102 ls (vr 136 :: st) u bb σ Q ↔ qx sc D 183 105 ls (vr 150 :: st) u bb σ Q := r_getR (idx := 42) (c := 15) (k := 27) (by decide +kernel)
theorem k183_105 : qx sc D 183 105 [l0, l1, vi x, l3] st u bb σ Q ↔ qx sc D 183 106 [l0, l1, vi x, l3] (vi x :: st) u bb σ Q := r_iload_n (k := 2) (by decide +kernel) rfl
theorem k183_106 : qx sc D 183 106 ls (vi i :: vr a :: st) u bb σ Q ↔ (q_ty a = 0 ∧ 0 ≤ i ∧ i < q_ln a) ∧ qx sc D 183 107 ls (vi (σ a i) :: st) u bb σ Q := r_iald (by decide +kernel)
theorem k183_107 : qx sc (D + 1) 183 107 ls [vi x1, vi x0, vr 136] (0, 0) bb σ Q ↔ qx sc D 133 0 [vr 136, vi x0, vi x1] [] (0, 0) bb σ (q_kn sc (D + 1) 183 110 ls [] (0, 0) Q) := r_callv (idx := 369) (n := 2) (m := 3) (by decide +kernel) rfl (Nat.le_of_ble_eq_true rfl) ⟨Nat.le_of_ble_eq_true rfl, Nat.le_of_ble_eq_true rfl, rfl⟩ rfl
theorem k183_110 : qx sc D 183 110 [l0, l1, l2, vi x] st u bb σ Q ↔ qx sc D 183 111 [l0, l1, l2, vi x] (vi x :: st) u bb σ Q := r_iload_n (k := 3) (by decide +kernel) rfl
theorem k183_111 : qx sc D 183 111 ls (vi b' :: vi a' :: st) u bb σ Q ↔ (a' = b' → qx sc D 183 114 ls st u bb σ Q) ∧ (¬ (a' = b') → qx sc D 183 123 ls st u bb σ Q) := r_ic_ne (off := 12) (t := 123) (by decide +kernel)
theorem k183_114 : qx sc D 183 114 [vr a, l1, l2, l3] st u bb σ Q ↔ qx sc D 183 115 [vr a, l1, l2, l3] (vr a :: st) u bb σ Q := r_aload_n (k := 0) (by decide +kernel) rfl
theorem k183_115 : qx sc D 183 115 ls (vr 136 :: st) u bb σ Q ↔ qx sc D 183 118 ls (vr 150 :: st) u bb σ Q := r_getR (idx := 42) (c := 15) (k := 27) (by decide +kernel)
theorem k183_118 : qx sc D 183 118 [l0, l1, vi x, l3] st u bb σ Q ↔ qx sc D 183 119 [l0, l1, vi x, l3] (vi x :: st) u bb σ Q := r_iload_n (k := 2) (by decide +kernel) rfl
theorem k183_119 : qx sc D 183 119 ls (vi i :: vr a :: st) u bb σ Q ↔ (q_ty a = 0 ∧ 0 ≤ i ∧ i < q_ln a) ∧ qx sc D 183 120 ls (vi (σ a i) :: st) u bb σ Q := r_iald (by decide +kernel)
theorem k183_120 : qx sc D 183 120 ls st u bb σ Q ↔ qx sc D 183 129 ls st u bb σ Q := r_goto (off := 9) (by decide +kernel)
theorem k183_123 : qx sc D 183 123 [vr a, l1, l2, l3] st u bb σ Q ↔ qx sc D 183 124 [vr a, l1, l2, l3] (vr a :: st) u bb σ Q := r_aload_n (k := 0) (by decide +kernel) rfl
theorem k183_124 : qx sc D 183 124 ls (vr 136 :: st) u bb σ Q ↔ qx sc D 183 127 ls (vr 151 :: st) u bb σ Q := r_getR (idx := 45) (c := 15) (k := 28) (by decide +kernel)
theorem k183_127 : qx sc D 183 127 [l0, l1, vi x, l3] st u bb σ Q ↔ qx sc D 183 128 [l0, l1, vi x, l3] (vi x :: st) u bb σ Q := r_iload_n (k := 2) (by decide +kernel) rfl
theorem k183_128 : qx sc D 183 128 ls (vi i :: vr a :: st) u bb σ Q ↔ (q_ty a = 0 ∧ 0 ≤ i ∧ i < q_ln a) ∧ qx sc D 183 129 ls (vi (σ a i) :: st) u bb σ Q := r_iald (by decide +kernel)
theorem k183_129 : qx sc D 183 129 ls [vi x] (0, 0) bb σ Q ↔ Q (.inl (some (vi x))) bb σ := r_ret (by decide +kernel)
theorem k183_130 : qx sc D 183 130 [vr a, l1, l2, l3] st u bb σ Q ↔ qx sc D 183 131 [vr a, l1, l2, l3] (vr a :: st) u bb σ Q := r_aload_n (k := 0) (by decide +kernel) rfl
theorem k183_131 : qx sc D 183 131 [l0, vi x, l2, l3] st u bb σ Q ↔ qx sc D 183 132 [l0, vi x, l2, l3] (vi x :: st) u bb σ Q := r_iload_n (k := 1) (by decide +kernel) rfl
theorem k183_132 : qx sc D 183 132 [vr a, l1, l2, l3] st u bb σ Q ↔ qx sc D 183 133 [vr a, l1, l2, l3] (vr a :: st) u bb σ Q := r_aload_n (k := 0) (by decide +kernel) rfl
theorem k183_133 : qx sc D 183 133 ls (vr 136 :: st) u bb σ Q ↔ qx sc D 183 136 ls (vr 150 :: st) u bb σ Q := r_getR (idx := 42) (c := 15) (k := 27) (by decide +kernel)
theorem k183_136 : qx sc D 183 136 [l0, l1, vi x, l3] st u bb σ Q ↔ qx sc D 183 137 [l0, l1, vi x, l3] (vi x :: st) u bb σ Q := r_iload_n (k := 2) (by decide +kernel) rfl
theorem k183_137 : qx sc D 183 137 ls (vi i :: vr a :: st) u bb σ Q ↔ (q_ty a = 0 ∧ 0 ≤ i ∧ i < q_ln a) ∧ qx sc D 183 138 ls (vi (σ a i) :: st) u bb σ Q := r_iald (by decide +kernel)
theorem k183_138 : qx sc (D + 1) 183 138 ls [vi x1, vi x0, vr 136] (0, 0) bb σ Q ↔ qx sc D 133 0 [vr 136, vi x0, vi x1] [] (0, 0) bb σ (q_kn sc (D + 1) 183 141 ls [] (0, 0) Q) := r_callv (idx := 369) (n := 2) (m := 3) (by decide +kernel) rfl (Nat.le_of_ble_eq_true rfl) ⟨Nat.le_of_ble_eq_true rfl, Nat.le_of_ble_eq_true rfl, rfl⟩ rfl
theorem k183_141 : qx sc D 183 141 [l0, l1, l2, vi x] st u bb σ Q ↔ qx sc D 183 142 [l0, l1, l2, vi x] (vi x :: st) u bb σ Q := r_iload_n (k := 3) (by decide +kernel) rfl
theorem k183_142 : qx sc D 183 142 ls (vi b' :: vi a' :: st) u bb σ Q ↔ (a' = b' → qx sc D 183 145 ls st u bb σ Q) ∧ (¬ (a' = b') → qx sc D 183 154 ls st u bb σ Q) := r_ic_ne (off := 12) (t := 154) (by decide +kernel)
theorem k183_145 : qx sc D 183 145 [vr a, l1, l2, l3] st u bb σ Q ↔ qx sc D 183 146 [vr a, l1, l2, l3] (vr a :: st) u bb σ Q := r_aload_n (k := 0) (by decide +kernel) rfl
theorem k183_146 : qx sc D 183 146 ls (vr 136 :: st) u bb σ Q ↔ qx sc D 183 149 ls (vr 150 :: st) u bb σ Q := r_getR (idx := 42) (c := 15) (k := 27) (by decide +kernel)
theorem k183_149 : qx sc D 183 149 [l0, l1, vi x, l3] st u bb σ Q ↔ qx sc D 183 150 [l0, l1, vi x, l3] (vi x :: st) u bb σ Q := r_iload_n (k := 2) (by decide +kernel) rfl
theorem k183_150 : qx sc D 183 150 ls (vi i :: vr a :: st) u bb σ Q ↔ (q_ty a = 0 ∧ 0 ≤ i ∧ i < q_ln a) ∧ qx sc D 183 151 ls (vi (σ a i) :: st) u bb σ Q := r_iald (by decide +kernel)
theorem k183_151 : qx sc D 183 151 ls st u bb σ Q ↔ qx sc D 183 168 ls st u bb σ Q := r_goto (off := 17) (by decide +kernel)
theorem k183_154 : qx sc D 183 154 [l0, vi x, l2, l3] st u bb σ Q ↔ qx sc D 183 155 [l0, vi x, l2, l3] (vi x :: st) u bb σ Q := r_iload_n (k := 1) (by decide +kernel) rfl
theorem k183_155 : qx sc D 183 155 ls st u bb σ Q ↔ qx sc D 183 156 ls (vi 3 :: st) u bb σ Q := r_iconst (by decide +kernel)
theorem k183_156 : qx sc D 183 156 ls (vi b' :: vi a' :: st) u bb σ Q ↔ (a' = b' → qx sc D 183 159 ls st u bb σ Q) ∧ (¬ (a' = b') → qx sc D 183 165 ls st u bb σ Q) := r_ic_ne (off := 9) (t := 165) (by decide +kernel)
theorem k183_159 : qx sc D 183 159 ls st u bb σ Q ↔ qx sc D 183 162 ls (vi 1001 :: st) u bb σ Q := r_sipush (by decide +kernel)
theorem k183_162 : qx sc D 183 162 ls st u bb σ Q ↔ qx sc D 183 168 ls st u bb σ Q := r_goto (off := 6) (by decide +kernel)
theorem k183_165 : qx sc D 183 165 ls st u bb σ Q ↔ qx sc D 183 168 ls (vi 1000 :: st) u bb σ Q := r_sipush (by decide +kernel)
theorem k183_168 : qx sc D 183 168 ls [vi x] (0, 0) bb σ Q ↔ Q (.inl (some (vi x))) bb σ := r_ret (by decide +kernel)
theorem k183_169 : qx sc D 183 169 [vr a, l1, l2, l3] st u bb σ Q ↔ qx sc D 183 170 [vr a, l1, l2, l3] (vr a :: st) u bb σ Q := r_aload_n (k := 0) (by decide +kernel) rfl
theorem k183_170 : qx sc D 183 170 [l0, vi x, l2, l3] st u bb σ Q ↔ qx sc D 183 171 [l0, vi x, l2, l3] (vi x :: st) u bb σ Q := r_iload_n (k := 1) (by decide +kernel) rfl
theorem k183_171 : qx sc D 183 171 [vr a, l1, l2, l3] st u bb σ Q ↔ qx sc D 183 172 [vr a, l1, l2, l3] (vr a :: st) u bb σ Q := r_aload_n (k := 0) (by decide +kernel) rfl
theorem k183_172 : qx sc D 183 172 ls (vr 136 :: st) u bb σ Q ↔ qx sc D 183 175 ls (vr 150 :: st) u bb σ Q := r_getR (idx := 42) (c := 15) (k := 27) (by decide +kernel)
theorem k183_175 : qx sc D 183 175 [l0, l1, vi x, l3] st u bb σ Q ↔ qx sc D 183 176 [l0, l1, vi x, l3] (vi x :: st) u bb σ Q := r_iload_n (k := 2) (by decide +kernel) rfl
theorem k183_176 : qx sc D 183 176 ls (vi i :: vr a :: st) u bb σ Q ↔ (q_ty a = 0 ∧ 0 ≤ i ∧ i < q_ln a) ∧ qx sc D 183 177 ls (vi (σ a i) :: st) u bb σ Q := r_iald (by decide +kernel)
theorem k183_177 : qx sc (D + 1) 183 177 ls [vi x1, vi x0, vr 136] (0, 0) bb σ Q ↔ qx sc D 133 0 [vr 136, vi x0, vi x1] [] (0, 0) bb σ (q_kn sc (D + 1) 183 180 ls [] (0, 0) Q) := r_callv (idx := 369) (n := 2) (m := 3) (by decide +kernel) rfl (Nat.le_of_ble_eq_true rfl) ⟨Nat.le_of_ble_eq_true rfl, Nat.le_of_ble_eq_true rfl, rfl⟩ rfl
theorem k183_180 : qx sc D 183 180 [l0, l1, l2, vi x] st u bb σ Q ↔ qx sc D 183 181 [l0, l1, l2, vi x] (vi x :: st) u bb σ Q := r_iload_n (k := 3) (by decide +kernel) rfl
theorem k183_181 : qx sc D 183 181 ls (vi b' :: vi a' :: st) u bb σ Q ↔ (a' = b' → qx sc D 183 184 ls st u bb σ Q) ∧ (¬ (a' = b') → qx sc D 183 193 ls st u bb σ Q) := r_ic_ne (off := 12) (t := 193) (by decide +kernel)
theorem k183_184 : qx sc D 183 184 [vr a, l1, l2, l3] st u bb σ Q ↔ qx sc D 183 185 [vr a, l1, l2, l3] (vr a :: st) u bb σ Q := r_aload_n (k := 0) (by decide +kernel) rfl
theorem k183_185 : qx sc D 183 185 ls (vr 136 :: st) u bb σ Q ↔ qx sc D 183 188 ls (vr 150 :: st) u bb σ Q := r_getR (idx := 42) (c := 15) (k := 27) (by decide +kernel)
theorem k183_188 : qx sc D 183 188 [l0, l1, vi x, l3] st u bb σ Q ↔ qx sc D 183 189 [l0, l1, vi x, l3] (vi x :: st) u bb σ Q := r_iload_n (k := 2) (by decide +kernel) rfl
theorem k183_189 : qx sc D 183 189 ls (vi i :: vr a :: st) u bb σ Q ↔ (q_ty a = 0 ∧ 0 ≤ i ∧ i < q_ln a) ∧ qx sc D 183 190 ls (vi (σ a i) :: st) u bb σ Q := r_iald (by decide +kernel)
theorem k183_190 : qx sc D 183 190 ls st u bb σ Q ↔ qx sc D 183 198 ls st u bb σ Q := r_goto (off := 8) (by decide +kernel)
theorem k183_193 : qx sc D 183 193 [vr a, l1, l2, l3] st u bb σ Q ↔ qx sc D 183 194 [vr a, l1, l2, l3] (vr a :: st) u bb σ Q := r_aload_n (k := 0) (by decide +kernel) rfl
theorem k183_194 : qx sc D 183 194 [l0, l1, vi x, l3] st u bb σ Q ↔ qx sc D 183 195 [l0, l1, vi x, l3] (vi x :: st) u bb σ Q := r_iload_n (k := 2) (by decide +kernel) rfl
theorem k183_195 : qx sc (D + 1) 183 195 ls [vi x0, vr 136] (0, 0) bb σ Q ↔ qx sc D 214 0 [vr 136, vi x0, vn, vn, vn] [] (0, 0) bb σ (q_kn sc (D + 1) 183 198 ls [] (0, 0) Q) := r_callv (idx := 437) (n := 1) (m := 5) (by decide +kernel) rfl (Nat.le_of_ble_eq_true rfl) ⟨Nat.le_of_ble_eq_true rfl, Nat.le_of_ble_eq_true rfl, rfl⟩ rfl
theorem k183_198 : qx sc D 183 198 ls [vi x] (0, 0) bb σ Q ↔ Q (.inl (some (vi x))) bb σ := r_ret (by decide +kernel)
-- 184: RowProverModel.noCheck(I)Z
theorem k184_0 : qx sc D 184 0 [vr a, l1] st u bb σ Q ↔ qx sc D 184 1 [vr a, l1] (vr a :: st) u bb σ Q := r_aload_n (k := 0) (by decide +kernel) rfl
theorem k184_1 : qx sc D 184 1 [l0, vi x] st u bb σ Q ↔ qx sc D 184 2 [l0, vi x] (vi x :: st) u bb σ Q := r_iload_n (k := 1) (by decide +kernel) rfl
theorem k184_2 : qx sc D 184 2 ls st u bb σ Q ↔ qx sc D 184 3 ls (vi 0 :: st) u bb σ Q := r_iconst (by decide +kernel)
theorem k184_3 : qx sc D 184 3 [vr a, l1] st u bb σ Q ↔ qx sc D 184 4 [vr a, l1] (vr a :: st) u bb σ Q := r_aload_n (k := 0) (by decide +kernel) rfl
theorem k184_4 : qx sc D 184 4 ls (vr 136 :: st) u bb σ Q ↔ qx sc D 184 7 ls (vi (σ 136 16) :: st) u bb σ Q := r_getI (idx := 193) (c := 15) (k := 16) (by decide +kernel)
theorem k184_7 : qx sc D 184 7 ls st u bb σ Q ↔ qx sc D 184 8 ls (vi 1 :: st) u bb σ Q := r_iconst (by decide +kernel)
theorem k184_8 : qx sc D 184 8 ls (vi b' :: vi a' :: st) u bb σ Q ↔ q_R (a' - b') ∧ qx sc D 184 9 ls (vi (a' - b') :: st) u bb σ Q := r_isub (by decide +kernel)
theorem k184_9 : qx sc (D + 1) 184 9 ls [vi x2, vi x1, vi x0, vr a20] (0, 0) bb σ Q ↔ qx sc D 157 0 [vi x0, vi x1, vi x2] [] (0, 0) bb σ (q_kn sc (D + 1) 184 12 ls [vr a20] (0, 0) Q) := r_calls (idx := 498) (n := 3) (m := 3) (by decide +kernel) rfl (Nat.le_of_ble_eq_true rfl) ⟨Nat.le_of_ble_eq_true rfl, Nat.le_of_ble_eq_true rfl, rfl⟩ rfl
theorem k184_12 : qx sc D 184 12 ls (vi x :: st) u bb σ Q ↔ (x = 0 → qx sc D 184 15 ls st u bb σ Q) ∧ (¬ (x = 0) → qx sc D 184 19 ls st u bb σ Q) := r_if_ne (off := 7) (t := 19) (by decide +kernel)
theorem k184_15 : qx sc D 184 15 ls st u bb σ Q ↔ qx sc D 184 16 ls (vi 1 :: st) u bb σ Q := r_iconst (by decide +kernel)
theorem k184_16 : qx sc D 184 16 ls st u bb σ Q ↔ qx sc D 184 20 ls st u bb σ Q := r_goto (off := 4) (by decide +kernel)
theorem k184_19 : qx sc D 184 19 ls st u bb σ Q ↔ qx sc D 184 20 ls (vi 0 :: st) u bb σ Q := r_iconst (by decide +kernel)
theorem k184_20 : qx sc D 184 20 ls st u bb σ Q ↔ qx sc D 184 21 ls (vi 1 :: st) u bb σ Q := r_iconst (by decide +kernel)
theorem k184_21 : qx sc (D + 1) 184 21 ls [vi x1, vi x0, vr 136] (0, 0) bb σ Q ↔ qx sc D 224 0 [vr 136, vi x0, vi x1] [] (0, 0) bb σ (q_kn sc (D + 1) 184 24 ls [] (0, 0) Q) := r_callv (idx := 501) (n := 2) (m := 3) (by decide +kernel) rfl (Nat.le_of_ble_eq_true rfl) ⟨Nat.le_of_ble_eq_true rfl, Nat.le_of_ble_eq_true rfl, rfl⟩ rfl
theorem k184_24 : qx sc D 184 24 ls [vi x] (0, 0) bb σ Q ↔ (x = 0 ∨ x = 1) ∧ Q (.inl (some (vi x))) bb σ := r_retB (by decide +kernel)
-- 185: RowProverModel.noHow(I)Z
theorem k185_0 : qx sc D 185 0 [vr a, l1] st u bb σ Q ↔ qx sc D 185 1 [vr a, l1] (vr a :: st) u bb σ Q := r_aload_n (k := 0) (by decide +kernel) rfl
theorem k185_1 : qx sc D 185 1 [l0, vi x] st u bb σ Q ↔ qx sc D 185 2 [l0, vi x] (vi x :: st) u bb σ Q := r_iload_n (k := 1) (by decide +kernel) rfl
theorem k185_2 : qx sc D 185 2 ls st u bb σ Q ↔ qx sc D 185 3 ls (vi 0 :: st) u bb σ Q := r_iconst (by decide +kernel)
theorem k185_3 : qx sc D 185 3 ls st u bb σ Q ↔ qx sc D 185 4 ls (vi 2 :: st) u bb σ Q := r_iconst (by decide +kernel)
theorem k185_4 : qx sc (D + 1) 185 4 ls [vi x2, vi x1, vi x0, vr a20] (0, 0) bb σ Q ↔ qx sc D 157 0 [vi x0, vi x1, vi x2] [] (0, 0) bb σ (q_kn sc (D + 1) 185 7 ls [vr a20] (0, 0) Q) := r_calls (idx := 498) (n := 3) (m := 3) (by decide +kernel) rfl (Nat.le_of_ble_eq_true rfl) ⟨Nat.le_of_ble_eq_true rfl, Nat.le_of_ble_eq_true rfl, rfl⟩ rfl
theorem k185_7 : qx sc D 185 7 ls (vi x :: st) u bb σ Q ↔ (x = 0 → qx sc D 185 10 ls st u bb σ Q) ∧ (¬ (x = 0) → qx sc D 185 14 ls st u bb σ Q) := r_if_ne (off := 7) (t := 14) (by decide +kernel)
theorem k185_10 : qx sc D 185 10 ls st u bb σ Q ↔ qx sc D 185 11 ls (vi 1 :: st) u bb σ Q := r_iconst (by decide +kernel)
theorem k185_11 : qx sc D 185 11 ls st u bb σ Q ↔ qx sc D 185 15 ls st u bb σ Q := r_goto (off := 4) (by decide +kernel)
theorem k185_14 : qx sc D 185 14 ls st u bb σ Q ↔ qx sc D 185 15 ls (vi 0 :: st) u bb σ Q := r_iconst (by decide +kernel)
theorem k185_15 : qx sc D 185 15 ls st u bb σ Q ↔ qx sc D 185 16 ls (vi 1 :: st) u bb σ Q := r_iconst (by decide +kernel)
theorem k185_16 : qx sc (D + 1) 185 16 ls [vi x1, vi x0, vr 136] (0, 0) bb σ Q ↔ qx sc D 224 0 [vr 136, vi x0, vi x1] [] (0, 0) bb σ (q_kn sc (D + 1) 185 19 ls [] (0, 0) Q) := r_callv (idx := 501) (n := 2) (m := 3) (by decide +kernel) rfl (Nat.le_of_ble_eq_true rfl) ⟨Nat.le_of_ble_eq_true rfl, Nat.le_of_ble_eq_true rfl, rfl⟩ rfl
theorem k185_19 : qx sc D 185 19 ls [vi x] (0, 0) bb σ Q ↔ (x = 0 ∨ x = 1) ∧ Q (.inl (some (vi x))) bb σ := r_retB (by decide +kernel)
-- 186: RowProverModel.noRow(I)Z
theorem k186_0 : qx sc D 186 0 [vr a, l1] st u bb σ Q ↔ qx sc D 186 1 [vr a, l1] (vr a :: st) u bb σ Q := r_aload_n (k := 0) (by decide +kernel) rfl
theorem k186_1 : qx sc D 186 1 [l0, vi x] st u bb σ Q ↔ qx sc D 186 2 [l0, vi x] (vi x :: st) u bb σ Q := r_iload_n (k := 1) (by decide +kernel) rfl
theorem k186_2 : qx sc D 186 2 ls st u bb σ Q ↔ qx sc D 186 3 ls (vi 0 :: st) u bb σ Q := r_iconst (by decide +kernel)
theorem k186_3 : qx sc D 186 3 ls st u bb σ Q ↔ qx sc D 186 4 ls (vi 2 :: st) u bb σ Q := r_iconst (by decide +kernel)
theorem k186_4 : qx sc (D + 1) 186 4 ls [vi x2, vi x1, vi x0, vr a20] (0, 0) bb σ Q ↔ qx sc D 157 0 [vi x0, vi x1, vi x2] [] (0, 0) bb σ (q_kn sc (D + 1) 186 7 ls [vr a20] (0, 0) Q) := r_calls (idx := 498) (n := 3) (m := 3) (by decide +kernel) rfl (Nat.le_of_ble_eq_true rfl) ⟨Nat.le_of_ble_eq_true rfl, Nat.le_of_ble_eq_true rfl, rfl⟩ rfl
theorem k186_7 : qx sc D 186 7 ls (vi x :: st) u bb σ Q ↔ (x = 0 → qx sc D 186 10 ls st u bb σ Q) ∧ (¬ (x = 0) → qx sc D 186 14 ls st u bb σ Q) := r_if_ne (off := 7) (t := 14) (by decide +kernel)
theorem k186_10 : qx sc D 186 10 ls st u bb σ Q ↔ qx sc D 186 11 ls (vi 1 :: st) u bb σ Q := r_iconst (by decide +kernel)
theorem k186_11 : qx sc D 186 11 ls st u bb σ Q ↔ qx sc D 186 15 ls st u bb σ Q := r_goto (off := 4) (by decide +kernel)
theorem k186_14 : qx sc D 186 14 ls st u bb σ Q ↔ qx sc D 186 15 ls (vi 0 :: st) u bb σ Q := r_iconst (by decide +kernel)
theorem k186_15 : qx sc D 186 15 ls st u bb σ Q ↔ qx sc D 186 16 ls (vi 1 :: st) u bb σ Q := r_iconst (by decide +kernel)
theorem k186_16 : qx sc (D + 1) 186 16 ls [vi x1, vi x0, vr 136] (0, 0) bb σ Q ↔ qx sc D 224 0 [vr 136, vi x0, vi x1] [] (0, 0) bb σ (q_kn sc (D + 1) 186 19 ls [] (0, 0) Q) := r_callv (idx := 501) (n := 2) (m := 3) (by decide +kernel) rfl (Nat.le_of_ble_eq_true rfl) ⟨Nat.le_of_ble_eq_true rfl, Nat.le_of_ble_eq_true rfl, rfl⟩ rfl
theorem k186_19 : qx sc D 186 19 ls [vi x] (0, 0) bb σ Q ↔ (x = 0 ∨ x = 1) ∧ Q (.inl (some (vi x))) bb σ := r_retB (by decide +kernel)
-- 187: RowProverModel.noVersion(I)Z
theorem k187_0 : qx sc D 187 0 [vr a, l1] st u bb σ Q ↔ qx sc D 187 1 [vr a, l1] (vr a :: st) u bb σ Q := r_aload_n (k := 0) (by decide +kernel) rfl
theorem k187_1 : qx sc D 187 1 [l0, vi x] st u bb σ Q ↔ qx sc D 187 2 [l0, vi x] (vi x :: st) u bb σ Q := r_iload_n (k := 1) (by decide +kernel) rfl
theorem k187_2 : qx sc D 187 2 ls st u bb σ Q ↔ qx sc D 187 3 ls (vi 0 :: st) u bb σ Q := r_iconst (by decide +kernel)
theorem k187_3 : qx sc D 187 3 [vr a, l1] st u bb σ Q ↔ qx sc D 187 4 [vr a, l1] (vr a :: st) u bb σ Q := r_aload_n (k := 0) (by decide +kernel) rfl
theorem k187_4 : qx sc D 187 4 ls (vr 136 :: st) u bb σ Q ↔ qx sc D 187 7 ls (vi (σ 136 15) :: st) u bb σ Q := r_getI (idx := 30) (c := 15) (k := 15) (by decide +kernel)
theorem k187_7 : qx sc D 187 7 ls st u bb σ Q ↔ qx sc D 187 8 ls (vi 1 :: st) u bb σ Q := r_iconst (by decide +kernel)
theorem k187_8 : qx sc D 187 8 ls (vi b' :: vi a' :: st) u bb σ Q ↔ q_R (a' - b') ∧ qx sc D 187 9 ls (vi (a' - b') :: st) u bb σ Q := r_isub (by decide +kernel)
theorem k187_9 : qx sc (D + 1) 187 9 ls [vi x2, vi x1, vi x0, vr a20] (0, 0) bb σ Q ↔ qx sc D 157 0 [vi x0, vi x1, vi x2] [] (0, 0) bb σ (q_kn sc (D + 1) 187 12 ls [vr a20] (0, 0) Q) := r_calls (idx := 498) (n := 3) (m := 3) (by decide +kernel) rfl (Nat.le_of_ble_eq_true rfl) ⟨Nat.le_of_ble_eq_true rfl, Nat.le_of_ble_eq_true rfl, rfl⟩ rfl
theorem k187_12 : qx sc D 187 12 ls (vi x :: st) u bb σ Q ↔ (x = 0 → qx sc D 187 15 ls st u bb σ Q) ∧ (¬ (x = 0) → qx sc D 187 19 ls st u bb σ Q) := r_if_ne (off := 7) (t := 19) (by decide +kernel)
theorem k187_15 : qx sc D 187 15 ls st u bb σ Q ↔ qx sc D 187 16 ls (vi 1 :: st) u bb σ Q := r_iconst (by decide +kernel)
theorem k187_16 : qx sc D 187 16 ls st u bb σ Q ↔ qx sc D 187 20 ls st u bb σ Q := r_goto (off := 4) (by decide +kernel)
theorem k187_19 : qx sc D 187 19 ls st u bb σ Q ↔ qx sc D 187 20 ls (vi 0 :: st) u bb σ Q := r_iconst (by decide +kernel)
theorem k187_20 : qx sc D 187 20 ls st u bb σ Q ↔ qx sc D 187 21 ls (vi 1 :: st) u bb σ Q := r_iconst (by decide +kernel)
theorem k187_21 : qx sc (D + 1) 187 21 ls [vi x1, vi x0, vr 136] (0, 0) bb σ Q ↔ qx sc D 224 0 [vr 136, vi x0, vi x1] [] (0, 0) bb σ (q_kn sc (D + 1) 187 24 ls [] (0, 0) Q) := r_callv (idx := 501) (n := 2) (m := 3) (by decide +kernel) rfl (Nat.le_of_ble_eq_true rfl) ⟨Nat.le_of_ble_eq_true rfl, Nat.le_of_ble_eq_true rfl, rfl⟩ rfl
theorem k187_24 : qx sc D 187 24 ls [vi x] (0, 0) bb σ Q ↔ (x = 0 ∨ x = 1) ∧ Q (.inl (some (vi x))) bb σ := r_retB (by decide +kernel)
-- 188: RowProverModel.none(I)I
theorem k188_0 : qx sc D 188 0 [l0, vi x] st u bb σ Q ↔ qx sc D 188 1 [l0, vi x] (vi x :: st) u bb σ Q := r_iload_n (k := 1) (by decide +kernel) rfl
theorem k188_1 : qx sc D 188 1 ls st u bb σ Q ↔ qx sc D 188 2 ls (vi 3 :: st) u bb σ Q := r_iconst (by decide +kernel)
theorem k188_2 : qx sc D 188 2 ls (vi b' :: vi a' :: st) u bb σ Q ↔ (a' = b' → qx sc D 188 5 ls st u bb σ Q) ∧ (¬ (a' = b') → qx sc D 188 11 ls st u bb σ Q) := r_ic_ne (off := 9) (t := 11) (by decide +kernel)
theorem k188_5 : qx sc D 188 5 ls st u bb σ Q ↔ qx sc D 188 8 ls (vi (-268435456) :: st) u bb σ Q := r_ldc_w (idx := 362) (v := (-268435456)) (by decide +kernel)
theorem k188_8 : qx sc D 188 8 ls st u bb σ Q ↔ qx sc D 188 14 ls st u bb σ Q := r_goto (off := 6) (by decide +kernel)
theorem k188_11 : qx sc D 188 11 ls st u bb σ Q ↔ qx sc D 188 14 ls (vi 268435456 :: st) u bb σ Q := r_ldc_w (idx := 361) (v := 268435456) (by decide +kernel)
theorem k188_14 : qx sc D 188 14 ls [vi x] (0, 0) bb σ Q ↔ Q (.inl (some (vi x))) bb σ := r_ret (by decide +kernel)
-- 189: RowProverModel.number(I)I
theorem k189_0 : qx sc D 189 0 [vr a, l1, l2] st u bb σ Q ↔ qx sc D 189 1 [vr a, l1, l2] (vr a :: st) u bb σ Q := r_aload_n (k := 0) (by decide +kernel) rfl
theorem k189_1 : qx sc (D + 1) 189 1 ls [vr 136] (0, 0) bb σ Q ↔ qx sc D 154 0 [vr 136] [] (0, 0) bb σ (q_kn sc (D + 1) 189 4 ls [] (0, 0) Q) := r_callv (idx := 83) (n := 0) (m := 1) (by decide +kernel) rfl (Nat.le_of_ble_eq_true rfl) ⟨Nat.le_of_ble_eq_true rfl, Nat.le_of_ble_eq_true rfl, rfl⟩ rfl
theorem k189_4 : qx sc D 189 4 ls (vi x :: st) u bb σ Q ↔ (x = 0 → qx sc D 189 9 ls st u bb σ Q) ∧ (¬ (x = 0) → qx sc D 189 7 ls st u bb σ Q) := r_if_eq (off := 5) (t := 9) (by decide +kernel)
theorem k189_7 : qx sc D 189 7 ls st u bb σ Q ↔ qx sc D 189 8 ls (vi 0 :: st) u bb σ Q := r_iconst (by decide +kernel)
theorem k189_8 : qx sc D 189 8 ls [vi x] (0, 0) bb σ Q ↔ Q (.inl (some (vi x))) bb σ := r_ret (by decide +kernel)
theorem k189_9 : qx sc D 189 9 [vr a, l1, l2] st u bb σ Q ↔ qx sc D 189 10 [vr a, l1, l2] (vr a :: st) u bb σ Q := r_aload_n (k := 0) (by decide +kernel) rfl
theorem k189_10 : qx sc (D + 1) 189 10 ls [vr 136] (0, 0) bb σ Q ↔ qx sc D 163 0 [vr 136] [] (0, 0) bb σ (q_kn sc (D + 1) 189 13 ls [] (0, 0) Q) := r_callv (idx := 120) (n := 0) (m := 1) (by decide +kernel) rfl (Nat.le_of_ble_eq_true rfl) ⟨Nat.le_of_ble_eq_true rfl, Nat.le_of_ble_eq_true rfl, rfl⟩ rfl
theorem k189_13 : qx sc D 189 13 ls (vi x :: st) u bb σ Q ↔ (x = 0 → qx sc D 189 16 ls st u bb σ Q) ∧ (¬ (x = 0) → qx sc D 189 22 ls st u bb σ Q) := r_if_ne (off := 9) (t := 22) (by decide +kernel)
theorem k189_16 : qx sc D 189 16 [vr a, l1, l2] st u bb σ Q ↔ qx sc D 189 17 [vr a, l1, l2] (vr a :: st) u bb σ Q := r_aload_n (k := 0) (by decide +kernel) rfl
theorem k189_17 : qx sc (D + 1) 189 17 ls [vr 136] (0, 0) bb σ Q ↔ qx sc D 148 0 [vr 136] [] (0, 0) bb σ (q_kn sc (D + 1) 189 20 ls [] (0, 0) Q) := r_callv (idx := 91) (n := 0) (m := 1) (by decide +kernel) rfl (Nat.le_of_ble_eq_true rfl) ⟨Nat.le_of_ble_eq_true rfl, Nat.le_of_ble_eq_true rfl, rfl⟩ rfl
theorem k189_20 : qx sc D 189 20 ls st u bb σ Q ↔ qx sc D 189 21 ls (vi 0 :: st) u bb σ Q := r_iconst (by decide +kernel)
theorem k189_21 : qx sc D 189 21 ls [vi x] (0, 0) bb σ Q ↔ Q (.inl (some (vi x))) bb σ := r_ret (by decide +kernel)
theorem k189_22 : qx sc D 189 22 ls st u bb σ Q ↔ qx sc D 189 23 ls (vi 0 :: st) u bb σ Q := r_iconst (by decide +kernel)
theorem k189_23 : qx sc D 189 23 [l0, l1, l2] (vi x :: st) u bb σ Q ↔ qx sc D 189 24 [l0, l1, vi x] st u bb σ Q := r_istore_n (k := 2) (by decide +kernel) (Nat.le_of_ble_eq_true rfl)
theorem k189_24 : qx sc D 189 24 [vr a, l1, l2] st u bb σ Q ↔ qx sc D 189 25 [vr a, l1, l2] (vr a :: st) u bb σ Q := r_aload_n (k := 0) (by decide +kernel) rfl
theorem k189_25 : qx sc D 189 25 ls st u bb σ Q ↔ qx sc D 189 27 ls (vi 48 :: st) u bb σ Q := r_bipush (by decide +kernel)
theorem k189_27 : qx sc D 189 27 ls st u bb σ Q ↔ qx sc D 189 29 ls (vi 57 :: st) u bb σ Q := r_bipush (by decide +kernel)
theorem k189_29 : qx sc (D + 1) 189 29 ls [vi x1, vi x0, vr 136] (0, 0) bb σ Q ↔ qx sc D 159 0 [vr 136, vi x0, vi x1] [] (0, 0) bb σ (q_kn sc (D + 1) 189 32 ls [] (0, 0) Q) := r_callv (idx := 72) (n := 2) (m := 3) (by decide +kernel) rfl (Nat.le_of_ble_eq_true rfl) ⟨Nat.le_of_ble_eq_true rfl, Nat.le_of_ble_eq_true rfl, rfl⟩ rfl
theorem k189_32 : qx sc D 189 32 ls (vi x :: st) u bb σ Q ↔ (x = 0 → qx sc D 189 79 ls st u bb σ Q) ∧ (¬ (x = 0) → qx sc D 189 35 ls st u bb σ Q) := r_if_eq (off := 47) (t := 79) (by decide +kernel)
theorem k189_35 : qx sc D 189 35 [vr a, l1, l2] st u bb σ Q ↔ qx sc D 189 36 [vr a, l1, l2] (vr a :: st) u bb σ Q := r_aload_n (k := 0) (by decide +kernel) rfl
theorem k189_36 : qx sc D 189 36 ls (vr 136 :: st) u bb σ Q ↔ qx sc D 189 39 ls (vi (σ 136 8) :: st) u bb σ Q := r_getI (idx := 63) (c := 15) (k := 8) (by decide +kernel)
theorem k189_39 : qx sc D 189 39 [vr a, l1, l2] st u bb σ Q ↔ qx sc D 189 40 [vr a, l1, l2] (vr a :: st) u bb σ Q := r_aload_n (k := 0) (by decide +kernel) rfl
theorem k189_40 : qx sc D 189 40 ls (vr 136 :: st) u bb σ Q ↔ qx sc D 189 43 ls (vi (σ 136 9) :: st) u bb σ Q := r_getI (idx := 76) (c := 15) (k := 9) (by decide +kernel)
theorem k189_43 : qx sc D 189 43 ls (vi b' :: vi a' :: st) u bb σ Q ↔ q_R (a' - b') ∧ qx sc D 189 44 ls (vi (a' - b') :: st) u bb σ Q := r_isub (by decide +kernel)
theorem k189_44 : qx sc D 189 44 ls st u bb σ Q ↔ qx sc D 189 45 ls (vi 3 :: st) u bb σ Q := r_iconst (by decide +kernel)
theorem k189_45 : qx sc D 189 45 ls (vi b' :: vi a' :: st) u bb σ Q ↔ (a' < b' → qx sc D 189 48 ls st u bb σ Q) ∧ (¬ (a' < b') → qx sc D 189 66 ls st u bb σ Q) := r_ic_ge (off := 21) (t := 66) (by decide +kernel)
theorem k189_48 : qx sc D 189 48 ls st u bb σ Q ↔ qx sc D 189 50 ls (vi 10 :: st) u bb σ Q := r_bipush (by decide +kernel)
theorem k189_50 : qx sc D 189 50 [l0, l1, vi x] st u bb σ Q ↔ qx sc D 189 51 [l0, l1, vi x] (vi x :: st) u bb σ Q := r_iload_n (k := 2) (by decide +kernel) rfl
theorem k189_51 : qx sc D 189 51 ls (vi b' :: vi a' :: st) u bb σ Q ↔ q_R (a' * b') ∧ qx sc D 189 52 ls (vi (a' * b') :: st) u bb σ Q := r_imul (by decide +kernel)
theorem k189_52 : qx sc D 189 52 [vr a, l1, l2] st u bb σ Q ↔ qx sc D 189 53 [vr a, l1, l2] (vr a :: st) u bb σ Q := r_aload_n (k := 0) (by decide +kernel) rfl
theorem k189_53 : qx sc D 189 53 ls (vr 136 :: st) u bb σ Q ↔ qx sc D 189 56 ls (vr 139 :: st) u bb σ Q := r_getR (idx := 69) (c := 15) (k := 4) (by decide +kernel)
theorem k189_56 : qx sc D 189 56 [vr a, l1, l2] st u bb σ Q ↔ qx sc D 189 57 [vr a, l1, l2] (vr a :: st) u bb σ Q := r_aload_n (k := 0) (by decide +kernel) rfl
theorem k189_57 : qx sc D 189 57 ls (vr 136 :: st) u bb σ Q ↔ qx sc D 189 60 ls (vi (σ 136 8) :: st) u bb σ Q := r_getI (idx := 63) (c := 15) (k := 8) (by decide +kernel)
theorem k189_60 : qx sc D 189 60 ls (vi i :: vr a :: st) u bb σ Q ↔ ((q_ty a = 1 ∨ q_ty a = 2) ∧ 0 ≤ i ∧ i < q_ln a) ∧ qx sc D 189 61 ls (vi (σ a i) :: st) u bb σ Q := r_bald (by decide +kernel)
theorem k189_61 : qx sc D 189 61 ls (vi b' :: vi a' :: st) u bb σ Q ↔ q_R (a' + b') ∧ qx sc D 189 62 ls (vi (a' + b') :: st) u bb σ Q := r_iadd (by decide +kernel)
theorem k189_62 : qx sc D 189 62 ls st u bb σ Q ↔ qx sc D 189 64 ls (vi 48 :: st) u bb σ Q := r_bipush (by decide +kernel)
theorem k189_64 : qx sc D 189 64 ls (vi b' :: vi a' :: st) u bb σ Q ↔ q_R (a' - b') ∧ qx sc D 189 65 ls (vi (a' - b') :: st) u bb σ Q := r_isub (by decide +kernel)
theorem k189_65 : qx sc D 189 65 [l0, l1, l2] (vi x :: st) u bb σ Q ↔ qx sc D 189 66 [l0, l1, vi x] st u bb σ Q := r_istore_n (k := 2) (by decide +kernel) (Nat.le_of_ble_eq_true rfl)
theorem k189_66 : qx sc D 189 66 [vr a, l1, l2] st u bb σ Q ↔ qx sc D 189 67 [vr a, l1, l2] (vr a :: st) u bb σ Q := r_aload_n (k := 0) (by decide +kernel) rfl
theorem k189_67 : qx sc D 189 67 ls (vr a :: st) u bb σ Q ↔ qx sc D 189 68 ls (vr a :: vr a :: st) u bb σ Q := r_dupA (by decide +kernel)
theorem k189_68 : qx sc D 189 68 ls (vr 136 :: st) u bb σ Q ↔ qx sc D 189 71 ls (vi (σ 136 8) :: st) u bb σ Q := r_getI (idx := 63) (c := 15) (k := 8) (by decide +kernel)
theorem k189_71 : qx sc D 189 71 ls st u bb σ Q ↔ qx sc D 189 72 ls (vi 1 :: st) u bb σ Q := r_iconst (by decide +kernel)
theorem k189_72 : qx sc D 189 72 ls (vi b' :: vi a' :: st) u bb σ Q ↔ q_R (a' + b') ∧ qx sc D 189 73 ls (vi (a' + b') :: st) u bb σ Q := r_iadd (by decide +kernel)
theorem k189_73 : qx sc D 189 73 ls (vi x :: vr 136 :: st) u bb σ Q ↔ qx sc D 189 76 ls st u bb (q_up σ 136 8 x) Q := r_putI (idx := 63) (c := 15) (k := 8) (by decide +kernel)
theorem k189_76 : qx sc D 189 76 ls st u bb σ Q ↔ qx sc D 189 24 ls st u bb σ Q := r_goto (off := (-52)) (by decide +kernel)
theorem k189_79 : qx sc D 189 79 [vr a, l1, l2] st u bb σ Q ↔ qx sc D 189 80 [vr a, l1, l2] (vr a :: st) u bb σ Q := r_aload_n (k := 0) (by decide +kernel) rfl
theorem k189_80 : qx sc D 189 80 ls (vr 136 :: st) u bb σ Q ↔ qx sc D 189 83 ls (vi (σ 136 8) :: st) u bb σ Q := r_getI (idx := 63) (c := 15) (k := 8) (by decide +kernel)
theorem k189_83 : qx sc D 189 83 [vr a, l1, l2] st u bb σ Q ↔ qx sc D 189 84 [vr a, l1, l2] (vr a :: st) u bb σ Q := r_aload_n (k := 0) (by decide +kernel) rfl
theorem k189_84 : qx sc D 189 84 ls (vr 136 :: st) u bb σ Q ↔ qx sc D 189 87 ls (vi (σ 136 9) :: st) u bb σ Q := r_getI (idx := 76) (c := 15) (k := 9) (by decide +kernel)
theorem k189_87 : qx sc D 189 87 ls (vi b' :: vi a' :: st) u bb σ Q ↔ q_R (a' - b') ∧ qx sc D 189 88 ls (vi (a' - b') :: st) u bb σ Q := r_isub (by decide +kernel)
theorem k189_88 : qx sc D 189 88 ls st u bb σ Q ↔ qx sc D 189 89 ls (vi 2 :: st) u bb σ Q := r_iconst (by decide +kernel)
theorem k189_89 : qx sc D 189 89 ls (vi b' :: vi a' :: st) u bb σ Q ↔ (b' < a' → qx sc D 189 97 ls st u bb σ Q) ∧ (¬ (b' < a') → qx sc D 189 92 ls st u bb σ Q) := r_ic_gt (off := 8) (t := 97) (by decide +kernel)
theorem k189_92 : qx sc D 189 92 [l0, l1, vi x] st u bb σ Q ↔ qx sc D 189 93 [l0, l1, vi x] (vi x :: st) u bb σ Q := r_iload_n (k := 2) (by decide +kernel) rfl
theorem k189_93 : qx sc D 189 93 [l0, vi x, l2] st u bb σ Q ↔ qx sc D 189 94 [l0, vi x, l2] (vi x :: st) u bb σ Q := r_iload_n (k := 1) (by decide +kernel) rfl
theorem k189_94 : qx sc D 189 94 ls (vi b' :: vi a' :: st) u bb σ Q ↔ (b' < a' → qx sc D 189 97 ls st u bb σ Q) ∧ (¬ (b' < a') → qx sc D 189 101 ls st u bb σ Q) := r_ic_le (off := 7) (t := 101) (by decide +kernel)
theorem k189_97 : qx sc D 189 97 [vr a, l1, l2] st u bb σ Q ↔ qx sc D 189 98 [vr a, l1, l2] (vr a :: st) u bb σ Q := r_aload_n (k := 0) (by decide +kernel) rfl
theorem k189_98 : qx sc (D + 1) 189 98 ls [vr 136] (0, 0) bb σ Q ↔ qx sc D 148 0 [vr 136] [] (0, 0) bb σ (q_kn sc (D + 1) 189 101 ls [] (0, 0) Q) := r_callv (idx := 91) (n := 0) (m := 1) (by decide +kernel) rfl (Nat.le_of_ble_eq_true rfl) ⟨Nat.le_of_ble_eq_true rfl, Nat.le_of_ble_eq_true rfl, rfl⟩ rfl
theorem k189_101 : qx sc D 189 101 [l0, l1, vi x] st u bb σ Q ↔ qx sc D 189 102 [l0, l1, vi x] (vi x :: st) u bb σ Q := r_iload_n (k := 2) (by decide +kernel) rfl
theorem k189_102 : qx sc D 189 102 ls [vi x] (0, 0) bb σ Q ↔ Q (.inl (some (vi x))) bb σ := r_ret (by decide +kernel)
-- 190: RowProverModel.ofCheck(II)I
theorem k190_0 : qx sc D 190 0 [vr a, l1, l2, l3] st u bb σ Q ↔ qx sc D 190 1 [vr a, l1, l2, l3] (vr a :: st) u bb σ Q := r_aload_n (k := 0) (by decide +kernel) rfl
theorem k190_1 : qx sc D 190 1 [l0, l1, vi x, l3] st u bb σ Q ↔ qx sc D 190 2 [l0, l1, vi x, l3] (vi x :: st) u bb σ Q := r_iload_n (k := 2) (by decide +kernel) rfl
theorem k190_2 : qx sc (D + 1) 190 2 ls [vi x0, vr 136] (0, 0) bb σ Q ↔ qx sc D 138 0 [vr 136, vi x0, vn] [] (0, 0) bb σ (q_kn sc (D + 1) 190 5 ls [] (0, 0) Q) := r_callv (idx := 381) (n := 1) (m := 3) (by decide +kernel) rfl (Nat.le_of_ble_eq_true rfl) ⟨Nat.le_of_ble_eq_true rfl, Nat.le_of_ble_eq_true rfl, rfl⟩ rfl
theorem k190_5 : qx sc D 190 5 [l0, l1, l2, l3] (vi x :: st) u bb σ Q ↔ qx sc D 190 6 [l0, l1, l2, vi x] st u bb σ Q := r_istore_n (k := 3) (by decide +kernel) (Nat.le_of_ble_eq_true rfl)
theorem k190_6 : qx sc D 190 6 [l0, l1, l2, vi x] st u bb σ Q ↔ qx sc D 190 7 [l0, l1, l2, vi x] (vi x :: st) u bb σ Q := r_iload_n (k := 3) (by decide +kernel) rfl
theorem k190_7 : qx sc D 190 7 [vr a, l1, l2, l3] st u bb σ Q ↔ qx sc D 190 8 [vr a, l1, l2, l3] (vr a :: st) u bb σ Q := r_aload_n (k := 0) (by decide +kernel) rfl
theorem k190_8 : qx sc D 190 8 ls (vr 136 :: st) u bb σ Q ↔ qx sc D 190 11 ls (vi (σ 136 54) :: st) u bb σ Q := r_getI (idx := 384) (c := 15) (k := 54) (by decide +kernel)
theorem k190_11 : qx sc D 190 11 ls (vi b' :: vi a' :: st) u bb σ Q ↔ (a' = b' → qx sc D 190 14 ls st u bb σ Q) ∧ (¬ (a' = b') → qx sc D 190 20 ls st u bb σ Q) := r_ic_ne (off := 9) (t := 20) (by decide +kernel)
theorem k190_14 : qx sc D 190 14 [vr a, l1, l2, l3] st u bb σ Q ↔ qx sc D 190 15 [vr a, l1, l2, l3] (vr a :: st) u bb σ Q := r_aload_n (k := 0) (by decide +kernel) rfl
theorem k190_15 : qx sc D 190 15 [l0, vi x, l2, l3] st u bb σ Q ↔ qx sc D 190 16 [l0, vi x, l2, l3] (vi x :: st) u bb σ Q := r_iload_n (k := 1) (by decide +kernel) rfl
theorem k190_16 : qx sc (D + 1) 190 16 ls [vi x0, vr 136] (0, 0) bb σ Q ↔ qx sc D 188 0 [vr 136, vi x0] [] (0, 0) bb σ (q_kn sc (D + 1) 190 19 ls [] (0, 0) Q) := r_callv (idx := 375) (n := 1) (m := 2) (by decide +kernel) rfl (Nat.le_of_ble_eq_true rfl) ⟨Nat.le_of_ble_eq_true rfl, Nat.le_of_ble_eq_true rfl, rfl⟩ rfl
theorem k190_19 : qx sc D 190 19 ls [vi x] (0, 0) bb σ Q ↔ Q (.inl (some (vi x))) bb σ := r_ret (by decide +kernel)
theorem k190_20 : qx sc D 190 20 [l0, vi x, l2, l3] st u bb σ Q ↔ qx sc D 190 21 [l0, vi x, l2, l3] (vi x :: st) u bb σ Q := r_iload_n (k := 1) (by decide +kernel) rfl
theorem k190_21 : qx sc D 190 21 ls st u bb σ Q ↔ qx sc D 190 22 ls (vi 3 :: st) u bb σ Q := r_iconst (by decide +kernel)
theorem k190_22 : qx sc D 190 22 ls (vi b' :: vi a' :: st) u bb σ Q ↔ (a' = b' → qx sc D 190 25 ls st u bb σ Q) ∧ (¬ (a' = b') → qx sc D 190 29 ls st u bb σ Q) := r_ic_ne (off := 7) (t := 29) (by decide +kernel)
theorem k190_25 : qx sc D 190 25 ls st u bb σ Q ↔ qx sc D 190 26 ls (vi 0 :: st) u bb σ Q := r_iconst (by decide +kernel)
theorem k190_26 : qx sc D 190 26 ls st u bb σ Q ↔ qx sc D 190 48 ls st u bb σ Q := r_goto (off := 22) (by decide +kernel)
theorem k190_29 : qx sc D 190 29 [l0, vi x, l2, l3] st u bb σ Q ↔ qx sc D 190 30 [l0, vi x, l2, l3] (vi x :: st) u bb σ Q := r_iload_n (k := 1) (by decide +kernel) rfl
theorem k190_30 : qx sc D 190 30 [vr a, l1, l2, l3] st u bb σ Q ↔ qx sc D 190 31 [vr a, l1, l2, l3] (vr a :: st) u bb σ Q := r_aload_n (k := 0) (by decide +kernel) rfl
theorem k190_31 : qx sc D 190 31 ls (vr 136 :: st) u bb σ Q ↔ qx sc D 190 34 ls (vr 156 :: st) u bb σ Q := r_getR (idx := 199) (c := 15) (k := 33) (by decide +kernel)
theorem k190_34 : qx sc D 190 34 [l0, l1, l2, vi x] st u bb σ Q ↔ qx sc D 190 35 [l0, l1, l2, vi x] (vi x :: st) u bb σ Q := r_iload_n (k := 3) (by decide +kernel) rfl
theorem k190_35 : qx sc D 190 35 ls (vi i :: vr a :: st) u bb σ Q ↔ (q_ty a = 0 ∧ 0 ≤ i ∧ i < q_ln a) ∧ qx sc D 190 36 ls (vi (σ a i) :: st) u bb σ Q := r_iald (by decide +kernel)
theorem k190_36 : qx sc D 190 36 ls (vi b' :: vi a' :: st) u bb σ Q ↔ (a' = b' → qx sc D 190 39 ls st u bb σ Q) ∧ (¬ (a' = b') → qx sc D 190 43 ls st u bb σ Q) := r_ic_ne (off := 7) (t := 43) (by decide +kernel)
theorem k190_39 : qx sc D 190 39 ls st u bb σ Q ↔ qx sc D 190 40 ls (vi (-1) :: st) u bb σ Q := r_iconst (by decide +kernel)
theorem k190_40 : qx sc D 190 40 ls st u bb σ Q ↔ qx sc D 190 48 ls st u bb σ Q := r_goto (off := 8) (by decide +kernel)
theorem k190_43 : qx sc D 190 43 [vr a, l1, l2, l3] st u bb σ Q ↔ qx sc D 190 44 [vr a, l1, l2, l3] (vr a :: st) u bb σ Q := r_aload_n (k := 0) (by decide +kernel) rfl
theorem k190_44 : qx sc D 190 44 [l0, vi x, l2, l3] st u bb σ Q ↔ qx sc D 190 45 [l0, vi x, l2, l3] (vi x :: st) u bb σ Q := r_iload_n (k := 1) (by decide +kernel) rfl
theorem k190_45 : qx sc (D + 1) 190 45 ls [vi x0, vr 136] (0, 0) bb σ Q ↔ qx sc D 188 0 [vr 136, vi x0] [] (0, 0) bb σ (q_kn sc (D + 1) 190 48 ls [] (0, 0) Q) := r_callv (idx := 375) (n := 1) (m := 2) (by decide +kernel) rfl (Nat.le_of_ble_eq_true rfl) ⟨Nat.le_of_ble_eq_true rfl, Nat.le_of_ble_eq_true rfl, rfl⟩ rfl
theorem k190_48 : qx sc D 190 48 ls [vi x] (0, 0) bb σ Q ↔ Q (.inl (some (vi x))) bb σ := r_ret (by decide +kernel)
-- 191: RowProverModel.ofLength(II)I
theorem k191_0 : qx sc D 191 0 [l0, vi x, l2] st u bb σ Q ↔ qx sc D 191 1 [l0, vi x, l2] (vi x :: st) u bb σ Q := r_iload_n (k := 1) (by decide +kernel) rfl
theorem k191_1 : qx sc D 191 1 ls st u bb σ Q ↔ qx sc D 191 2 ls (vi 3 :: st) u bb σ Q := r_iconst (by decide +kernel)
theorem k191_2 : qx sc D 191 2 ls (vi b' :: vi a' :: st) u bb σ Q ↔ (a' = b' → qx sc D 191 5 ls st u bb σ Q) ∧ (¬ (a' = b') → qx sc D 191 14 ls st u bb σ Q) := r_ic_ne (off := 12) (t := 14) (by decide +kernel)
theorem k191_5 : qx sc D 191 5 [vr a, l1, l2] st u bb σ Q ↔ qx sc D 191 6 [vr a, l1, l2] (vr a :: st) u bb σ Q := r_aload_n (k := 0) (by decide +kernel) rfl
theorem k191_6 : qx sc D 191 6 ls (vr 136 :: st) u bb σ Q ↔ qx sc D 191 9 ls (vr 141 :: st) u bb σ Q := r_getR (idx := 128) (c := 15) (k := 12) (by decide +kernel)
theorem k191_9 : qx sc D 191 9 [l0, l1, vi x] st u bb σ Q ↔ qx sc D 191 10 [l0, l1, vi x] (vi x :: st) u bb σ Q := r_iload_n (k := 2) (by decide +kernel) rfl
theorem k191_10 : qx sc D 191 10 ls (vi i :: vr a :: st) u bb σ Q ↔ (q_ty a = 0 ∧ 0 ≤ i ∧ i < q_ln a) ∧ qx sc D 191 11 ls (vi (σ a i) :: st) u bb σ Q := r_iald (by decide +kernel)
theorem k191_11 : qx sc D 191 11 ls st u bb σ Q ↔ qx sc D 191 26 ls st u bb σ Q := r_goto (off := 15) (by decide +kernel)
theorem k191_14 : qx sc D 191 14 [l0, vi x, l2] st u bb σ Q ↔ qx sc D 191 15 [l0, vi x, l2] (vi x :: st) u bb σ Q := r_iload_n (k := 1) (by decide +kernel) rfl
theorem k191_15 : qx sc D 191 15 [l0, l1, vi x] st u bb σ Q ↔ qx sc D 191 16 [l0, l1, vi x] (vi x :: st) u bb σ Q := r_iload_n (k := 2) (by decide +kernel) rfl
theorem k191_16 : qx sc D 191 16 ls (vi b' :: vi a' :: st) u bb σ Q ↔ (a' = b' → qx sc D 191 19 ls st u bb σ Q) ∧ (¬ (a' = b') → qx sc D 191 23 ls st u bb σ Q) := r_ic_ne (off := 7) (t := 23) (by decide +kernel)
theorem k191_19 : qx sc D 191 19 ls st u bb σ Q ↔ qx sc D 191 20 ls (vi 0 :: st) u bb σ Q := r_iconst (by decide +kernel)
theorem k191_20 : qx sc D 191 20 ls st u bb σ Q ↔ qx sc D 191 26 ls st u bb σ Q := r_goto (off := 6) (by decide +kernel)
theorem k191_23 : qx sc D 191 23 ls st u bb σ Q ↔ qx sc D 191 26 ls (vi 268435456 :: st) u bb σ Q := r_ldc_w (idx := 361) (v := 268435456) (by decide +kernel)
theorem k191_26 : qx sc D 191 26 ls [vi x] (0, 0) bb σ Q ↔ Q (.inl (some (vi x))) bb σ := r_ret (by decide +kernel)
-- 192: RowProverModel.ofNumber(II)I
theorem k192_0 : qx sc D 192 0 [l0, vi x, l2] st u bb σ Q ↔ qx sc D 192 1 [l0, vi x, l2] (vi x :: st) u bb σ Q := r_iload_n (k := 1) (by decide +kernel) rfl
theorem k192_1 : qx sc D 192 1 ls st u bb σ Q ↔ qx sc D 192 2 ls (vi 3 :: st) u bb σ Q := r_iconst (by decide +kernel)
theorem k192_2 : qx sc D 192 2 ls (vi b' :: vi a' :: st) u bb σ Q ↔ (a' = b' → qx sc D 192 5 ls st u bb σ Q) ∧ (¬ (a' = b') → qx sc D 192 9 ls st u bb σ Q) := r_ic_ne (off := 7) (t := 9) (by decide +kernel)
theorem k192_5 : qx sc D 192 5 [l0, l1, vi x] st u bb σ Q ↔ qx sc D 192 6 [l0, l1, vi x] (vi x :: st) u bb σ Q := r_iload_n (k := 2) (by decide +kernel) rfl
theorem k192_6 : qx sc D 192 6 ls st u bb σ Q ↔ qx sc D 192 17 ls st u bb σ Q := r_goto (off := 11) (by decide +kernel)
theorem k192_9 : qx sc D 192 9 [l0, l1, vi x] st u bb σ Q ↔ qx sc D 192 10 [l0, l1, vi x] (vi x :: st) u bb σ Q := r_iload_n (k := 2) (by decide +kernel) rfl
theorem k192_10 : qx sc D 192 10 [vr a, l1, l2] st u bb σ Q ↔ qx sc D 192 11 [vr a, l1, l2] (vr a :: st) u bb σ Q := r_aload_n (k := 0) (by decide +kernel) rfl
theorem k192_11 : qx sc D 192 11 ls (vr 136 :: st) u bb σ Q ↔ qx sc D 192 14 ls (vr 141 :: st) u bb σ Q := r_getR (idx := 128) (c := 15) (k := 12) (by decide +kernel)
theorem k192_14 : qx sc D 192 14 [l0, vi x, l2] st u bb σ Q ↔ qx sc D 192 15 [l0, vi x, l2] (vi x :: st) u bb σ Q := r_iload_n (k := 1) (by decide +kernel) rfl
theorem k192_15 : qx sc D 192 15 ls (vi i :: vr a :: st) u bb σ Q ↔ (q_ty a = 0 ∧ 0 ≤ i ∧ i < q_ln a) ∧ qx sc D 192 16 ls (vi (σ a i) :: st) u bb σ Q := r_iald (by decide +kernel)
theorem k192_16 : qx sc D 192 16 ls (vi b' :: vi a' :: st) u bb σ Q ↔ q_R (a' - b') ∧ qx sc D 192 17 ls (vi (a' - b') :: st) u bb σ Q := r_isub (by decide +kernel)
theorem k192_17 : qx sc D 192 17 ls [vi x] (0, 0) bb σ Q ↔ Q (.inl (some (vi x))) bb σ := r_ret (by decide +kernel)
-- 193: RowProverModel.ofSide(II)I
theorem k193_0 : qx sc D 193 0 [vr a, l1, l2, l3] st u bb σ Q ↔ qx sc D 193 1 [vr a, l1, l2, l3] (vr a :: st) u bb σ Q := r_aload_n (k := 0) (by decide +kernel) rfl
theorem k193_1 : qx sc D 193 1 ls (vr 136 :: st) u bb σ Q ↔ qx sc D 193 4 ls (vr 165 :: st) u bb σ Q := r_getR (idx := 220) (c := 15) (k := 42) (by decide +kernel)
theorem k193_4 : qx sc D 193 4 [l0, l1, vi x, l3] st u bb σ Q ↔ qx sc D 193 5 [l0, l1, vi x, l3] (vi x :: st) u bb σ Q := r_iload_n (k := 2) (by decide +kernel) rfl
theorem k193_5 : qx sc D 193 5 ls (vi i :: vr a :: st) u bb σ Q ↔ (q_ty a = 0 ∧ 0 ≤ i ∧ i < q_ln a) ∧ qx sc D 193 6 ls (vi (σ a i) :: st) u bb σ Q := r_iald (by decide +kernel)
theorem k193_6 : qx sc D 193 6 [l0, l1, l2, l3] (vi x :: st) u bb σ Q ↔ qx sc D 193 7 [l0, l1, l2, vi x] st u bb σ Q := r_istore_n (k := 3) (by decide +kernel) (Nat.le_of_ble_eq_true rfl)
theorem k193_7 : qx sc D 193 7 [l0, l1, l2, vi x] st u bb σ Q ↔ qx sc D 193 8 [l0, l1, l2, vi x] (vi x :: st) u bb σ Q := r_iload_n (k := 3) (by decide +kernel) rfl
theorem k193_8 : qx sc D 193 8 ls (vi x :: st) u bb σ Q ↔ (x = 0 → qx sc D 193 11 ls st u bb σ Q) ∧ (¬ (x = 0) → qx sc D 193 23 ls st u bb σ Q) := r_if_ne (off := 15) (t := 23) (by decide +kernel)
theorem k193_11 : qx sc D 193 11 [vr a, l1, l2, l3] st u bb σ Q ↔ qx sc D 193 12 [vr a, l1, l2, l3] (vr a :: st) u bb σ Q := r_aload_n (k := 0) (by decide +kernel) rfl
theorem k193_12 : qx sc D 193 12 [l0, vi x, l2, l3] st u bb σ Q ↔ qx sc D 193 13 [l0, vi x, l2, l3] (vi x :: st) u bb σ Q := r_iload_n (k := 1) (by decide +kernel) rfl
theorem k193_13 : qx sc D 193 13 [vr a, l1, l2, l3] st u bb σ Q ↔ qx sc D 193 14 [vr a, l1, l2, l3] (vr a :: st) u bb σ Q := r_aload_n (k := 0) (by decide +kernel) rfl
theorem k193_14 : qx sc D 193 14 ls (vr 136 :: st) u bb σ Q ↔ qx sc D 193 17 ls (vr 166 :: st) u bb σ Q := r_getR (idx := 223) (c := 15) (k := 43) (by decide +kernel)
theorem k193_17 : qx sc D 193 17 [l0, l1, vi x, l3] st u bb σ Q ↔ qx sc D 193 18 [l0, l1, vi x, l3] (vi x :: st) u bb σ Q := r_iload_n (k := 2) (by decide +kernel) rfl
theorem k193_18 : qx sc D 193 18 ls (vi i :: vr a :: st) u bb σ Q ↔ (q_ty a = 0 ∧ 0 ≤ i ∧ i < q_ln a) ∧ qx sc D 193 19 ls (vi (σ a i) :: st) u bb σ Q := r_iald (by decide +kernel)
theorem k193_19 : qx sc (D + 1) 193 19 ls [vi x1, vi x0, vr 136] (0, 0) bb σ Q ↔ qx sc D 192 0 [vr 136, vi x0, vi x1] [] (0, 0) bb σ (q_kn sc (D + 1) 193 22 ls [] (0, 0) Q) := r_callv (idx := 363) (n := 2) (m := 3) (by decide +kernel) rfl (Nat.le_of_ble_eq_true rfl) ⟨Nat.le_of_ble_eq_true rfl, Nat.le_of_ble_eq_true rfl, rfl⟩ rfl
theorem k193_22 : qx sc D 193 22 ls [vi x] (0, 0) bb σ Q ↔ Q (.inl (some (vi x))) bb σ := r_ret (by decide +kernel)
theorem k193_23 : qx sc D 193 23 [l0, l1, l2, vi x] st u bb σ Q ↔ qx sc D 193 24 [l0, l1, l2, vi x] (vi x :: st) u bb σ Q := r_iload_n (k := 3) (by decide +kernel) rfl
theorem k193_24 : qx sc D 193 24 ls st u bb σ Q ↔ qx sc D 193 25 ls (vi 2 :: st) u bb σ Q := r_iconst (by decide +kernel)
theorem k193_25 : qx sc D 193 25 ls (vi b' :: vi a' :: st) u bb σ Q ↔ (a' = b' → qx sc D 193 28 ls st u bb σ Q) ∧ (¬ (a' = b') → qx sc D 193 59 ls st u bb σ Q) := r_ic_ne (off := 34) (t := 59) (by decide +kernel)
theorem k193_28 : qx sc D 193 28 [l0, vi x, l2, l3] st u bb σ Q ↔ qx sc D 193 29 [l0, vi x, l2, l3] (vi x :: st) u bb σ Q := r_iload_n (k := 1) (by decide +kernel) rfl
theorem k193_29 : qx sc D 193 29 ls st u bb σ Q ↔ qx sc D 193 30 ls (vi 3 :: st) u bb σ Q := r_iconst (by decide +kernel)
theorem k193_30 : qx sc D 193 30 ls (vi b' :: vi a' :: st) u bb σ Q ↔ (a' = b' → qx sc D 193 33 ls st u bb σ Q) ∧ (¬ (a' = b') → qx sc D 193 47 ls st u bb σ Q) := r_ic_ne (off := 17) (t := 47) (by decide +kernel)
theorem k193_33 : qx sc D 193 33 [vr a, l1, l2, l3] st u bb σ Q ↔ qx sc D 193 34 [vr a, l1, l2, l3] (vr a :: st) u bb σ Q := r_aload_n (k := 0) (by decide +kernel) rfl
theorem k193_34 : qx sc D 193 34 ls (vr 136 :: st) u bb σ Q ↔ qx sc D 193 37 ls (vr 141 :: st) u bb σ Q := r_getR (idx := 128) (c := 15) (k := 12) (by decide +kernel)
theorem k193_37 : qx sc D 193 37 [vr a, l1, l2, l3] st u bb σ Q ↔ qx sc D 193 38 [vr a, l1, l2, l3] (vr a :: st) u bb σ Q := r_aload_n (k := 0) (by decide +kernel) rfl
theorem k193_38 : qx sc D 193 38 ls (vr 136 :: st) u bb σ Q ↔ qx sc D 193 41 ls (vr 166 :: st) u bb σ Q := r_getR (idx := 223) (c := 15) (k := 43) (by decide +kernel)
theorem k193_41 : qx sc D 193 41 [l0, l1, vi x, l3] st u bb σ Q ↔ qx sc D 193 42 [l0, l1, vi x, l3] (vi x :: st) u bb σ Q := r_iload_n (k := 2) (by decide +kernel) rfl
theorem k193_42 : qx sc D 193 42 ls (vi i :: vr a :: st) u bb σ Q ↔ (q_ty a = 0 ∧ 0 ≤ i ∧ i < q_ln a) ∧ qx sc D 193 43 ls (vi (σ a i) :: st) u bb σ Q := r_iald (by decide +kernel)
theorem k193_43 : qx sc D 193 43 ls (vi i :: vr a :: st) u bb σ Q ↔ (q_ty a = 0 ∧ 0 ≤ i ∧ i < q_ln a) ∧ qx sc D 193 44 ls (vi (σ a i) :: st) u bb σ Q := r_iald (by decide +kernel)
theorem k193_44 : qx sc D 193 44 ls st u bb σ Q ↔ qx sc D 193 58 ls st u bb σ Q := r_goto (off := 14) (by decide +kernel)
theorem k193_47 : qx sc D 193 47 [vr a, l1, l2, l3] st u bb σ Q ↔ qx sc D 193 48 [vr a, l1, l2, l3] (vr a :: st) u bb σ Q := r_aload_n (k := 0) (by decide +kernel) rfl
theorem k193_48 : qx sc D 193 48 [l0, vi x, l2, l3] st u bb σ Q ↔ qx sc D 193 49 [l0, vi x, l2, l3] (vi x :: st) u bb σ Q := r_iload_n (k := 1) (by decide +kernel) rfl
theorem k193_49 : qx sc D 193 49 [vr a, l1, l2, l3] st u bb σ Q ↔ qx sc D 193 50 [vr a, l1, l2, l3] (vr a :: st) u bb σ Q := r_aload_n (k := 0) (by decide +kernel) rfl
theorem k193_50 : qx sc D 193 50 ls (vr 136 :: st) u bb σ Q ↔ qx sc D 193 53 ls (vr 166 :: st) u bb σ Q := r_getR (idx := 223) (c := 15) (k := 43) (by decide +kernel)
theorem k193_53 : qx sc D 193 53 [l0, l1, vi x, l3] st u bb σ Q ↔ qx sc D 193 54 [l0, l1, vi x, l3] (vi x :: st) u bb σ Q := r_iload_n (k := 2) (by decide +kernel) rfl
theorem k193_54 : qx sc D 193 54 ls (vi i :: vr a :: st) u bb σ Q ↔ (q_ty a = 0 ∧ 0 ≤ i ∧ i < q_ln a) ∧ qx sc D 193 55 ls (vi (σ a i) :: st) u bb σ Q := r_iald (by decide +kernel)
theorem k193_55 : qx sc (D + 1) 193 55 ls [vi x1, vi x0, vr 136] (0, 0) bb σ Q ↔ qx sc D 191 0 [vr 136, vi x0, vi x1] [] (0, 0) bb σ (q_kn sc (D + 1) 193 58 ls [] (0, 0) Q) := r_callv (idx := 366) (n := 2) (m := 3) (by decide +kernel) rfl (Nat.le_of_ble_eq_true rfl) ⟨Nat.le_of_ble_eq_true rfl, Nat.le_of_ble_eq_true rfl, rfl⟩ rfl
theorem k193_58 : qx sc D 193 58 ls [vi x] (0, 0) bb σ Q ↔ Q (.inl (some (vi x))) bb σ := r_ret (by decide +kernel)
theorem k193_59 : qx sc D 193 59 [vr a, l1, l2, l3] st u bb σ Q ↔ qx sc D 193 60 [vr a, l1, l2, l3] (vr a :: st) u bb σ Q := r_aload_n (k := 0) (by decide +kernel) rfl
theorem k193_60 : qx sc D 193 60 [l0, vi x, l2, l3] st u bb σ Q ↔ qx sc D 193 61 [l0, vi x, l2, l3] (vi x :: st) u bb σ Q := r_iload_n (k := 1) (by decide +kernel) rfl
theorem k193_61 : qx sc D 193 61 [vr a, l1, l2, l3] st u bb σ Q ↔ qx sc D 193 62 [vr a, l1, l2, l3] (vr a :: st) u bb σ Q := r_aload_n (k := 0) (by decide +kernel) rfl
theorem k193_62 : qx sc D 193 62 ls (vr 136 :: st) u bb σ Q ↔ qx sc D 193 65 ls (vr 167 :: st) u bb σ Q := r_getR (idx := 233) (c := 15) (k := 44) (by decide +kernel)
theorem k193_65 : qx sc D 193 65 [l0, l1, vi x, l3] st u bb σ Q ↔ qx sc D 193 66 [l0, l1, vi x, l3] (vi x :: st) u bb σ Q := r_iload_n (k := 2) (by decide +kernel) rfl
theorem k193_66 : qx sc D 193 66 ls (vi i :: vr a :: st) u bb σ Q ↔ (q_ty a = 0 ∧ 0 ≤ i ∧ i < q_ln a) ∧ qx sc D 193 67 ls (vi (σ a i) :: st) u bb σ Q := r_iald (by decide +kernel)
theorem k193_67 : qx sc (D + 1) 193 67 ls [vi x1, vi x0, vr 136] (0, 0) bb σ Q ↔ qx sc D 133 0 [vr 136, vi x0, vi x1] [] (0, 0) bb σ (q_kn sc (D + 1) 193 70 ls [] (0, 0) Q) := r_callv (idx := 369) (n := 2) (m := 3) (by decide +kernel) rfl (Nat.le_of_ble_eq_true rfl) ⟨Nat.le_of_ble_eq_true rfl, Nat.le_of_ble_eq_true rfl, rfl⟩ rfl
theorem k193_70 : qx sc D 193 70 ls [vi x] (0, 0) bb σ Q ↔ Q (.inl (some (vi x))) bb σ := r_ret (by decide +kernel)
-- 194: RowProverModel.ofTest(II)I
theorem k194_0 : qx sc D 194 0 [vr a, l1, l2, l3, l4, l5, l6, l7, l8, l9] st u bb σ Q ↔ qx sc D 194 1 [vr a, l1, l2, l3, l4, l5, l6, l7, l8, l9] (vr a :: st) u bb σ Q := r_aload_n (k := 0) (by decide +kernel) rfl
theorem k194_1 : qx sc D 194 1 ls (vr 136 :: st) u bb σ Q ↔ qx sc D 194 4 ls (vr 149 :: st) u bb σ Q := r_getR (idx := 39) (c := 15) (k := 26) (by decide +kernel)
theorem k194_4 : qx sc D 194 4 [l0, l1, vi x, l3, l4, l5, l6, l7, l8, l9] st u bb σ Q ↔ qx sc D 194 5 [l0, l1, vi x, l3, l4, l5, l6, l7, l8, l9] (vi x :: st) u bb σ Q := r_iload_n (k := 2) (by decide +kernel) rfl
theorem k194_5 : qx sc D 194 5 ls (vi i :: vr a :: st) u bb σ Q ↔ (q_ty a = 0 ∧ 0 ≤ i ∧ i < q_ln a) ∧ qx sc D 194 6 ls (vi (σ a i) :: st) u bb σ Q := r_iald (by decide +kernel)
theorem k194_6 : qx sc D 194 6 [l0, l1, l2, l3, l4, l5, l6, l7, l8, l9] (vi x :: st) u bb σ Q ↔ qx sc D 194 7 [l0, l1, l2, vi x, l4, l5, l6, l7, l8, l9] st u bb σ Q := r_istore_n (k := 3) (by decide +kernel) (Nat.le_of_ble_eq_true rfl)
theorem k194_7 : qx sc D 194 7 [vr a, l1, l2, l3, l4, l5, l6, l7, l8, l9] st u bb σ Q ↔ qx sc D 194 8 [vr a, l1, l2, l3, l4, l5, l6, l7, l8, l9] (vr a :: st) u bb σ Q := r_aload_n (k := 0) (by decide +kernel) rfl
theorem k194_8 : qx sc D 194 8 ls (vr 136 :: st) u bb σ Q ↔ qx sc D 194 11 ls (vr 148 :: st) u bb σ Q := r_getR (idx := 36) (c := 15) (k := 25) (by decide +kernel)
theorem k194_11 : qx sc D 194 11 [l0, l1, vi x, l3, l4, l5, l6, l7, l8, l9] st u bb σ Q ↔ qx sc D 194 12 [l0, l1, vi x, l3, l4, l5, l6, l7, l8, l9] (vi x :: st) u bb σ Q := r_iload_n (k := 2) (by decide +kernel) rfl
theorem k194_12 : qx sc D 194 12 ls (vi i :: vr a :: st) u bb σ Q ↔ (q_ty a = 0 ∧ 0 ≤ i ∧ i < q_ln a) ∧ qx sc D 194 13 ls (vi (σ a i) :: st) u bb σ Q := r_iald (by decide +kernel)
theorem k194_13 : qx sc D 194 13 ls st u bb σ Q ↔ qx sc D 194 14 ls (vi 3 :: st) u bb σ Q := r_iconst (by decide +kernel)
theorem k194_14 : qx sc D 194 14 ls (vi b' :: vi a' :: st) u bb σ Q ↔ (a' = b' → qx sc D 194 17 ls st u bb σ Q) ∧ (¬ (a' = b') → qx sc D 194 21 ls st u bb σ Q) := r_ic_ne (off := 7) (t := 21) (by decide +kernel)
theorem k194_17 : qx sc D 194 17 ls st u bb σ Q ↔ qx sc D 194 18 ls (vi 1 :: st) u bb σ Q := r_iconst (by decide +kernel)
theorem k194_18 : qx sc D 194 18 ls st u bb σ Q ↔ qx sc D 194 22 ls st u bb σ Q := r_goto (off := 4) (by decide +kernel)
theorem k194_21 : qx sc D 194 21 ls st u bb σ Q ↔ qx sc D 194 22 ls (vi 0 :: st) u bb σ Q := r_iconst (by decide +kernel)
theorem k194_22 : qx sc D 194 22 [l0, l1, l2, l3, l4, l5, l6, l7, l8, l9] (vi x :: st) u bb σ Q ↔ qx sc D 194 24 [l0, l1, l2, l3, vi x, l5, l6, l7, l8, l9] st u bb σ Q := r_istore (k := 4) (by decide +kernel) (Nat.le_of_ble_eq_true rfl)
theorem k194_24 : qx sc D 194 24 [vr a, l1, l2, l3, l4, l5, l6, l7, l8, l9] st u bb σ Q ↔ qx sc D 194 25 [vr a, l1, l2, l3, l4, l5, l6, l7, l8, l9] (vr a :: st) u bb σ Q := r_aload_n (k := 0) (by decide +kernel) rfl
theorem k194_25 : qx sc D 194 25 ls (vr 136 :: st) u bb σ Q ↔ qx sc D 194 28 ls (vr 165 :: st) u bb σ Q := r_getR (idx := 220) (c := 15) (k := 42) (by decide +kernel)
theorem k194_28 : qx sc D 194 28 ls st u bb σ Q ↔ qx sc D 194 29 ls (vi 2 :: st) u bb σ Q := r_iconst (by decide +kernel)
theorem k194_29 : qx sc D 194 29 [l0, l1, l2, vi x, l4, l5, l6, l7, l8, l9] st u bb σ Q ↔ qx sc D 194 30 [l0, l1, l2, vi x, l4, l5, l6, l7, l8, l9] (vi x :: st) u bb σ Q := r_iload_n (k := 3) (by decide +kernel) rfl
theorem k194_30 : qx sc D 194 30 ls (vi b' :: vi a' :: st) u bb σ Q ↔ q_R (a' * b') ∧ qx sc D 194 31 ls (vi (a' * b') :: st) u bb σ Q := r_imul (by decide +kernel)
theorem k194_31 : qx sc D 194 31 ls (vi i :: vr a :: st) u bb σ Q ↔ (q_ty a = 0 ∧ 0 ≤ i ∧ i < q_ln a) ∧ qx sc D 194 32 ls (vi (σ a i) :: st) u bb σ Q := r_iald (by decide +kernel)
theorem k194_32 : qx sc D 194 32 ls st u bb σ Q ↔ qx sc D 194 33 ls (vi 1 :: st) u bb σ Q := r_iconst (by decide +kernel)
theorem k194_33 : qx sc D 194 33 ls (vi b' :: vi a' :: st) u bb σ Q ↔ (a' = b' → qx sc D 194 36 ls st u bb σ Q) ∧ (¬ (a' = b') → qx sc D 194 57 ls st u bb σ Q) := r_ic_ne (off := 24) (t := 57) (by decide +kernel)
theorem k194_36 : qx sc D 194 36 [vr a, l1, l2, l3, l4, l5, l6, l7, l8, l9] st u bb σ Q ↔ qx sc D 194 37 [vr a, l1, l2, l3, l4, l5, l6, l7, l8, l9] (vr a :: st) u bb σ Q := r_aload_n (k := 0) (by decide +kernel) rfl
theorem k194_37 : qx sc D 194 37 ls (vr 136 :: st) u bb σ Q ↔ qx sc D 194 40 ls (vr 147 :: st) u bb σ Q := r_getR (idx := 33) (c := 15) (k := 24) (by decide +kernel)
theorem k194_40 : qx sc D 194 40 [l0, l1, vi x, l3, l4, l5, l6, l7, l8, l9] st u bb σ Q ↔ qx sc D 194 41 [l0, l1, vi x, l3, l4, l5, l6, l7, l8, l9] (vi x :: st) u bb σ Q := r_iload_n (k := 2) (by decide +kernel) rfl
theorem k194_41 : qx sc D 194 41 ls (vi i :: vr a :: st) u bb σ Q ↔ (q_ty a = 0 ∧ 0 ≤ i ∧ i < q_ln a) ∧ qx sc D 194 42 ls (vi (σ a i) :: st) u bb σ Q := r_iald (by decide +kernel)
theorem k194_42 : qx sc D 194 42 [vr a, l1, l2, l3, l4, l5, l6, l7, l8, l9] st u bb σ Q ↔ qx sc D 194 43 [vr a, l1, l2, l3, l4, l5, l6, l7, l8, l9] (vr a :: st) u bb σ Q := r_aload_n (k := 0) (by decide +kernel) rfl
theorem k194_43 : qx sc D 194 43 ls (vr 136 :: st) u bb σ Q ↔ qx sc D 194 46 ls (vr 166 :: st) u bb σ Q := r_getR (idx := 223) (c := 15) (k := 43) (by decide +kernel)
theorem k194_46 : qx sc D 194 46 ls st u bb σ Q ↔ qx sc D 194 47 ls (vi 2 :: st) u bb σ Q := r_iconst (by decide +kernel)
theorem k194_47 : qx sc D 194 47 [l0, l1, l2, vi x, l4, l5, l6, l7, l8, l9] st u bb σ Q ↔ qx sc D 194 48 [l0, l1, l2, vi x, l4, l5, l6, l7, l8, l9] (vi x :: st) u bb σ Q := r_iload_n (k := 3) (by decide +kernel) rfl
theorem k194_48 : qx sc D 194 48 ls (vi b' :: vi a' :: st) u bb σ Q ↔ q_R (a' * b') ∧ qx sc D 194 49 ls (vi (a' * b') :: st) u bb σ Q := r_imul (by decide +kernel)
theorem k194_49 : qx sc D 194 49 ls (vi i :: vr a :: st) u bb σ Q ↔ (q_ty a = 0 ∧ 0 ≤ i ∧ i < q_ln a) ∧ qx sc D 194 50 ls (vi (σ a i) :: st) u bb σ Q := r_iald (by decide +kernel)
theorem k194_50 : qx sc D 194 50 ls (vi b' :: vi a' :: st) u bb σ Q ↔ (a' = b' → qx sc D 194 53 ls st u bb σ Q) ∧ (¬ (a' = b') → qx sc D 194 57 ls st u bb σ Q) := r_ic_ne (off := 7) (t := 57) (by decide +kernel)
theorem k194_53 : qx sc D 194 53 ls st u bb σ Q ↔ qx sc D 194 54 ls (vi 1 :: st) u bb σ Q := r_iconst (by decide +kernel)
theorem k194_54 : qx sc D 194 54 ls st u bb σ Q ↔ qx sc D 194 58 ls st u bb σ Q := r_goto (off := 4) (by decide +kernel)
theorem k194_57 : qx sc D 194 57 ls st u bb σ Q ↔ qx sc D 194 58 ls (vi 0 :: st) u bb σ Q := r_iconst (by decide +kernel)
theorem k194_58 : qx sc D 194 58 [l0, l1, l2, l3, l4, l5, l6, l7, l8, l9] (vi x :: st) u bb σ Q ↔ qx sc D 194 60 [l0, l1, l2, l3, l4, vi x, l6, l7, l8, l9] st u bb σ Q := r_istore (k := 5) (by decide +kernel) (Nat.le_of_ble_eq_true rfl)
theorem k194_60 : qx sc D 194 60 [l0, l1, l2, l3, l4, vi x, l6, l7, l8, l9] st u bb σ Q ↔ qx sc D 194 62 [l0, l1, l2, l3, l4, vi x, l6, l7, l8, l9] (vi x :: st) u bb σ Q := r_iload (k := 5) (by decide +kernel) rfl
theorem k194_62 : qx sc D 194 62 ls (vi x :: st) u bb σ Q ↔ (x = 0 → qx sc D 194 73 ls st u bb σ Q) ∧ (¬ (x = 0) → qx sc D 194 65 ls st u bb σ Q) := r_if_eq (off := 11) (t := 73) (by decide +kernel)
theorem k194_65 : qx sc D 194 65 ls st u bb σ Q ↔ qx sc D 194 66 ls (vi 2 :: st) u bb σ Q := r_iconst (by decide +kernel)
theorem k194_66 : qx sc D 194 66 [l0, l1, l2, vi x, l4, l5, l6, l7, l8, l9] st u bb σ Q ↔ qx sc D 194 67 [l0, l1, l2, vi x, l4, l5, l6, l7, l8, l9] (vi x :: st) u bb σ Q := r_iload_n (k := 3) (by decide +kernel) rfl
theorem k194_67 : qx sc D 194 67 ls (vi b' :: vi a' :: st) u bb σ Q ↔ q_R (a' * b') ∧ qx sc D 194 68 ls (vi (a' * b') :: st) u bb σ Q := r_imul (by decide +kernel)
theorem k194_68 : qx sc D 194 68 ls st u bb σ Q ↔ qx sc D 194 69 ls (vi 1 :: st) u bb σ Q := r_iconst (by decide +kernel)
theorem k194_69 : qx sc D 194 69 ls (vi b' :: vi a' :: st) u bb σ Q ↔ q_R (a' + b') ∧ qx sc D 194 70 ls (vi (a' + b') :: st) u bb σ Q := r_iadd (by decide +kernel)
theorem k194_70 : qx sc D 194 70 ls st u bb σ Q ↔ qx sc D 194 76 ls st u bb σ Q := r_goto (off := 6) (by decide +kernel)
theorem k194_73 : qx sc D 194 73 ls st u bb σ Q ↔ qx sc D 194 74 ls (vi 2 :: st) u bb σ Q := r_iconst (by decide +kernel)
theorem k194_74 : qx sc D 194 74 [l0, l1, l2, vi x, l4, l5, l6, l7, l8, l9] st u bb σ Q ↔ qx sc D 194 75 [l0, l1, l2, vi x, l4, l5, l6, l7, l8, l9] (vi x :: st) u bb σ Q := r_iload_n (k := 3) (by decide +kernel) rfl
theorem k194_75 : qx sc D 194 75 ls (vi b' :: vi a' :: st) u bb σ Q ↔ q_R (a' * b') ∧ qx sc D 194 76 ls (vi (a' * b') :: st) u bb σ Q := r_imul (by decide +kernel)
theorem k194_76 : qx sc D 194 76 [l0, l1, l2, l3, l4, l5, l6, l7, l8, l9] (vi x :: st) u bb σ Q ↔ qx sc D 194 78 [l0, l1, l2, l3, l4, l5, vi x, l7, l8, l9] st u bb σ Q := r_istore (k := 6) (by decide +kernel) (Nat.le_of_ble_eq_true rfl)
theorem k194_78 : qx sc D 194 78 [vr a, l1, l2, l3, l4, l5, l6, l7, l8, l9] st u bb σ Q ↔ qx sc D 194 79 [vr a, l1, l2, l3, l4, l5, l6, l7, l8, l9] (vr a :: st) u bb σ Q := r_aload_n (k := 0) (by decide +kernel) rfl
theorem k194_79 : qx sc D 194 79 ls (vr 136 :: st) u bb σ Q ↔ qx sc D 194 82 ls (vr 164 :: st) u bb σ Q := r_getR (idx := 230) (c := 15) (k := 41) (by decide +kernel)
theorem k194_82 : qx sc D 194 82 [l0, l1, l2, vi x, l4, l5, l6, l7, l8, l9] st u bb σ Q ↔ qx sc D 194 83 [l0, l1, l2, vi x, l4, l5, l6, l7, l8, l9] (vi x :: st) u bb σ Q := r_iload_n (k := 3) (by decide +kernel) rfl
theorem k194_83 : qx sc D 194 83 ls (vi i :: vr a :: st) u bb σ Q ↔ (q_ty a = 0 ∧ 0 ≤ i ∧ i < q_ln a) ∧ qx sc D 194 84 ls (vi (σ a i) :: st) u bb σ Q := r_iald (by decide +kernel)
theorem k194_84 : qx sc D 194 84 [l0, l1, l2, l3, l4, l5, l6, l7, l8, l9] (vi x :: st) u bb σ Q ↔ qx sc D 194 86 [l0, l1, l2, l3, l4, l5, l6, vi x, l8, l9] st u bb σ Q := r_istore (k := 7) (by decide +kernel) (Nat.le_of_ble_eq_true rfl)
theorem k194_86 : qx sc D 194 86 [l0, l1, l2, l3, l4, l5, l6, vi x, l8, l9] st u bb σ Q ↔ qx sc D 194 88 [l0, l1, l2, l3, l4, l5, l6, vi x, l8, l9] (vi x :: st) u bb σ Q := r_iload (k := 7) (by decide +kernel) rfl
theorem k194_88 : qx sc D 194 88 ls st u bb σ Q ↔ qx sc D 194 89 ls (vi 2 :: st) u bb σ Q := r_iconst (by decide +kernel)
theorem k194_89 : qx sc D 194 89 ls (vi b' :: vi a' :: st) u bb σ Q ↔ (a' = b' → qx sc D 194 92 ls st u bb σ Q) ∧ (¬ (a' = b') → qx sc D 194 113 ls st u bb σ Q) := r_ic_ne (off := 24) (t := 113) (by decide +kernel)
theorem k194_92 : qx sc D 194 92 [l0, l1, l2, l3, vi x, l5, l6, l7, l8, l9] st u bb σ Q ↔ qx sc D 194 94 [l0, l1, l2, l3, vi x, l5, l6, l7, l8, l9] (vi x :: st) u bb σ Q := r_iload (k := 4) (by decide +kernel) rfl
theorem k194_94 : qx sc D 194 94 ls (vi x :: st) u bb σ Q ↔ (x = 0 → qx sc D 194 107 ls st u bb σ Q) ∧ (¬ (x = 0) → qx sc D 194 97 ls st u bb σ Q) := r_if_eq (off := 13) (t := 107) (by decide +kernel)
theorem k194_97 : qx sc D 194 97 [vr a, l1, l2, l3, l4, l5, l6, l7, l8, l9] st u bb σ Q ↔ qx sc D 194 98 [vr a, l1, l2, l3, l4, l5, l6, l7, l8, l9] (vr a :: st) u bb σ Q := r_aload_n (k := 0) (by decide +kernel) rfl
theorem k194_98 : qx sc D 194 98 [l0, vi x, l2, l3, l4, l5, l6, l7, l8, l9] st u bb σ Q ↔ qx sc D 194 99 [l0, vi x, l2, l3, l4, l5, l6, l7, l8, l9] (vi x :: st) u bb σ Q := r_iload_n (k := 1) (by decide +kernel) rfl
theorem k194_99 : qx sc D 194 99 [l0, l1, l2, l3, l4, l5, vi x, l7, l8, l9] st u bb σ Q ↔ qx sc D 194 101 [l0, l1, l2, l3, l4, l5, vi x, l7, l8, l9] (vi x :: st) u bb σ Q := r_iload (k := 6) (by decide +kernel) rfl
theorem k194_101 : qx sc (D + 1) 194 101 ls [vi x1, vi x0, vr 136] (0, 0) bb σ Q ↔ qx sc D 193 0 [vr 136, vi x0, vi x1, vn] [] (0, 0) bb σ (q_kn sc (D + 1) 194 104 ls [] (0, 0) Q) := r_callv (idx := 372) (n := 2) (m := 4) (by decide +kernel) rfl (Nat.le_of_ble_eq_true rfl) ⟨Nat.le_of_ble_eq_true rfl, Nat.le_of_ble_eq_true rfl, rfl⟩ rfl
theorem k194_104 : qx sc D 194 104 ls st u bb σ Q ↔ qx sc D 194 112 ls st u bb σ Q := r_goto (off := 8) (by decide +kernel)
theorem k194_107 : qx sc D 194 107 [vr a, l1, l2, l3, l4, l5, l6, l7, l8, l9] st u bb σ Q ↔ qx sc D 194 108 [vr a, l1, l2, l3, l4, l5, l6, l7, l8, l9] (vr a :: st) u bb σ Q := r_aload_n (k := 0) (by decide +kernel) rfl
theorem k194_108 : qx sc D 194 108 [l0, vi x, l2, l3, l4, l5, l6, l7, l8, l9] st u bb σ Q ↔ qx sc D 194 109 [l0, vi x, l2, l3, l4, l5, l6, l7, l8, l9] (vi x :: st) u bb σ Q := r_iload_n (k := 1) (by decide +kernel) rfl
theorem k194_109 : qx sc (D + 1) 194 109 ls [vi x0, vr 136] (0, 0) bb σ Q ↔ qx sc D 188 0 [vr 136, vi x0] [] (0, 0) bb σ (q_kn sc (D + 1) 194 112 ls [] (0, 0) Q) := r_callv (idx := 375) (n := 1) (m := 2) (by decide +kernel) rfl (Nat.le_of_ble_eq_true rfl) ⟨Nat.le_of_ble_eq_true rfl, Nat.le_of_ble_eq_true rfl, rfl⟩ rfl
theorem k194_112 : qx sc D 194 112 ls [vi x] (0, 0) bb σ Q ↔ Q (.inl (some (vi x))) bb σ := r_ret (by decide +kernel)
theorem k194_113 : qx sc D 194 113 [l0, l1, l2, l3, vi x, l5, l6, l7, l8, l9] st u bb σ Q ↔ qx sc D 194 115 [l0, l1, l2, l3, vi x, l5, l6, l7, l8, l9] (vi x :: st) u bb σ Q := r_iload (k := 4) (by decide +kernel) rfl
theorem k194_115 : qx sc D 194 115 [l0, l1, l2, l3, l4, vi x, l6, l7, l8, l9] st u bb σ Q ↔ qx sc D 194 117 [l0, l1, l2, l3, l4, vi x, l6, l7, l8, l9] (vi x :: st) u bb σ Q := r_iload (k := 5) (by decide +kernel) rfl
theorem k194_117 : qx sc D 194 117 ls (vi b' :: vi a' :: st) u bb σ Q ↔ (a' = b' → qx sc D 194 120 ls st u bb σ Q) ∧ (¬ (a' = b') → qx sc D 194 124 ls st u bb σ Q) := r_ic_ne (off := 7) (t := 124) (by decide +kernel)
theorem k194_120 : qx sc D 194 120 ls st u bb σ Q ↔ qx sc D 194 121 ls (vi 1 :: st) u bb σ Q := r_iconst (by decide +kernel)
theorem k194_121 : qx sc D 194 121 ls st u bb σ Q ↔ qx sc D 194 125 ls st u bb σ Q := r_goto (off := 4) (by decide +kernel)
theorem k194_124 : qx sc D 194 124 ls st u bb σ Q ↔ qx sc D 194 125 ls (vi 0 :: st) u bb σ Q := r_iconst (by decide +kernel)
theorem k194_125 : qx sc D 194 125 [l0, l1, l2, l3, l4, l5, l6, l7, l8, l9] (vi x :: st) u bb σ Q ↔ qx sc D 194 127 [l0, l1, l2, l3, l4, l5, l6, l7, vi x, l9] st u bb σ Q := r_istore (k := 8) (by decide +kernel) (Nat.le_of_ble_eq_true rfl)
theorem k194_127 : qx sc D 194 127 [l0, l1, l2, l3, l4, l5, l6, l7, vi x, l9] st u bb σ Q ↔ qx sc D 194 129 [l0, l1, l2, l3, l4, l5, l6, l7, vi x, l9] (vi x :: st) u bb σ Q := r_iload (k := 8) (by decide +kernel) rfl
theorem k194_129 : qx sc D 194 129 [l0, vi x, l2, l3, l4, l5, l6, l7, l8, l9] st u bb σ Q ↔ qx sc D 194 130 [l0, vi x, l2, l3, l4, l5, l6, l7, l8, l9] (vi x :: st) u bb σ Q := r_iload_n (k := 1) (by decide +kernel) rfl
theorem k194_130 : qx sc D 194 130 ls st u bb σ Q ↔ qx sc D 194 131 ls (vi 3 :: st) u bb σ Q := r_iconst (by decide +kernel)
theorem k194_131 : qx sc D 194 131 ls (vi b' :: vi a' :: st) u bb σ Q ↔ (a' = b' → qx sc D 194 134 ls st u bb σ Q) ∧ (¬ (a' = b') → qx sc D 194 138 ls st u bb σ Q) := r_ic_ne (off := 7) (t := 138) (by decide +kernel)
theorem k194_134 : qx sc D 194 134 ls st u bb σ Q ↔ qx sc D 194 135 ls (vi 1 :: st) u bb σ Q := r_iconst (by decide +kernel)
theorem k194_135 : qx sc D 194 135 ls st u bb σ Q ↔ qx sc D 194 139 ls st u bb σ Q := r_goto (off := 4) (by decide +kernel)
theorem k194_138 : qx sc D 194 138 ls st u bb σ Q ↔ qx sc D 194 139 ls (vi 0 :: st) u bb σ Q := r_iconst (by decide +kernel)
theorem k194_139 : qx sc D 194 139 ls (vi b' :: vi a' :: st) u bb σ Q ↔ (a' = b' → qx sc D 194 142 ls st u bb σ Q) ∧ (¬ (a' = b') → qx sc D 194 148 ls st u bb σ Q) := r_ic_ne (off := 9) (t := 148) (by decide +kernel)
theorem k194_142 : qx sc D 194 142 [vr a, l1, l2, l3, l4, l5, l6, l7, l8, l9] st u bb σ Q ↔ qx sc D 194 143 [vr a, l1, l2, l3, l4, l5, l6, l7, l8, l9] (vr a :: st) u bb σ Q := r_aload_n (k := 0) (by decide +kernel) rfl
theorem k194_143 : qx sc D 194 143 [l0, vi x, l2, l3, l4, l5, l6, l7, l8, l9] st u bb σ Q ↔ qx sc D 194 144 [l0, vi x, l2, l3, l4, l5, l6, l7, l8, l9] (vi x :: st) u bb σ Q := r_iload_n (k := 1) (by decide +kernel) rfl
theorem k194_144 : qx sc (D + 1) 194 144 ls [vi x0, vr 136] (0, 0) bb σ Q ↔ qx sc D 188 0 [vr 136, vi x0] [] (0, 0) bb σ (q_kn sc (D + 1) 194 147 ls [] (0, 0) Q) := r_callv (idx := 375) (n := 1) (m := 2) (by decide +kernel) rfl (Nat.le_of_ble_eq_true rfl) ⟨Nat.le_of_ble_eq_true rfl, Nat.le_of_ble_eq_true rfl, rfl⟩ rfl
theorem k194_147 : qx sc D 194 147 ls [vi x] (0, 0) bb σ Q ↔ Q (.inl (some (vi x))) bb σ := r_ret (by decide +kernel)
theorem k194_148 : qx sc D 194 148 [l0, l1, l2, l3, l4, l5, l6, vi x, l8, l9] st u bb σ Q ↔ qx sc D 194 150 [l0, l1, l2, l3, l4, l5, l6, vi x, l8, l9] (vi x :: st) u bb σ Q := r_iload (k := 7) (by decide +kernel) rfl
theorem k194_150 : qx sc D 194 150 ls (vi x :: st) u bb σ Q ↔ (x = 0 → qx sc D 194 153 ls st u bb σ Q) ∧ (¬ (x = 0) → qx sc D 194 157 ls st u bb σ Q) := r_if_ne (off := 7) (t := 157) (by decide +kernel)
theorem k194_153 : qx sc D 194 153 ls st u bb σ Q ↔ qx sc D 194 154 ls (vi 1 :: st) u bb σ Q := r_iconst (by decide +kernel)
theorem k194_154 : qx sc D 194 154 ls st u bb σ Q ↔ qx sc D 194 158 ls st u bb σ Q := r_goto (off := 4) (by decide +kernel)
theorem k194_157 : qx sc D 194 157 ls st u bb σ Q ↔ qx sc D 194 158 ls (vi 0 :: st) u bb σ Q := r_iconst (by decide +kernel)
theorem k194_158 : qx sc D 194 158 [l0, l1, l2, l3, vi x, l5, l6, l7, l8, l9] st u bb σ Q ↔ qx sc D 194 160 [l0, l1, l2, l3, vi x, l5, l6, l7, l8, l9] (vi x :: st) u bb σ Q := r_iload (k := 4) (by decide +kernel) rfl
theorem k194_160 : qx sc D 194 160 ls (vi b' :: vi a' :: st) u bb σ Q ↔ (a' = b' → qx sc D 194 163 ls st u bb σ Q) ∧ (¬ (a' = b') → qx sc D 194 167 ls st u bb σ Q) := r_ic_ne (off := 7) (t := 167) (by decide +kernel)
theorem k194_163 : qx sc D 194 163 ls st u bb σ Q ↔ qx sc D 194 164 ls (vi 1 :: st) u bb σ Q := r_iconst (by decide +kernel)
theorem k194_164 : qx sc D 194 164 ls st u bb σ Q ↔ qx sc D 194 168 ls st u bb σ Q := r_goto (off := 4) (by decide +kernel)
theorem k194_167 : qx sc D 194 167 ls st u bb σ Q ↔ qx sc D 194 168 ls (vi 0 :: st) u bb σ Q := r_iconst (by decide +kernel)
theorem k194_168 : qx sc D 194 168 [l0, l1, l2, l3, l4, l5, l6, l7, l8, l9] (vi x :: st) u bb σ Q ↔ qx sc D 194 170 [l0, l1, l2, l3, l4, l5, l6, l7, l8, vi x] st u bb σ Q := r_istore (k := 9) (by decide +kernel) (Nat.le_of_ble_eq_true rfl)
theorem k194_170 : qx sc D 194 170 [vr a, l1, l2, l3, l4, l5, l6, l7, l8, l9] st u bb σ Q ↔ qx sc D 194 171 [vr a, l1, l2, l3, l4, l5, l6, l7, l8, l9] (vr a :: st) u bb σ Q := r_aload_n (k := 0) (by decide +kernel) rfl
theorem k194_171 : qx sc D 194 171 [l0, vi x, l2, l3, l4, l5, l6, l7, l8, l9] st u bb σ Q ↔ qx sc D 194 172 [l0, vi x, l2, l3, l4, l5, l6, l7, l8, l9] (vi x :: st) u bb σ Q := r_iload_n (k := 1) (by decide +kernel) rfl
theorem k194_172 : qx sc D 194 172 [l0, l1, l2, l3, l4, l5, vi x, l7, l8, l9] st u bb σ Q ↔ qx sc D 194 174 [l0, l1, l2, l3, l4, l5, vi x, l7, l8, l9] (vi x :: st) u bb σ Q := r_iload (k := 6) (by decide +kernel) rfl
theorem k194_174 : qx sc (D + 1) 194 174 ls [vi x1, vi x0, vr 136] (0, 0) bb σ Q ↔ qx sc D 193 0 [vr 136, vi x0, vi x1, vn] [] (0, 0) bb σ (q_kn sc (D + 1) 194 177 ls [] (0, 0) Q) := r_callv (idx := 372) (n := 2) (m := 4) (by decide +kernel) rfl (Nat.le_of_ble_eq_true rfl) ⟨Nat.le_of_ble_eq_true rfl, Nat.le_of_ble_eq_true rfl, rfl⟩ rfl
theorem k194_177 : qx sc D 194 177 [l0, l1, l2, l3, l4, l5, l6, l7, l8, vi x] st u bb σ Q ↔ qx sc D 194 179 [l0, l1, l2, l3, l4, l5, l6, l7, l8, vi x] (vi x :: st) u bb σ Q := r_iload (k := 9) (by decide +kernel) rfl
theorem k194_179 : qx sc D 194 179 ls (vi x :: st) u bb σ Q ↔ (x = 0 → qx sc D 194 182 ls st u bb σ Q) ∧ (¬ (x = 0) → qx sc D 194 186 ls st u bb σ Q) := r_if_ne (off := 7) (t := 186) (by decide +kernel)
theorem k194_182 : qx sc D 194 182 ls st u bb σ Q ↔ qx sc D 194 183 ls (vi 0 :: st) u bb σ Q := r_iconst (by decide +kernel)
theorem k194_183 : qx sc D 194 183 ls st u bb σ Q ↔ qx sc D 194 196 ls st u bb σ Q := r_goto (off := 13) (by decide +kernel)
theorem k194_186 : qx sc D 194 186 [l0, vi x, l2, l3, l4, l5, l6, l7, l8, l9] st u bb σ Q ↔ qx sc D 194 187 [l0, vi x, l2, l3, l4, l5, l6, l7, l8, l9] (vi x :: st) u bb σ Q := r_iload_n (k := 1) (by decide +kernel) rfl
theorem k194_187 : qx sc D 194 187 ls st u bb σ Q ↔ qx sc D 194 188 ls (vi 3 :: st) u bb σ Q := r_iconst (by decide +kernel)
theorem k194_188 : qx sc D 194 188 ls (vi b' :: vi a' :: st) u bb σ Q ↔ (a' = b' → qx sc D 194 191 ls st u bb σ Q) ∧ (¬ (a' = b') → qx sc D 194 195 ls st u bb σ Q) := r_ic_ne (off := 7) (t := 195) (by decide +kernel)
theorem k194_191 : qx sc D 194 191 ls st u bb σ Q ↔ qx sc D 194 192 ls (vi 1 :: st) u bb σ Q := r_iconst (by decide +kernel)
theorem k194_192 : qx sc D 194 192 ls st u bb σ Q ↔ qx sc D 194 196 ls st u bb σ Q := r_goto (off := 4) (by decide +kernel)
theorem k194_195 : qx sc D 194 195 ls st u bb σ Q ↔ qx sc D 194 196 ls (vi (-1) :: st) u bb σ Q := r_iconst (by decide +kernel)
theorem k194_196 : qx sc (D + 1) 194 196 ls [vi x1, vi x0] (0, 0) bb σ Q ↔ qx sc D 182 0 [vi x0, vi x1] [] (0, 0) bb σ (q_kn sc (D + 1) 194 199 ls [] (0, 0) Q) := r_calls (idx := 378) (n := 2) (m := 2) (by decide +kernel) rfl (Nat.le_of_ble_eq_true rfl) ⟨Nat.le_of_ble_eq_true rfl, Nat.le_of_ble_eq_true rfl, rfl⟩ rfl
theorem k194_199 : qx sc D 194 199 ls [vi x] (0, 0) bb σ Q ↔ Q (.inl (some (vi x))) bb σ := r_ret (by decide +kernel)
-- 195: RowProverModel.ofValue(II)I
theorem k195_0 : qx sc D 195 0 [vr a, l1, l2] st u bb σ Q ↔ qx sc D 195 1 [vr a, l1, l2] (vr a :: st) u bb σ Q := r_aload_n (k := 0) (by decide +kernel) rfl
theorem k195_1 : qx sc D 195 1 ls (vr 136 :: st) u bb σ Q ↔ qx sc D 195 4 ls (vr 152 :: st) u bb σ Q := r_getR (idx := 48) (c := 15) (k := 29) (by decide +kernel)
theorem k195_4 : qx sc D 195 4 [l0, l1, vi x] st u bb σ Q ↔ qx sc D 195 5 [l0, l1, vi x] (vi x :: st) u bb σ Q := r_iload_n (k := 2) (by decide +kernel) rfl
theorem k195_5 : qx sc D 195 5 ls (vi i :: vr a :: st) u bb σ Q ↔ (q_ty a = 0 ∧ 0 ≤ i ∧ i < q_ln a) ∧ qx sc D 195 6 ls (vi (σ a i) :: st) u bb σ Q := r_iald (by decide +kernel)
theorem k195_6 : qx sc D 195 6 ls (vi x :: st) u bb σ Q ↔ qx sc D 195 (if x < 0 ∨ 2 < x then 77 else [32, 44, 65].getD (x - 0).toNat 0) ls st u bb σ Q := r_tsw (d := 71) (lo := 0) (hi := 2) (offs := #[26, 38, 59]) (dt := 77) (tg := [32, 44, 65]) (by decide +kernel)
theorem k195_32 : qx sc D 195 32 [vr a, l1, l2] st u bb σ Q ↔ qx sc D 195 33 [vr a, l1, l2] (vr a :: st) u bb σ Q := r_aload_n (k := 0) (by decide +kernel) rfl
theorem k195_33 : qx sc D 195 33 [l0, vi x, l2] st u bb σ Q ↔ qx sc D 195 34 [l0, vi x, l2] (vi x :: st) u bb σ Q := r_iload_n (k := 1) (by decide +kernel) rfl
theorem k195_34 : qx sc D 195 34 [vr a, l1, l2] st u bb σ Q ↔ qx sc D 195 35 [vr a, l1, l2] (vr a :: st) u bb σ Q := r_aload_n (k := 0) (by decide +kernel) rfl
theorem k195_35 : qx sc D 195 35 ls (vr 136 :: st) u bb σ Q ↔ qx sc D 195 38 ls (vr 154 :: st) u bb σ Q := r_getR (idx := 54) (c := 15) (k := 31) (by decide +kernel)
theorem k195_38 : qx sc D 195 38 [l0, l1, vi x] st u bb σ Q ↔ qx sc D 195 39 [l0, l1, vi x] (vi x :: st) u bb σ Q := r_iload_n (k := 2) (by decide +kernel) rfl
theorem k195_39 : qx sc D 195 39 ls (vi i :: vr a :: st) u bb σ Q ↔ (q_ty a = 0 ∧ 0 ≤ i ∧ i < q_ln a) ∧ qx sc D 195 40 ls (vi (σ a i) :: st) u bb σ Q := r_iald (by decide +kernel)
theorem k195_40 : qx sc (D + 1) 195 40 ls [vi x1, vi x0, vr 136] (0, 0) bb σ Q ↔ qx sc D 192 0 [vr 136, vi x0, vi x1] [] (0, 0) bb σ (q_kn sc (D + 1) 195 43 ls [] (0, 0) Q) := r_callv (idx := 363) (n := 2) (m := 3) (by decide +kernel) rfl (Nat.le_of_ble_eq_true rfl) ⟨Nat.le_of_ble_eq_true rfl, Nat.le_of_ble_eq_true rfl, rfl⟩ rfl
theorem k195_43 : qx sc D 195 43 ls [vi x] (0, 0) bb σ Q ↔ Q (.inl (some (vi x))) bb σ := r_ret (by decide +kernel)
theorem k195_44 : qx sc D 195 44 [vr a, l1, l2] st u bb σ Q ↔ qx sc D 195 45 [vr a, l1, l2] (vr a :: st) u bb σ Q := r_aload_n (k := 0) (by decide +kernel) rfl
theorem k195_45 : qx sc D 195 45 [l0, vi x, l2] st u bb σ Q ↔ qx sc D 195 46 [l0, vi x, l2] (vi x :: st) u bb σ Q := r_iload_n (k := 1) (by decide +kernel) rfl
theorem k195_46 : qx sc D 195 46 [vr a, l1, l2] st u bb σ Q ↔ qx sc D 195 47 [vr a, l1, l2] (vr a :: st) u bb σ Q := r_aload_n (k := 0) (by decide +kernel) rfl
theorem k195_47 : qx sc D 195 47 ls (vr 136 :: st) u bb σ Q ↔ qx sc D 195 50 ls (vr 150 :: st) u bb σ Q := r_getR (idx := 42) (c := 15) (k := 27) (by decide +kernel)
theorem k195_50 : qx sc D 195 50 [l0, l1, vi x] st u bb σ Q ↔ qx sc D 195 51 [l0, l1, vi x] (vi x :: st) u bb σ Q := r_iload_n (k := 2) (by decide +kernel) rfl
theorem k195_51 : qx sc D 195 51 ls (vi i :: vr a :: st) u bb σ Q ↔ (q_ty a = 0 ∧ 0 ≤ i ∧ i < q_ln a) ∧ qx sc D 195 52 ls (vi (σ a i) :: st) u bb σ Q := r_iald (by decide +kernel)
theorem k195_52 : qx sc (D + 1) 195 52 ls [vi x1, vi x0, vr 136] (0, 0) bb σ Q ↔ qx sc D 133 0 [vr 136, vi x0, vi x1] [] (0, 0) bb σ (q_kn sc (D + 1) 195 55 ls [] (0, 0) Q) := r_callv (idx := 369) (n := 2) (m := 3) (by decide +kernel) rfl (Nat.le_of_ble_eq_true rfl) ⟨Nat.le_of_ble_eq_true rfl, Nat.le_of_ble_eq_true rfl, rfl⟩ rfl
theorem k195_55 : qx sc D 195 55 [vr a, l1, l2] st u bb σ Q ↔ qx sc D 195 56 [vr a, l1, l2] (vr a :: st) u bb σ Q := r_aload_n (k := 0) (by decide +kernel) rfl
theorem k195_56 : qx sc D 195 56 ls (vr 136 :: st) u bb σ Q ↔ qx sc D 195 59 ls (vr 154 :: st) u bb σ Q := r_getR (idx := 54) (c := 15) (k := 31) (by decide +kernel)
theorem k195_59 : qx sc D 195 59 [l0, l1, vi x] st u bb σ Q ↔ qx sc D 195 60 [l0, l1, vi x] (vi x :: st) u bb σ Q := r_iload_n (k := 2) (by decide +kernel) rfl
theorem k195_60 : qx sc D 195 60 ls (vi i :: vr a :: st) u bb σ Q ↔ (q_ty a = 0 ∧ 0 ≤ i ∧ i < q_ln a) ∧ qx sc D 195 61 ls (vi (σ a i) :: st) u bb σ Q := r_iald (by decide +kernel)
theorem k195_61 : qx sc (D + 1) 195 61 ls [vi x1, vi x0] (0, 0) bb σ Q ↔ qx sc D 182 0 [vi x0, vi x1] [] (0, 0) bb σ (q_kn sc (D + 1) 195 64 ls [] (0, 0) Q) := r_calls (idx := 378) (n := 2) (m := 2) (by decide +kernel) rfl (Nat.le_of_ble_eq_true rfl) ⟨Nat.le_of_ble_eq_true rfl, Nat.le_of_ble_eq_true rfl, rfl⟩ rfl
theorem k195_64 : qx sc D 195 64 ls [vi x] (0, 0) bb σ Q ↔ Q (.inl (some (vi x))) bb σ := r_ret (by decide +kernel)
theorem k195_65 : qx sc D 195 65 [vr a, l1, l2] st u bb σ Q ↔ qx sc D 195 66 [vr a, l1, l2] (vr a :: st) u bb σ Q := r_aload_n (k := 0) (by decide +kernel) rfl
theorem k195_66 : qx sc D 195 66 [l0, vi x, l2] st u bb σ Q ↔ qx sc D 195 67 [l0, vi x, l2] (vi x :: st) u bb σ Q := r_iload_n (k := 1) (by decide +kernel) rfl
theorem k195_67 : qx sc D 195 67 [vr a, l1, l2] st u bb σ Q ↔ qx sc D 195 68 [vr a, l1, l2] (vr a :: st) u bb σ Q := r_aload_n (k := 0) (by decide +kernel) rfl
theorem k195_68 : qx sc D 195 68 ls (vr 136 :: st) u bb σ Q ↔ qx sc D 195 71 ls (vr 153 :: st) u bb σ Q := r_getR (idx := 51) (c := 15) (k := 30) (by decide +kernel)
theorem k195_71 : qx sc D 195 71 [l0, l1, vi x] st u bb σ Q ↔ qx sc D 195 72 [l0, l1, vi x] (vi x :: st) u bb σ Q := r_iload_n (k := 2) (by decide +kernel) rfl
theorem k195_72 : qx sc D 195 72 ls (vi i :: vr a :: st) u bb σ Q ↔ (q_ty a = 0 ∧ 0 ≤ i ∧ i < q_ln a) ∧ qx sc D 195 73 ls (vi (σ a i) :: st) u bb σ Q := r_iald (by decide +kernel)
theorem k195_73 : qx sc (D + 1) 195 73 ls [vi x1, vi x0, vr 136] (0, 0) bb σ Q ↔ qx sc D 191 0 [vr 136, vi x0, vi x1] [] (0, 0) bb σ (q_kn sc (D + 1) 195 76 ls [] (0, 0) Q) := r_callv (idx := 366) (n := 2) (m := 3) (by decide +kernel) rfl (Nat.le_of_ble_eq_true rfl) ⟨Nat.le_of_ble_eq_true rfl, Nat.le_of_ble_eq_true rfl, rfl⟩ rfl
theorem k195_76 : qx sc D 195 76 ls [vi x] (0, 0) bb σ Q ↔ Q (.inl (some (vi x))) bb σ := r_ret (by decide +kernel)
theorem k195_77 : qx sc D 195 77 [vr a, l1, l2] st u bb σ Q ↔ qx sc D 195 78 [vr a, l1, l2] (vr a :: st) u bb σ Q := r_aload_n (k := 0) (by decide +kernel) rfl
theorem k195_78 : qx sc D 195 78 [l0, vi x, l2] st u bb σ Q ↔ qx sc D 195 79 [l0, vi x, l2] (vi x :: st) u bb σ Q := r_iload_n (k := 1) (by decide +kernel) rfl
theorem k195_79 : qx sc (D + 1) 195 79 ls [vi x0, vr 136] (0, 0) bb σ Q ↔ qx sc D 188 0 [vr 136, vi x0] [] (0, 0) bb σ (q_kn sc (D + 1) 195 82 ls [] (0, 0) Q) := r_callv (idx := 375) (n := 1) (m := 2) (by decide +kernel) rfl (Nat.le_of_ble_eq_true rfl) ⟨Nat.le_of_ble_eq_true rfl, Nat.le_of_ble_eq_true rfl, rfl⟩ rfl
theorem k195_82 : qx sc D 195 82 ls [vi x] (0, 0) bb σ Q ↔ Q (.inl (some (vi x))) bb σ := r_ret (by decide +kernel)
-- 196: RowProverModel.out(I)V
theorem k196_0 : qx sc D 196 0 [vr a, l1, l2, l3, l4] st u bb σ Q ↔ qx sc D 196 1 [vr a, l1, l2, l3, l4] (vr a :: st) u bb σ Q := r_aload_n (k := 0) (by decide +kernel) rfl
theorem k196_1 : qx sc (D + 1) 196 1 ls [vr 136] (0, 0) bb σ Q ↔ qx sc D 228 0 [vr 136] [] (0, 0) bb σ (q_kn sc (D + 1) 196 4 ls [] (0, 0) Q) := r_callv (idx := 183) (n := 0) (m := 1) (by decide +kernel) rfl (Nat.le_of_ble_eq_true rfl) ⟨Nat.le_of_ble_eq_true rfl, Nat.le_of_ble_eq_true rfl, rfl⟩ rfl
theorem k196_4 : qx sc D 196 4 [l0, l1, l2, l3, l4] (vi x :: st) u bb σ Q ↔ qx sc D 196 5 [l0, l1, vi x, l3, l4] st u bb σ Q := r_istore_n (k := 2) (by decide +kernel) (Nat.le_of_ble_eq_true rfl)
theorem k196_5 : qx sc D 196 5 [vr a, l1, l2, l3, l4] st u bb σ Q ↔ qx sc D 196 6 [vr a, l1, l2, l3, l4] (vr a :: st) u bb σ Q := r_aload_n (k := 0) (by decide +kernel) rfl
theorem k196_6 : qx sc D 196 6 ls st u bb σ Q ↔ qx sc D 196 8 ls (vi 59 :: st) u bb σ Q := r_bipush (by decide +kernel)
theorem k196_8 : qx sc (D + 1) 196 8 ls [vi x0, vr 136] (0, 0) bb σ Q ↔ qx sc D 127 0 [vr 136, vi x0] [] (0, 0) bb σ (q_kn sc (D + 1) 196 11 ls [] (0, 0) Q) := r_callv (idx := 135) (n := 1) (m := 2) (by decide +kernel) rfl (Nat.le_of_ble_eq_true rfl) ⟨Nat.le_of_ble_eq_true rfl, Nat.le_of_ble_eq_true rfl, rfl⟩ rfl
theorem k196_11 : qx sc D 196 11 [vr a, l1, l2, l3, l4] st u bb σ Q ↔ qx sc D 196 12 [vr a, l1, l2, l3, l4] (vr a :: st) u bb σ Q := r_aload_n (k := 0) (by decide +kernel) rfl
theorem k196_12 : qx sc D 196 12 ls (vr 136 :: st) u bb σ Q ↔ qx sc D 196 15 ls (vr 143 :: st) u bb σ Q := r_getR (idx := 151) (c := 15) (k := 20) (by decide +kernel)
theorem k196_15 : qx sc D 196 15 [l0, vi x, l2, l3, l4] st u bb σ Q ↔ qx sc D 196 16 [l0, vi x, l2, l3, l4] (vi x :: st) u bb σ Q := r_iload_n (k := 1) (by decide +kernel) rfl
theorem k196_16 : qx sc D 196 16 [l0, l1, vi x, l3, l4] st u bb σ Q ↔ qx sc D 196 17 [l0, l1, vi x, l3, l4] (vi x :: st) u bb σ Q := r_iload_n (k := 2) (by decide +kernel) rfl
theorem k196_17 : qx sc D 196 17 ls (vi x :: vi i :: vr a :: st) u bb σ Q ↔ (q_ty a = 0 ∧ 0 ≤ i ∧ i < q_ln a) ∧ qx sc D 196 18 ls st u bb (q_up σ a i x) Q := r_iast (by decide +kernel)
theorem k196_18 : qx sc D 196 18 [vr a, l1, l2, l3, l4] st u bb σ Q ↔ qx sc D 196 19 [vr a, l1, l2, l3, l4] (vr a :: st) u bb σ Q := r_aload_n (k := 0) (by decide +kernel) rfl
theorem k196_19 : qx sc D 196 19 ls st u bb σ Q ↔ qx sc D 196 20 ls (vi 0 :: st) u bb σ Q := r_iconst (by decide +kernel)
theorem k196_20 : qx sc D 196 20 [l0, vi x, l2, l3, l4] st u bb σ Q ↔ qx sc D 196 21 [l0, vi x, l2, l3, l4] (vi x :: st) u bb σ Q := r_iload_n (k := 1) (by decide +kernel) rfl
theorem k196_21 : qx sc D 196 21 ls st u bb σ Q ↔ qx sc D 196 22 ls (vi 0 :: st) u bb σ Q := r_iconst (by decide +kernel)
theorem k196_22 : qx sc (D + 1) 196 22 ls [vi x2, vi x1, vi x0, vr 136] (0, 0) bb σ Q ↔ qx sc D 172 0 [vr 136, vi x0, vi x1, vi x2] [] (0, 0) bb σ (q_kn sc (D + 1) 196 25 ls [] (0, 0) Q) := r_callv (idx := 186) (n := 3) (m := 4) (by decide +kernel) rfl (Nat.le_of_ble_eq_true rfl) ⟨Nat.le_of_ble_eq_true rfl, Nat.le_of_ble_eq_true rfl, rfl⟩ rfl
theorem k196_25 : qx sc D 196 25 [l0, l1, l2, l3, l4] (vi x :: st) u bb σ Q ↔ qx sc D 196 26 [l0, l1, l2, vi x, l4] st u bb σ Q := r_istore_n (k := 3) (by decide +kernel) (Nat.le_of_ble_eq_true rfl)
theorem k196_26 : qx sc D 196 26 [vr a, l1, l2, l3, l4] st u bb σ Q ↔ qx sc D 196 27 [vr a, l1, l2, l3, l4] (vr a :: st) u bb σ Q := r_aload_n (k := 0) (by decide +kernel) rfl
theorem k196_27 : qx sc D 196 27 ls st u bb σ Q ↔ qx sc D 196 28 ls (vi 4 :: st) u bb σ Q := r_iconst (by decide +kernel)
theorem k196_28 : qx sc D 196 28 [l0, l1, vi x, l3, l4] st u bb σ Q ↔ qx sc D 196 29 [l0, l1, vi x, l3, l4] (vi x :: st) u bb σ Q := r_iload_n (k := 2) (by decide +kernel) rfl
theorem k196_29 : qx sc D 196 29 ls st u bb σ Q ↔ qx sc D 196 30 ls (vi 0 :: st) u bb σ Q := r_iconst (by decide +kernel)
theorem k196_30 : qx sc (D + 1) 196 30 ls [vi x2, vi x1, vi x0, vr 136] (0, 0) bb σ Q ↔ qx sc D 172 0 [vr 136, vi x0, vi x1, vi x2] [] (0, 0) bb σ (q_kn sc (D + 1) 196 33 ls [] (0, 0) Q) := r_callv (idx := 186) (n := 3) (m := 4) (by decide +kernel) rfl (Nat.le_of_ble_eq_true rfl) ⟨Nat.le_of_ble_eq_true rfl, Nat.le_of_ble_eq_true rfl, rfl⟩ rfl
theorem k196_33 : qx sc D 196 33 [l0, l1, l2, l3, l4] (vi x :: st) u bb σ Q ↔ qx sc D 196 35 [l0, l1, l2, l3, vi x] st u bb σ Q := r_istore (k := 4) (by decide +kernel) (Nat.le_of_ble_eq_true rfl)
theorem k196_35 : qx sc D 196 35 ls [] (0, 0) bb σ Q ↔ Q (.inl none) bb σ := r_retV (by decide +kernel)
-- 197: RowProverModel.out(II)I
theorem k197_0 : qx sc D 197 0 [vr a, l1, l2] st u bb σ Q ↔ qx sc D 197 1 [vr a, l1, l2] (vr a :: st) u bb σ Q := r_aload_n (k := 0) (by decide +kernel) rfl
theorem k197_1 : qx sc D 197 1 ls st u bb σ Q ↔ qx sc D 197 2 ls (vi 0 :: st) u bb σ Q := r_iconst (by decide +kernel)
theorem k197_2 : qx sc D 197 2 ls (vi x :: vr 136 :: st) u bb σ Q ↔ qx sc D 197 5 ls st u bb (q_up σ 136 0 x) Q := r_putI (idx := 3) (c := 15) (k := 0) (by decide +kernel)
theorem k197_5 : qx sc D 197 5 [vr a, l1, l2] st u bb σ Q ↔ qx sc D 197 6 [vr a, l1, l2] (vr a :: st) u bb σ Q := r_aload_n (k := 0) (by decide +kernel) rfl
theorem k197_6 : qx sc D 197 6 [l0, vi x, l2] st u bb σ Q ↔ qx sc D 197 7 [l0, vi x, l2] (vi x :: st) u bb σ Q := r_iload_n (k := 1) (by decide +kernel) rfl
theorem k197_7 : qx sc (D + 1) 197 7 ls [vi x0, vr 136] (0, 0) bb σ Q ↔ qx sc D 185 0 [vr 136, vi x0] [] (0, 0) bb σ (q_kn sc (D + 1) 197 10 ls [] (0, 0) Q) := r_callv (idx := 505) (n := 1) (m := 2) (by decide +kernel) rfl (Nat.le_of_ble_eq_true rfl) ⟨Nat.le_of_ble_eq_true rfl, Nat.le_of_ble_eq_true rfl, rfl⟩ rfl
theorem k197_10 : qx sc D 197 10 ls (vi x :: st) u bb σ Q ↔ (x = 0 → qx sc D 197 15 ls st u bb σ Q) ∧ (¬ (x = 0) → qx sc D 197 13 ls st u bb σ Q) := r_if_eq (off := 5) (t := 15) (by decide +kernel)
theorem k197_13 : qx sc D 197 13 ls st u bb σ Q ↔ qx sc D 197 14 ls (vi 0 :: st) u bb σ Q := r_iconst (by decide +kernel)
theorem k197_14 : qx sc D 197 14 ls [vi x] (0, 0) bb σ Q ↔ Q (.inl (some (vi x))) bb σ := r_ret (by decide +kernel)
theorem k197_15 : qx sc D 197 15 [vr a, l1, l2] st u bb σ Q ↔ qx sc D 197 16 [vr a, l1, l2] (vr a :: st) u bb σ Q := r_aload_n (k := 0) (by decide +kernel) rfl
theorem k197_16 : qx sc D 197 16 [l0, vi x, l2] st u bb σ Q ↔ qx sc D 197 17 [l0, vi x, l2] (vi x :: st) u bb σ Q := r_iload_n (k := 1) (by decide +kernel) rfl
theorem k197_17 : qx sc (D + 1) 197 17 ls [vi x0, vr 136] (0, 0) bb σ Q ↔ qx sc D 209 0 [vr 136, vi x0, vn] [] (0, 0) bb σ (q_kn sc (D + 1) 197 20 ls [] (0, 0) Q) := r_callv (idx := 508) (n := 1) (m := 3) (by decide +kernel) rfl (Nat.le_of_ble_eq_true rfl) ⟨Nat.le_of_ble_eq_true rfl, Nat.le_of_ble_eq_true rfl, rfl⟩ rfl
theorem k197_20 : qx sc D 197 20 [vr a, l1, l2] st u bb σ Q ↔ qx sc D 197 21 [vr a, l1, l2] (vr a :: st) u bb σ Q := r_aload_n (k := 0) (by decide +kernel) rfl
theorem k197_21 : qx sc D 197 21 [l0, l1, vi x] st u bb σ Q ↔ qx sc D 197 22 [l0, l1, vi x] (vi x :: st) u bb σ Q := r_iload_n (k := 2) (by decide +kernel) rfl
theorem k197_22 : qx sc D 197 22 ls st u bb σ Q ↔ qx sc D 197 23 ls (vi 0 :: st) u bb σ Q := r_iconst (by decide +kernel)
theorem k197_23 : qx sc D 197 23 [vr a, l1, l2] st u bb σ Q ↔ qx sc D 197 24 [vr a, l1, l2] (vr a :: st) u bb σ Q := r_aload_n (k := 0) (by decide +kernel) rfl
theorem k197_24 : qx sc D 197 24 ls (vr 136 :: st) u bb σ Q ↔ qx sc D 197 27 ls (vi (σ 136 73) :: st) u bb σ Q := r_getI (idx := 477) (c := 15) (k := 73) (by decide +kernel)
theorem k197_27 : qx sc D 197 27 ls st u bb σ Q ↔ qx sc D 197 28 ls (vi 1 :: st) u bb σ Q := r_iconst (by decide +kernel)
theorem k197_28 : qx sc D 197 28 ls (vi b' :: vi a' :: st) u bb σ Q ↔ q_R (a' - b') ∧ qx sc D 197 29 ls (vi (a' - b') :: st) u bb σ Q := r_isub (by decide +kernel)
theorem k197_29 : qx sc (D + 1) 197 29 ls [vi x2, vi x1, vi x0, vr a20] (0, 0) bb σ Q ↔ qx sc D 157 0 [vi x0, vi x1, vi x2] [] (0, 0) bb σ (q_kn sc (D + 1) 197 32 ls [vr a20] (0, 0) Q) := r_calls (idx := 498) (n := 3) (m := 3) (by decide +kernel) rfl (Nat.le_of_ble_eq_true rfl) ⟨Nat.le_of_ble_eq_true rfl, Nat.le_of_ble_eq_true rfl, rfl⟩ rfl
theorem k197_32 : qx sc D 197 32 ls (vi x :: st) u bb σ Q ↔ (x = 0 → qx sc D 197 35 ls st u bb σ Q) ∧ (¬ (x = 0) → qx sc D 197 39 ls st u bb σ Q) := r_if_ne (off := 7) (t := 39) (by decide +kernel)
theorem k197_35 : qx sc D 197 35 ls st u bb σ Q ↔ qx sc D 197 36 ls (vi 1 :: st) u bb σ Q := r_iconst (by decide +kernel)
theorem k197_36 : qx sc D 197 36 ls st u bb σ Q ↔ qx sc D 197 40 ls st u bb σ Q := r_goto (off := 4) (by decide +kernel)
theorem k197_39 : qx sc D 197 39 ls st u bb σ Q ↔ qx sc D 197 40 ls (vi 0 :: st) u bb σ Q := r_iconst (by decide +kernel)
theorem k197_40 : qx sc D 197 40 ls st u bb σ Q ↔ qx sc D 197 41 ls (vi 2 :: st) u bb σ Q := r_iconst (by decide +kernel)
theorem k197_41 : qx sc (D + 1) 197 41 ls [vi x1, vi x0, vr 136] (0, 0) bb σ Q ↔ qx sc D 224 0 [vr 136, vi x0, vi x1] [] (0, 0) bb σ (q_kn sc (D + 1) 197 44 ls [] (0, 0) Q) := r_callv (idx := 501) (n := 2) (m := 3) (by decide +kernel) rfl (Nat.le_of_ble_eq_true rfl) ⟨Nat.le_of_ble_eq_true rfl, Nat.le_of_ble_eq_true rfl, rfl⟩ rfl
theorem k197_44 : qx sc D 197 44 ls (vi x :: st) u bb σ Q ↔ (x = 0 → qx sc D 197 51 ls st u bb σ Q) ∧ (¬ (x = 0) → qx sc D 197 47 ls st u bb σ Q) := r_if_eq (off := 7) (t := 51) (by decide +kernel)
theorem k197_47 : qx sc D 197 47 ls st u bb σ Q ↔ qx sc D 197 48 ls (vi 0 :: st) u bb σ Q := r_iconst (by decide +kernel)
theorem k197_48 : qx sc D 197 48 ls st u bb σ Q ↔ qx sc D 197 57 ls st u bb σ Q := r_goto (off := 9) (by decide +kernel)
theorem k197_51 : qx sc D 197 51 [vr a, l1, l2] st u bb σ Q ↔ qx sc D 197 52 [vr a, l1, l2] (vr a :: st) u bb σ Q := r_aload_n (k := 0) (by decide +kernel) rfl
theorem k197_52 : qx sc D 197 52 ls (vr 136 :: st) u bb σ Q ↔ qx sc D 197 55 ls (vr 186 :: st) u bb σ Q := r_getR (idx := 349) (c := 15) (k := 68) (by decide +kernel)
theorem k197_55 : qx sc D 197 55 [l0, l1, vi x] st u bb σ Q ↔ qx sc D 197 56 [l0, l1, vi x] (vi x :: st) u bb σ Q := r_iload_n (k := 2) (by decide +kernel) rfl
theorem k197_56 : qx sc D 197 56 ls (vi i :: vr a :: st) u bb σ Q ↔ (q_ty a = 0 ∧ 0 ≤ i ∧ i < q_ln a) ∧ qx sc D 197 57 ls (vi (σ a i) :: st) u bb σ Q := r_iald (by decide +kernel)
theorem k197_57 : qx sc D 197 57 ls [vi x] (0, 0) bb σ Q ↔ Q (.inl (some (vi x))) bb σ := r_ret (by decide +kernel)
-- 198: RowProverModel.outermost(IZ)I
theorem k198_0 : qx sc D 198 0 ls st u bb σ Q ↔ qx sc D 198 1 ls (vi (-1) :: st) u bb σ Q := r_iconst (by decide +kernel)
theorem k198_1 : qx sc D 198 1 [l0, l1, l2, l3, l4] (vi x :: st) u bb σ Q ↔ qx sc D 198 2 [l0, l1, l2, vi x, l4] st u bb σ Q := r_istore_n (k := 3) (by decide +kernel) (Nat.le_of_ble_eq_true rfl)
theorem k198_2 : qx sc D 198 2 [vr a, l1, l2, l3, l4] st u bb σ Q ↔ qx sc D 198 3 [vr a, l1, l2, l3, l4] (vr a :: st) u bb σ Q := r_aload_n (k := 0) (by decide +kernel) rfl
theorem k198_3 : qx sc D 198 3 ls (vr 136 :: st) u bb σ Q ↔ qx sc D 198 6 ls (vr 159 :: st) u bb σ Q := r_getR (idx := 205) (c := 15) (k := 36) (by decide +kernel)
theorem k198_6 : qx sc D 198 6 [l0, vi x, l2, l3, l4] st u bb σ Q ↔ qx sc D 198 7 [l0, vi x, l2, l3, l4] (vi x :: st) u bb σ Q := r_iload_n (k := 1) (by decide +kernel) rfl
theorem k198_7 : qx sc D 198 7 ls (vi i :: vr a :: st) u bb σ Q ↔ (q_ty a = 0 ∧ 0 ≤ i ∧ i < q_ln a) ∧ qx sc D 198 8 ls (vi (σ a i) :: st) u bb σ Q := r_iald (by decide +kernel)
theorem k198_8 : qx sc D 198 8 [l0, l1, l2, l3, l4] (vi x :: st) u bb σ Q ↔ qx sc D 198 10 [l0, l1, l2, l3, vi x] st u bb σ Q := r_istore (k := 4) (by decide +kernel) (Nat.le_of_ble_eq_true rfl)
theorem k198_10 : qx sc D 198 10 [l0, l1, l2, l3, vi x] st u bb σ Q ↔ qx sc D 198 12 [l0, l1, l2, l3, vi x] (vi x :: st) u bb σ Q := r_iload (k := 4) (by decide +kernel) rfl
theorem k198_12 : qx sc D 198 12 ls st u bb σ Q ↔ qx sc D 198 13 ls (vi (-1) :: st) u bb σ Q := r_iconst (by decide +kernel)
theorem k198_13 : qx sc D 198 13 ls (vi b' :: vi a' :: st) u bb σ Q ↔ (a' = b' → qx sc D 198 51 ls st u bb σ Q) ∧ (¬ (a' = b') → qx sc D 198 16 ls st u bb σ Q) := r_ic_eq (off := 38) (t := 51) (by decide +kernel)
theorem k198_16 : qx sc D 198 16 [vr a, l1, l2, l3, l4] st u bb σ Q ↔ qx sc D 198 17 [vr a, l1, l2, l3, l4] (vr a :: st) u bb σ Q := r_aload_n (k := 0) (by decide +kernel) rfl
theorem k198_17 : qx sc D 198 17 [l0, l1, l2, l3, vi x] st u bb σ Q ↔ qx sc D 198 19 [l0, l1, l2, l3, vi x] (vi x :: st) u bb σ Q := r_iload (k := 4) (by decide +kernel) rfl
theorem k198_19 : qx sc D 198 19 [l0, vi x, l2, l3, l4] st u bb σ Q ↔ qx sc D 198 20 [l0, vi x, l2, l3, l4] (vi x :: st) u bb σ Q := r_iload_n (k := 1) (by decide +kernel) rfl
theorem k198_20 : qx sc (D + 1) 198 20 ls [vi x1, vi x0, vr 136] (0, 0) bb σ Q ↔ qx sc D 161 0 [vr 136, vi x0, vi x1] [] (0, 0) bb σ (q_kn sc (D + 1) 198 23 ls [] (0, 0) Q) := r_callv (idx := 412) (n := 2) (m := 3) (by decide +kernel) rfl (Nat.le_of_ble_eq_true rfl) ⟨Nat.le_of_ble_eq_true rfl, Nat.le_of_ble_eq_true rfl, rfl⟩ rfl
theorem k198_23 : qx sc D 198 23 ls (vi x :: st) u bb σ Q ↔ (x = 0 → qx sc D 198 26 ls st u bb σ Q) ∧ (¬ (x = 0) → qx sc D 198 36 ls st u bb σ Q) := r_if_ne (off := 13) (t := 36) (by decide +kernel)
theorem k198_26 : qx sc D 198 26 [vr a, l1, l2, l3, l4] st u bb σ Q ↔ qx sc D 198 27 [vr a, l1, l2, l3, l4] (vr a :: st) u bb σ Q := r_aload_n (k := 0) (by decide +kernel) rfl
theorem k198_27 : qx sc D 198 27 [l0, l1, l2, l3, vi x] st u bb σ Q ↔ qx sc D 198 29 [l0, l1, l2, l3, vi x] (vi x :: st) u bb σ Q := r_iload (k := 4) (by decide +kernel) rfl
theorem k198_29 : qx sc D 198 29 [l0, vi x, l2, l3, l4] st u bb σ Q ↔ qx sc D 198 30 [l0, vi x, l2, l3, l4] (vi x :: st) u bb σ Q := r_iload_n (k := 1) (by decide +kernel) rfl
theorem k198_30 : qx sc (D + 1) 198 30 ls [vi x1, vi x0, vr 136] (0, 0) bb σ Q ↔ qx sc D 160 0 [vr 136, vi x0, vi x1, vn, vn, vn] [] (0, 0) bb σ (q_kn sc (D + 1) 198 33 ls [] (0, 0) Q) := r_callv (idx := 415) (n := 2) (m := 6) (by decide +kernel) rfl (Nat.le_of_ble_eq_true rfl) ⟨Nat.le_of_ble_eq_true rfl, Nat.le_of_ble_eq_true rfl, rfl⟩ rfl
theorem k198_33 : qx sc D 198 33 ls (vi x :: st) u bb σ Q ↔ (x = 0 → qx sc D 198 39 ls st u bb σ Q) ∧ (¬ (x = 0) → qx sc D 198 36 ls st u bb σ Q) := r_if_eq (off := 6) (t := 39) (by decide +kernel)
theorem k198_36 : qx sc D 198 36 [l0, l1, l2, l3, vi x] st u bb σ Q ↔ qx sc D 198 38 [l0, l1, l2, l3, vi x] (vi x :: st) u bb σ Q := r_iload (k := 4) (by decide +kernel) rfl
theorem k198_38 : qx sc D 198 38 [l0, l1, l2, l3, l4] (vi x :: st) u bb σ Q ↔ qx sc D 198 39 [l0, l1, l2, vi x, l4] st u bb σ Q := r_istore_n (k := 3) (by decide +kernel) (Nat.le_of_ble_eq_true rfl)
theorem k198_39 : qx sc D 198 39 [vr a, l1, l2, l3, l4] st u bb σ Q ↔ qx sc D 198 40 [vr a, l1, l2, l3, l4] (vr a :: st) u bb σ Q := r_aload_n (k := 0) (by decide +kernel) rfl
theorem k198_40 : qx sc D 198 40 ls (vr 136 :: st) u bb σ Q ↔ qx sc D 198 43 ls (vr 161 :: st) u bb σ Q := r_getR (idx := 281) (c := 15) (k := 38) (by decide +kernel)
theorem k198_43 : qx sc D 198 43 [l0, l1, l2, l3, vi x] st u bb σ Q ↔ qx sc D 198 45 [l0, l1, l2, l3, vi x] (vi x :: st) u bb σ Q := r_iload (k := 4) (by decide +kernel) rfl
theorem k198_45 : qx sc D 198 45 ls (vi i :: vr a :: st) u bb σ Q ↔ (q_ty a = 0 ∧ 0 ≤ i ∧ i < q_ln a) ∧ qx sc D 198 46 ls (vi (σ a i) :: st) u bb σ Q := r_iald (by decide +kernel)
theorem k198_46 : qx sc D 198 46 [l0, l1, l2, l3, l4] (vi x :: st) u bb σ Q ↔ qx sc D 198 48 [l0, l1, l2, l3, vi x] st u bb σ Q := r_istore (k := 4) (by decide +kernel) (Nat.le_of_ble_eq_true rfl)
theorem k198_48 : qx sc D 198 48 ls st u bb σ Q ↔ qx sc D 198 10 ls st u bb σ Q := r_goto (off := (-38)) (by decide +kernel)
theorem k198_51 : qx sc D 198 51 [l0, l1, vi x, l3, l4] st u bb σ Q ↔ qx sc D 198 52 [l0, l1, vi x, l3, l4] (vi x :: st) u bb σ Q := r_iload_n (k := 2) (by decide +kernel) rfl
theorem k198_52 : qx sc D 198 52 ls (vi x :: st) u bb σ Q ↔ (x = 0 → qx sc D 198 60 ls st u bb σ Q) ∧ (¬ (x = 0) → qx sc D 198 55 ls st u bb σ Q) := r_if_eq (off := 8) (t := 60) (by decide +kernel)
theorem k198_55 : qx sc D 198 55 [l0, l1, l2, vi x, l4] st u bb σ Q ↔ qx sc D 198 56 [l0, l1, l2, vi x, l4] (vi x :: st) u bb σ Q := r_iload_n (k := 3) (by decide +kernel) rfl
theorem k198_56 : qx sc D 198 56 ls st u bb σ Q ↔ qx sc D 198 57 ls (vi (-1) :: st) u bb σ Q := r_iconst (by decide +kernel)
theorem k198_57 : qx sc D 198 57 ls (vi b' :: vi a' :: st) u bb σ Q ↔ (a' = b' → qx sc D 198 60 ls st u bb σ Q) ∧ (¬ (a' = b') → qx sc D 198 64 ls st u bb σ Q) := r_ic_ne (off := 7) (t := 64) (by decide +kernel)
theorem k198_60 : qx sc D 198 60 [l0, l1, l2, vi x, l4] st u bb σ Q ↔ qx sc D 198 61 [l0, l1, l2, vi x, l4] (vi x :: st) u bb σ Q := r_iload_n (k := 3) (by decide +kernel) rfl
theorem k198_61 : qx sc D 198 61 ls st u bb σ Q ↔ qx sc D 198 78 ls st u bb σ Q := r_goto (off := 17) (by decide +kernel)
theorem k198_64 : qx sc D 198 64 [vr a, l1, l2, l3, l4] st u bb σ Q ↔ qx sc D 198 65 [vr a, l1, l2, l3, l4] (vr a :: st) u bb σ Q := r_aload_n (k := 0) (by decide +kernel) rfl
theorem k198_65 : qx sc D 198 65 [l0, l1, l2, vi x, l4] st u bb σ Q ↔ qx sc D 198 66 [l0, l1, l2, vi x, l4] (vi x :: st) u bb σ Q := r_iload_n (k := 3) (by decide +kernel) rfl
theorem k198_66 : qx sc D 198 66 [l0, vi x, l2, l3, l4] st u bb σ Q ↔ qx sc D 198 67 [l0, vi x, l2, l3, l4] (vi x :: st) u bb σ Q := r_iload_n (k := 1) (by decide +kernel) rfl
theorem k198_67 : qx sc (D + 1) 198 67 ls [vi x1, vi x0, vr 136] (0, 0) bb σ Q ↔ qx sc D 161 0 [vr 136, vi x0, vi x1] [] (0, 0) bb σ (q_kn sc (D + 1) 198 70 ls [] (0, 0) Q) := r_callv (idx := 412) (n := 2) (m := 3) (by decide +kernel) rfl (Nat.le_of_ble_eq_true rfl) ⟨Nat.le_of_ble_eq_true rfl, Nat.le_of_ble_eq_true rfl, rfl⟩ rfl
theorem k198_70 : qx sc D 198 70 ls (vi x :: st) u bb σ Q ↔ (x = 0 → qx sc D 198 77 ls st u bb σ Q) ∧ (¬ (x = 0) → qx sc D 198 73 ls st u bb σ Q) := r_if_eq (off := 7) (t := 77) (by decide +kernel)
theorem k198_73 : qx sc D 198 73 ls st u bb σ Q ↔ qx sc D 198 74 ls (vi 0 :: st) u bb σ Q := r_iconst (by decide +kernel)
theorem k198_74 : qx sc D 198 74 ls st u bb σ Q ↔ qx sc D 198 78 ls st u bb σ Q := r_goto (off := 4) (by decide +kernel)
theorem k198_77 : qx sc D 198 77 ls st u bb σ Q ↔ qx sc D 198 78 ls (vi 1 :: st) u bb σ Q := r_iconst (by decide +kernel)
theorem k198_78 : qx sc D 198 78 ls [vi x] (0, 0) bb σ Q ↔ Q (.inl (some (vi x))) bb σ := r_ret (by decide +kernel)
-- 199: RowProverModel.partFails(IZ)Z
theorem k199_0 : qx sc D 199 0 [vr a, l1, l2, l3] st u bb σ Q ↔ qx sc D 199 1 [vr a, l1, l2, l3] (vr a :: st) u bb σ Q := r_aload_n (k := 0) (by decide +kernel) rfl
theorem k199_1 : qx sc D 199 1 ls (vr 136 :: st) u bb σ Q ↔ qx sc D 199 4 ls (vi (σ 136 77) :: st) u bb σ Q := r_getI (idx := 452) (c := 15) (k := 77) (by decide +kernel)
theorem k199_4 : qx sc D 199 4 ls (vi x :: st) u bb σ Q ↔ (0 < x → qx sc D 199 7 ls st u bb σ Q) ∧ (¬ (0 < x) → qx sc D 199 34 ls st u bb σ Q) := r_if_le (off := 30) (t := 34) (by decide +kernel)
theorem k199_7 : qx sc D 199 7 [l0, l1, vi x, l3] st u bb σ Q ↔ qx sc D 199 8 [l0, l1, vi x, l3] (vi x :: st) u bb σ Q := r_iload_n (k := 2) (by decide +kernel) rfl
theorem k199_8 : qx sc D 199 8 ls (vi x :: st) u bb σ Q ↔ (x = 0 → qx sc D 199 23 ls st u bb σ Q) ∧ (¬ (x = 0) → qx sc D 199 11 ls st u bb σ Q) := r_if_eq (off := 15) (t := 23) (by decide +kernel)
theorem k199_11 : qx sc D 199 11 [vr a, l1, l2, l3] st u bb σ Q ↔ qx sc D 199 12 [vr a, l1, l2, l3] (vr a :: st) u bb σ Q := r_aload_n (k := 0) (by decide +kernel) rfl
theorem k199_12 : qx sc D 199 12 ls (vr 136 :: st) u bb σ Q ↔ qx sc D 199 15 ls (vr 179 :: st) u bb σ Q := r_getR (idx := 329) (c := 15) (k := 60) (by decide +kernel)
theorem k199_15 : qx sc D 199 15 [l0, vi x, l2, l3] st u bb σ Q ↔ qx sc D 199 16 [l0, vi x, l2, l3] (vi x :: st) u bb σ Q := r_iload_n (k := 1) (by decide +kernel) rfl
theorem k199_16 : qx sc D 199 16 ls (vi i :: vr a :: st) u bb σ Q ↔ ((q_ty a = 1 ∨ q_ty a = 2) ∧ 0 ≤ i ∧ i < q_ln a) ∧ qx sc D 199 17 ls (vi (σ a i) :: st) u bb σ Q := r_bald (by decide +kernel)
theorem k199_17 : qx sc D 199 17 ls (vi x :: st) u bb σ Q ↔ (x = 0 → qx sc D 199 34 ls st u bb σ Q) ∧ (¬ (x = 0) → qx sc D 199 20 ls st u bb σ Q) := r_if_eq (off := 17) (t := 34) (by decide +kernel)
theorem k199_20 : qx sc D 199 20 ls st u bb σ Q ↔ qx sc D 199 32 ls st u bb σ Q := r_goto (off := 12) (by decide +kernel)
theorem k199_23 : qx sc D 199 23 [vr a, l1, l2, l3] st u bb σ Q ↔ qx sc D 199 24 [vr a, l1, l2, l3] (vr a :: st) u bb σ Q := r_aload_n (k := 0) (by decide +kernel) rfl
theorem k199_24 : qx sc D 199 24 ls (vr 136 :: st) u bb σ Q ↔ qx sc D 199 27 ls (vr 178 :: st) u bb σ Q := r_getR (idx := 325) (c := 15) (k := 59) (by decide +kernel)
theorem k199_27 : qx sc D 199 27 [l0, vi x, l2, l3] st u bb σ Q ↔ qx sc D 199 28 [l0, vi x, l2, l3] (vi x :: st) u bb σ Q := r_iload_n (k := 1) (by decide +kernel) rfl
theorem k199_28 : qx sc D 199 28 ls (vi i :: vr a :: st) u bb σ Q ↔ ((q_ty a = 1 ∨ q_ty a = 2) ∧ 0 ≤ i ∧ i < q_ln a) ∧ qx sc D 199 29 ls (vi (σ a i) :: st) u bb σ Q := r_bald (by decide +kernel)
theorem k199_29 : qx sc D 199 29 ls (vi x :: st) u bb σ Q ↔ (x = 0 → qx sc D 199 34 ls st u bb σ Q) ∧ (¬ (x = 0) → qx sc D 199 32 ls st u bb σ Q) := r_if_eq (off := 5) (t := 34) (by decide +kernel)
theorem k199_32 : qx sc D 199 32 ls st u bb σ Q ↔ qx sc D 199 33 ls (vi 0 :: st) u bb σ Q := r_iconst (by decide +kernel)
theorem k199_33 : qx sc D 199 33 ls [vi x] (0, 0) bb σ Q ↔ (x = 0 ∨ x = 1) ∧ Q (.inl (some (vi x))) bb σ := r_retB (by decide +kernel)
theorem k199_34 : qx sc D 199 34 [vr a, l1, l2, l3] st u bb σ Q ↔ qx sc D 199 35 [vr a, l1, l2, l3] (vr a :: st) u bb σ Q := r_aload_n (k := 0) (by decide +kernel) rfl
theorem k199_35 : qx sc D 199 35 ls (vr 136 :: st) u bb σ Q ↔ qx sc D 199 38 ls (vi (σ 136 77) :: st) u bb σ Q := r_getI (idx := 452) (c := 15) (k := 77) (by decide +kernel)
theorem k199_38 : qx sc D 199 38 ls st u bb σ Q ↔ qx sc D 199 39 ls (vi 2 :: st) u bb σ Q := r_iconst (by decide +kernel)
theorem k199_39 : qx sc D 199 39 ls (vi b' :: vi a' :: st) u bb σ Q ↔ (a' = b' → qx sc D 199 42 ls st u bb σ Q) ∧ (¬ (a' = b') → qx sc D 199 68 ls st u bb σ Q) := r_ic_ne (off := 29) (t := 68) (by decide +kernel)
theorem k199_42 : qx sc D 199 42 [vr a, l1, l2, l3] st u bb σ Q ↔ qx sc D 199 43 [vr a, l1, l2, l3] (vr a :: st) u bb σ Q := r_aload_n (k := 0) (by decide +kernel) rfl
theorem k199_43 : qx sc D 199 43 ls (vr 136 :: st) u bb σ Q ↔ qx sc D 199 46 ls (vr 176 :: st) u bb σ Q := r_getR (idx := 319) (c := 15) (k := 57) (by decide +kernel)
theorem k199_46 : qx sc D 199 46 [l0, vi x, l2, l3] st u bb σ Q ↔ qx sc D 199 47 [l0, vi x, l2, l3] (vi x :: st) u bb σ Q := r_iload_n (k := 1) (by decide +kernel) rfl
theorem k199_47 : qx sc D 199 47 ls (vi i :: vr a :: st) u bb σ Q ↔ (q_ty a = 0 ∧ 0 ≤ i ∧ i < q_ln a) ∧ qx sc D 199 48 ls (vi (σ a i) :: st) u bb σ Q := r_iald (by decide +kernel)
theorem k199_48 : qx sc D 199 48 ls st u bb σ Q ↔ qx sc D 199 49 ls (vi (-1) :: st) u bb σ Q := r_iconst (by decide +kernel)
theorem k199_49 : qx sc D 199 49 ls (vi b' :: vi a' :: st) u bb σ Q ↔ (a' = b' → qx sc D 199 68 ls st u bb σ Q) ∧ (¬ (a' = b') → qx sc D 199 52 ls st u bb σ Q) := r_ic_eq (off := 19) (t := 68) (by decide +kernel)
theorem k199_52 : qx sc D 199 52 [vr a, l1, l2, l3] st u bb σ Q ↔ qx sc D 199 53 [vr a, l1, l2, l3] (vr a :: st) u bb σ Q := r_aload_n (k := 0) (by decide +kernel) rfl
theorem k199_53 : qx sc D 199 53 ls (vr 136 :: st) u bb σ Q ↔ qx sc D 199 56 ls (vr 187 :: st) u bb σ Q := r_getR (idx := 352) (c := 15) (k := 69) (by decide +kernel)
theorem k199_56 : qx sc D 199 56 [vr a, l1, l2, l3] st u bb σ Q ↔ qx sc D 199 57 [vr a, l1, l2, l3] (vr a :: st) u bb σ Q := r_aload_n (k := 0) (by decide +kernel) rfl
theorem k199_57 : qx sc D 199 57 ls (vr 136 :: st) u bb σ Q ↔ qx sc D 199 60 ls (vr 176 :: st) u bb σ Q := r_getR (idx := 319) (c := 15) (k := 57) (by decide +kernel)
theorem k199_60 : qx sc D 199 60 [l0, vi x, l2, l3] st u bb σ Q ↔ qx sc D 199 61 [l0, vi x, l2, l3] (vi x :: st) u bb σ Q := r_iload_n (k := 1) (by decide +kernel) rfl
theorem k199_61 : qx sc D 199 61 ls (vi i :: vr a :: st) u bb σ Q ↔ (q_ty a = 0 ∧ 0 ≤ i ∧ i < q_ln a) ∧ qx sc D 199 62 ls (vi (σ a i) :: st) u bb σ Q := r_iald (by decide +kernel)
theorem k199_62 : qx sc D 199 62 ls (vi i :: vr a :: st) u bb σ Q ↔ ((q_ty a = 1 ∨ q_ty a = 2) ∧ 0 ≤ i ∧ i < q_ln a) ∧ qx sc D 199 63 ls (vi (σ a i) :: st) u bb σ Q := r_bald (by decide +kernel)
theorem k199_63 : qx sc D 199 63 ls (vi x :: st) u bb σ Q ↔ (x = 0 → qx sc D 199 68 ls st u bb σ Q) ∧ (¬ (x = 0) → qx sc D 199 66 ls st u bb σ Q) := r_if_eq (off := 5) (t := 68) (by decide +kernel)
theorem k199_66 : qx sc D 199 66 ls st u bb σ Q ↔ qx sc D 199 67 ls (vi 0 :: st) u bb σ Q := r_iconst (by decide +kernel)
theorem k199_67 : qx sc D 199 67 ls [vi x] (0, 0) bb σ Q ↔ (x = 0 ∨ x = 1) ∧ Q (.inl (some (vi x))) bb σ := r_retB (by decide +kernel)
theorem k199_68 : qx sc D 199 68 [vr a, l1, l2, l3] st u bb σ Q ↔ qx sc D 199 69 [vr a, l1, l2, l3] (vr a :: st) u bb σ Q := r_aload_n (k := 0) (by decide +kernel) rfl
theorem k199_69 : qx sc D 199 69 ls (vr a :: st) u bb σ Q ↔ qx sc D 199 70 ls (vr a :: vr a :: st) u bb σ Q := r_dupA (by decide +kernel)
theorem k199_70 : qx sc D 199 70 ls (vr 136 :: st) u bb σ Q ↔ qx sc D 199 73 ls (vi (σ 136 74) :: st) u bb σ Q := r_getI (idx := 446) (c := 15) (k := 74) (by decide +kernel)
theorem k199_73 : qx sc D 199 73 ls st u bb σ Q ↔ qx sc D 199 74 ls (vi 1 :: st) u bb σ Q := r_iconst (by decide +kernel)
theorem k199_74 : qx sc D 199 74 ls (vi b' :: vi a' :: st) u bb σ Q ↔ q_R (a' + b') ∧ qx sc D 199 75 ls (vi (a' + b') :: st) u bb σ Q := r_iadd (by decide +kernel)
theorem k199_75 : qx sc D 199 75 ls (vi x :: vr 136 :: st) u bb σ Q ↔ qx sc D 199 78 ls st u bb (q_up σ 136 74 x) Q := r_putI (idx := 446) (c := 15) (k := 74) (by decide +kernel)
theorem k199_78 : qx sc D 199 78 [vr a, l1, l2, l3] st u bb σ Q ↔ qx sc D 199 79 [vr a, l1, l2, l3] (vr a :: st) u bb σ Q := r_aload_n (k := 0) (by decide +kernel) rfl
theorem k199_79 : qx sc D 199 79 ls (vr 136 :: st) u bb σ Q ↔ qx sc D 199 82 ls (vr 183 :: st) u bb σ Q := r_getR (idx := 341) (c := 15) (k := 65) (by decide +kernel)
theorem k199_82 : qx sc D 199 82 [vr a, l1, l2, l3] st u bb σ Q ↔ qx sc D 199 83 [vr a, l1, l2, l3] (vr a :: st) u bb σ Q := r_aload_n (k := 0) (by decide +kernel) rfl
theorem k199_83 : qx sc D 199 83 ls (vr 136 :: st) u bb σ Q ↔ qx sc D 199 86 ls (vr 147 :: st) u bb σ Q := r_getR (idx := 33) (c := 15) (k := 24) (by decide +kernel)
theorem k199_86 : qx sc D 199 86 [vr a, l1, l2, l3] st u bb σ Q ↔ qx sc D 199 87 [vr a, l1, l2, l3] (vr a :: st) u bb σ Q := r_aload_n (k := 0) (by decide +kernel) rfl
theorem k199_87 : qx sc D 199 87 ls (vr 136 :: st) u bb σ Q ↔ qx sc D 199 90 ls (vr 157 :: st) u bb σ Q := r_getR (idx := 202) (c := 15) (k := 34) (by decide +kernel)
theorem k199_90 : qx sc D 199 90 [l0, vi x, l2, l3] st u bb σ Q ↔ qx sc D 199 91 [l0, vi x, l2, l3] (vi x :: st) u bb σ Q := r_iload_n (k := 1) (by decide +kernel) rfl
theorem k199_91 : qx sc D 199 91 ls (vi i :: vr a :: st) u bb σ Q ↔ (q_ty a = 0 ∧ 0 ≤ i ∧ i < q_ln a) ∧ qx sc D 199 92 ls (vi (σ a i) :: st) u bb σ Q := r_iald (by decide +kernel)
theorem k199_92 : qx sc D 199 92 ls (vi i :: vr a :: st) u bb σ Q ↔ (q_ty a = 0 ∧ 0 ≤ i ∧ i < q_ln a) ∧ qx sc D 199 93 ls (vi (σ a i) :: st) u bb σ Q := r_iald (by decide +kernel)
theorem k199_93 : qx sc D 199 93 ls (vi i :: vr a :: st) u bb σ Q ↔ (q_ty a = 0 ∧ 0 ≤ i ∧ i < q_ln a) ∧ qx sc D 199 94 ls (vi (σ a i) :: st) u bb σ Q := r_iald (by decide +kernel)
theorem k199_94 : qx sc D 199 94 [l0, l1, l2, l3] (vi x :: st) u bb σ Q ↔ qx sc D 199 95 [l0, l1, l2, vi x] st u bb σ Q := r_istore_n (k := 3) (by decide +kernel) (Nat.le_of_ble_eq_true rfl)
theorem k199_95 : qx sc D 199 95 [l0, l1, vi x, l3] st u bb σ Q ↔ qx sc D 199 96 [l0, l1, vi x, l3] (vi x :: st) u bb σ Q := r_iload_n (k := 2) (by decide +kernel) rfl
theorem k199_96 : qx sc D 199 96 ls (vi x :: st) u bb σ Q ↔ (x = 0 → qx sc D 199 121 ls st u bb σ Q) ∧ (¬ (x = 0) → qx sc D 199 99 ls st u bb σ Q) := r_if_eq (off := 25) (t := 121) (by decide +kernel)
theorem k199_99 : qx sc D 199 99 [l0, l1, l2, vi x] st u bb σ Q ↔ qx sc D 199 100 [l0, l1, l2, vi x] (vi x :: st) u bb σ Q := r_iload_n (k := 3) (by decide +kernel) rfl
theorem k199_100 : qx sc D 199 100 [vr a, l1, l2, l3] st u bb σ Q ↔ qx sc D 199 101 [vr a, l1, l2, l3] (vr a :: st) u bb σ Q := r_aload_n (k := 0) (by decide +kernel) rfl
theorem k199_101 : qx sc D 199 101 [vr a, l1, l2, l3] st u bb σ Q ↔ qx sc D 199 102 [vr a, l1, l2, l3] (vr a :: st) u bb σ Q := r_aload_n (k := 0) (by decide +kernel) rfl
theorem k199_102 : qx sc D 199 102 ls (vr 136 :: st) u bb σ Q ↔ qx sc D 199 105 ls (vr 156 :: st) u bb σ Q := r_getR (idx := 199) (c := 15) (k := 33) (by decide +kernel)
theorem k199_105 : qx sc D 199 105 [l0, vi x, l2, l3] st u bb σ Q ↔ qx sc D 199 106 [l0, vi x, l2, l3] (vi x :: st) u bb σ Q := r_iload_n (k := 1) (by decide +kernel) rfl
theorem k199_106 : qx sc D 199 106 ls (vi i :: vr a :: st) u bb σ Q ↔ (q_ty a = 0 ∧ 0 ≤ i ∧ i < q_ln a) ∧ qx sc D 199 107 ls (vi (σ a i) :: st) u bb σ Q := r_iald (by decide +kernel)
theorem k199_107 : qx sc (D + 1) 199 107 ls [vi x0, vr 136, vi x20] (0, 0) bb σ Q ↔ qx sc D 176 0 [vr 136, vi x0] [] (0, 0) bb σ (q_kn sc (D + 1) 199 110 ls [vi x20] (0, 0) Q) := r_callv (idx := 440) (n := 1) (m := 2) (by decide +kernel) rfl (Nat.le_of_ble_eq_true rfl) ⟨Nat.le_of_ble_eq_true rfl, Nat.le_of_ble_eq_true rfl, rfl⟩ rfl
theorem k199_110 : qx sc D 199 110 ls (vi b' :: vi a' :: st) u bb σ Q ↔ (a' < b' → qx sc D 199 117 ls st u bb σ Q) ∧ (¬ (a' < b') → qx sc D 199 113 ls st u bb σ Q) := r_ic_lt (off := 7) (t := 117) (by decide +kernel)
theorem k199_113 : qx sc D 199 113 ls st u bb σ Q ↔ qx sc D 199 114 ls (vi 1 :: st) u bb σ Q := r_iconst (by decide +kernel)
theorem k199_114 : qx sc D 199 114 ls st u bb σ Q ↔ qx sc D 199 130 ls st u bb σ Q := r_goto (off := 16) (by decide +kernel)
theorem k199_117 : qx sc D 199 117 ls st u bb σ Q ↔ qx sc D 199 118 ls (vi 0 :: st) u bb σ Q := r_iconst (by decide +kernel)
theorem k199_118 : qx sc D 199 118 ls st u bb σ Q ↔ qx sc D 199 130 ls st u bb σ Q := r_goto (off := 12) (by decide +kernel)
theorem k199_121 : qx sc D 199 121 [l0, l1, l2, vi x] st u bb σ Q ↔ qx sc D 199 122 [l0, l1, l2, vi x] (vi x :: st) u bb σ Q := r_iload_n (k := 3) (by decide +kernel) rfl
theorem k199_122 : qx sc D 199 122 ls (vi x :: st) u bb σ Q ↔ (x < 0 → qx sc D 199 125 ls st u bb σ Q) ∧ (¬ (x < 0) → qx sc D 199 129 ls st u bb σ Q) := r_if_ge (off := 7) (t := 129) (by decide +kernel)
theorem k199_125 : qx sc D 199 125 ls st u bb σ Q ↔ qx sc D 199 126 ls (vi 1 :: st) u bb σ Q := r_iconst (by decide +kernel)
theorem k199_126 : qx sc D 199 126 ls st u bb σ Q ↔ qx sc D 199 130 ls st u bb σ Q := r_goto (off := 4) (by decide +kernel)
theorem k199_129 : qx sc D 199 129 ls st u bb σ Q ↔ qx sc D 199 130 ls (vi 0 :: st) u bb σ Q := r_iconst (by decide +kernel)
theorem k199_130 : qx sc D 199 130 ls [vi x] (0, 0) bb σ Q ↔ (x = 0 ∨ x = 1) ∧ Q (.inl (some (vi x))) bb σ := r_retB (by decide +kernel)
-- 200: RowProverModel.place(I)I
theorem k200_0 : qx sc D 200 0 [vr a, l1, l2, l3, l4, l5, l6] st u bb σ Q ↔ qx sc D 200 1 [vr a, l1, l2, l3, l4, l5, l6] (vr a :: st) u bb σ Q := r_aload_n (k := 0) (by decide +kernel) rfl
theorem k200_1 : qx sc (D + 1) 200 1 ls [vr 136] (0, 0) bb σ Q ↔ qx sc D 206 0 [vr 136] [] (0, 0) bb σ (q_kn sc (D + 1) 200 4 ls [] (0, 0) Q) := r_callv (idx := 190) (n := 0) (m := 1) (by decide +kernel) rfl (Nat.le_of_ble_eq_true rfl) ⟨Nat.le_of_ble_eq_true rfl, Nat.le_of_ble_eq_true rfl, rfl⟩ rfl
theorem k200_4 : qx sc D 200 4 [l0, l1, l2, l3, l4, l5, l6] (vi x :: st) u bb σ Q ↔ qx sc D 200 5 [l0, l1, vi x, l3, l4, l5, l6] st u bb σ Q := r_istore_n (k := 2) (by decide +kernel) (Nat.le_of_ble_eq_true rfl)
theorem k200_5 : qx sc D 200 5 [vr a, l1, l2, l3, l4, l5, l6] st u bb σ Q ↔ qx sc D 200 6 [vr a, l1, l2, l3, l4, l5, l6] (vr a :: st) u bb σ Q := r_aload_n (k := 0) (by decide +kernel) rfl
theorem k200_6 : qx sc D 200 6 ls st u bb σ Q ↔ qx sc D 200 8 ls (vi 91 :: st) u bb σ Q := r_bipush (by decide +kernel)
theorem k200_8 : qx sc (D + 1) 200 8 ls [vi x0, vr 136] (0, 0) bb σ Q ↔ qx sc D 127 0 [vr 136, vi x0] [] (0, 0) bb σ (q_kn sc (D + 1) 200 11 ls [] (0, 0) Q) := r_callv (idx := 135) (n := 1) (m := 2) (by decide +kernel) rfl (Nat.le_of_ble_eq_true rfl) ⟨Nat.le_of_ble_eq_true rfl, Nat.le_of_ble_eq_true rfl, rfl⟩ rfl
theorem k200_11 : qx sc D 200 11 [vr a, l1, l2, l3, l4, l5, l6] st u bb σ Q ↔ qx sc D 200 12 [vr a, l1, l2, l3, l4, l5, l6] (vr a :: st) u bb σ Q := r_aload_n (k := 0) (by decide +kernel) rfl
theorem k200_12 : qx sc (D + 1) 200 12 ls [vr 136] (0, 0) bb σ Q ↔ qx sc D 228 0 [vr 136] [] (0, 0) bb σ (q_kn sc (D + 1) 200 15 ls [] (0, 0) Q) := r_callv (idx := 183) (n := 0) (m := 1) (by decide +kernel) rfl (Nat.le_of_ble_eq_true rfl) ⟨Nat.le_of_ble_eq_true rfl, Nat.le_of_ble_eq_true rfl, rfl⟩ rfl
theorem k200_15 : qx sc D 200 15 [l0, l1, l2, l3, l4, l5, l6] (vi x :: st) u bb σ Q ↔ qx sc D 200 16 [l0, l1, l2, vi x, l4, l5, l6] st u bb σ Q := r_istore_n (k := 3) (by decide +kernel) (Nat.le_of_ble_eq_true rfl)
theorem k200_16 : qx sc D 200 16 [vr a, l1, l2, l3, l4, l5, l6] st u bb σ Q ↔ qx sc D 200 17 [vr a, l1, l2, l3, l4, l5, l6] (vr a :: st) u bb σ Q := r_aload_n (k := 0) (by decide +kernel) rfl
theorem k200_17 : qx sc D 200 17 ls st u bb σ Q ↔ qx sc D 200 19 ls (vi 93 :: st) u bb σ Q := r_bipush (by decide +kernel)
theorem k200_19 : qx sc (D + 1) 200 19 ls [vi x0, vr 136] (0, 0) bb σ Q ↔ qx sc D 127 0 [vr 136, vi x0] [] (0, 0) bb σ (q_kn sc (D + 1) 200 22 ls [] (0, 0) Q) := r_callv (idx := 135) (n := 1) (m := 2) (by decide +kernel) rfl (Nat.le_of_ble_eq_true rfl) ⟨Nat.le_of_ble_eq_true rfl, Nat.le_of_ble_eq_true rfl, rfl⟩ rfl
theorem k200_22 : qx sc D 200 22 [vr a, l1, l2, l3, l4, l5, l6] st u bb σ Q ↔ qx sc D 200 23 [vr a, l1, l2, l3, l4, l5, l6] (vr a :: st) u bb σ Q := r_aload_n (k := 0) (by decide +kernel) rfl
theorem k200_23 : qx sc D 200 23 ls (vr 136 :: st) u bb σ Q ↔ qx sc D 200 26 ls (vi (σ 136 16) :: st) u bb σ Q := r_getI (idx := 193) (c := 15) (k := 16) (by decide +kernel)
theorem k200_26 : qx sc D 200 26 [l0, l1, l2, l3, l4, l5, l6] (vi x :: st) u bb σ Q ↔ qx sc D 200 28 [l0, l1, l2, l3, vi x, l5, l6] st u bb σ Q := r_istore (k := 4) (by decide +kernel) (Nat.le_of_ble_eq_true rfl)
theorem k200_28 : qx sc D 200 28 [vr a, l1, l2, l3, l4, l5, l6] st u bb σ Q ↔ qx sc D 200 29 [vr a, l1, l2, l3, l4, l5, l6] (vr a :: st) u bb σ Q := r_aload_n (k := 0) (by decide +kernel) rfl
theorem k200_29 : qx sc (D + 1) 200 29 ls [vr 136] (0, 0) bb σ Q ↔ qx sc D 154 0 [vr 136] [] (0, 0) bb σ (q_kn sc (D + 1) 200 32 ls [] (0, 0) Q) := r_callv (idx := 83) (n := 0) (m := 1) (by decide +kernel) rfl (Nat.le_of_ble_eq_true rfl) ⟨Nat.le_of_ble_eq_true rfl, Nat.le_of_ble_eq_true rfl, rfl⟩ rfl
theorem k200_32 : qx sc D 200 32 ls (vi x :: st) u bb σ Q ↔ (x = 0 → qx sc D 200 37 ls st u bb σ Q) ∧ (¬ (x = 0) → qx sc D 200 35 ls st u bb σ Q) := r_if_eq (off := 5) (t := 37) (by decide +kernel)
theorem k200_35 : qx sc D 200 35 ls st u bb σ Q ↔ qx sc D 200 36 ls (vi 0 :: st) u bb σ Q := r_iconst (by decide +kernel)
theorem k200_36 : qx sc D 200 36 ls [vi x] (0, 0) bb σ Q ↔ Q (.inl (some (vi x))) bb σ := r_ret (by decide +kernel)
theorem k200_37 : qx sc D 200 37 [vr a, l1, l2, l3, l4, l5, l6] st u bb σ Q ↔ qx sc D 200 38 [vr a, l1, l2, l3, l4, l5, l6] (vr a :: st) u bb σ Q := r_aload_n (k := 0) (by decide +kernel) rfl
theorem k200_38 : qx sc D 200 38 ls (vr 136 :: st) u bb σ Q ↔ qx sc D 200 41 ls (vr 155 :: st) u bb σ Q := r_getR (idx := 196) (c := 15) (k := 32) (by decide +kernel)
theorem k200_41 : qx sc D 200 41 [l0, l1, l2, l3, vi x, l5, l6] st u bb σ Q ↔ qx sc D 200 43 [l0, l1, l2, l3, vi x, l5, l6] (vi x :: st) u bb σ Q := r_iload (k := 4) (by decide +kernel) rfl
theorem k200_43 : qx sc D 200 43 [l0, vi x, l2, l3, l4, l5, l6] st u bb σ Q ↔ qx sc D 200 44 [l0, vi x, l2, l3, l4, l5, l6] (vi x :: st) u bb σ Q := r_iload_n (k := 1) (by decide +kernel) rfl
theorem k200_44 : qx sc D 200 44 ls (vi x :: vi i :: vr a :: st) u bb σ Q ↔ (q_ty a = 0 ∧ 0 ≤ i ∧ i < q_ln a) ∧ qx sc D 200 45 ls st u bb (q_up σ a i x) Q := r_iast (by decide +kernel)
theorem k200_45 : qx sc D 200 45 [vr a, l1, l2, l3, l4, l5, l6] st u bb σ Q ↔ qx sc D 200 46 [vr a, l1, l2, l3, l4, l5, l6] (vr a :: st) u bb σ Q := r_aload_n (k := 0) (by decide +kernel) rfl
theorem k200_46 : qx sc D 200 46 ls (vr 136 :: st) u bb σ Q ↔ qx sc D 200 49 ls (vr 156 :: st) u bb σ Q := r_getR (idx := 199) (c := 15) (k := 33) (by decide +kernel)
theorem k200_49 : qx sc D 200 49 [l0, l1, l2, l3, vi x, l5, l6] st u bb σ Q ↔ qx sc D 200 51 [l0, l1, l2, l3, vi x, l5, l6] (vi x :: st) u bb σ Q := r_iload (k := 4) (by decide +kernel) rfl
theorem k200_51 : qx sc D 200 51 [l0, l1, vi x, l3, l4, l5, l6] st u bb σ Q ↔ qx sc D 200 52 [l0, l1, vi x, l3, l4, l5, l6] (vi x :: st) u bb σ Q := r_iload_n (k := 2) (by decide +kernel) rfl
theorem k200_52 : qx sc D 200 52 ls (vi x :: vi i :: vr a :: st) u bb σ Q ↔ (q_ty a = 0 ∧ 0 ≤ i ∧ i < q_ln a) ∧ qx sc D 200 53 ls st u bb (q_up σ a i x) Q := r_iast (by decide +kernel)
theorem k200_53 : qx sc D 200 53 [vr a, l1, l2, l3, l4, l5, l6] st u bb σ Q ↔ qx sc D 200 54 [vr a, l1, l2, l3, l4, l5, l6] (vr a :: st) u bb σ Q := r_aload_n (k := 0) (by decide +kernel) rfl
theorem k200_54 : qx sc D 200 54 ls (vr 136 :: st) u bb σ Q ↔ qx sc D 200 57 ls (vr 157 :: st) u bb σ Q := r_getR (idx := 202) (c := 15) (k := 34) (by decide +kernel)
theorem k200_57 : qx sc D 200 57 [l0, l1, l2, l3, vi x, l5, l6] st u bb σ Q ↔ qx sc D 200 59 [l0, l1, l2, l3, vi x, l5, l6] (vi x :: st) u bb σ Q := r_iload (k := 4) (by decide +kernel) rfl
theorem k200_59 : qx sc D 200 59 [vr a, l1, l2, l3, l4, l5, l6] st u bb σ Q ↔ qx sc D 200 60 [vr a, l1, l2, l3, l4, l5, l6] (vr a :: st) u bb σ Q := r_aload_n (k := 0) (by decide +kernel) rfl
theorem k200_60 : qx sc D 200 60 ls (vr 136 :: st) u bb σ Q ↔ qx sc D 200 63 ls (vr 171 :: st) u bb σ Q := r_getR (idx := 57) (c := 15) (k := 48) (by decide +kernel)
theorem k200_63 : qx sc D 200 63 [l0, l1, l2, vi x, l4, l5, l6] st u bb σ Q ↔ qx sc D 200 64 [l0, l1, l2, vi x, l4, l5, l6] (vi x :: st) u bb σ Q := r_iload_n (k := 3) (by decide +kernel) rfl
theorem k200_64 : qx sc D 200 64 ls (vi i :: vr a :: st) u bb σ Q ↔ (q_ty a = 0 ∧ 0 ≤ i ∧ i < q_ln a) ∧ qx sc D 200 65 ls (vi (σ a i) :: st) u bb σ Q := r_iald (by decide +kernel)
theorem k200_65 : qx sc D 200 65 ls (vi x :: vi i :: vr a :: st) u bb σ Q ↔ (q_ty a = 0 ∧ 0 ≤ i ∧ i < q_ln a) ∧ qx sc D 200 66 ls st u bb (q_up σ a i x) Q := r_iast (by decide +kernel)
theorem k200_66 : qx sc D 200 66 [vr a, l1, l2, l3, l4, l5, l6] st u bb σ Q ↔ qx sc D 200 67 [vr a, l1, l2, l3, l4, l5, l6] (vr a :: st) u bb σ Q := r_aload_n (k := 0) (by decide +kernel) rfl
theorem k200_67 : qx sc D 200 67 ls (vr 136 :: st) u bb σ Q ↔ qx sc D 200 70 ls (vr 159 :: st) u bb σ Q := r_getR (idx := 205) (c := 15) (k := 36) (by decide +kernel)
theorem k200_70 : qx sc D 200 70 [l0, l1, l2, l3, vi x, l5, l6] st u bb σ Q ↔ qx sc D 200 72 [l0, l1, l2, l3, vi x, l5, l6] (vi x :: st) u bb σ Q := r_iload (k := 4) (by decide +kernel) rfl
theorem k200_72 : qx sc D 200 72 [vr a, l1, l2, l3, l4, l5, l6] st u bb σ Q ↔ qx sc D 200 73 [vr a, l1, l2, l3, l4, l5, l6] (vr a :: st) u bb σ Q := r_aload_n (k := 0) (by decide +kernel) rfl
theorem k200_73 : qx sc D 200 73 ls (vr 136 :: st) u bb σ Q ↔ qx sc D 200 76 ls (vi (σ 136 49) :: st) u bb σ Q := r_getI (idx := 163) (c := 15) (k := 49) (by decide +kernel)
theorem k200_76 : qx sc D 200 76 ls (vi x :: vi i :: vr a :: st) u bb σ Q ↔ (q_ty a = 0 ∧ 0 ≤ i ∧ i < q_ln a) ∧ qx sc D 200 77 ls st u bb (q_up σ a i x) Q := r_iast (by decide +kernel)
theorem k200_77 : qx sc D 200 77 [vr a, l1, l2, l3, l4, l5, l6] st u bb σ Q ↔ qx sc D 200 78 [vr a, l1, l2, l3, l4, l5, l6] (vr a :: st) u bb σ Q := r_aload_n (k := 0) (by decide +kernel) rfl
theorem k200_78 : qx sc D 200 78 ls (vr 136 :: st) u bb σ Q ↔ qx sc D 200 81 ls (vr 158 :: st) u bb σ Q := r_getR (idx := 208) (c := 15) (k := 35) (by decide +kernel)
theorem k200_81 : qx sc D 200 81 [l0, l1, l2, l3, vi x, l5, l6] st u bb σ Q ↔ qx sc D 200 83 [l0, l1, l2, l3, vi x, l5, l6] (vi x :: st) u bb σ Q := r_iload (k := 4) (by decide +kernel) rfl
theorem k200_83 : qx sc D 200 83 [vr a, l1, l2, l3, l4, l5, l6] st u bb σ Q ↔ qx sc D 200 84 [vr a, l1, l2, l3, l4, l5, l6] (vr a :: st) u bb σ Q := r_aload_n (k := 0) (by decide +kernel) rfl
theorem k200_84 : qx sc D 200 84 [l0, l1, l2, vi x, l4, l5, l6] st u bb σ Q ↔ qx sc D 200 85 [l0, l1, l2, vi x, l4, l5, l6] (vi x :: st) u bb σ Q := r_iload_n (k := 3) (by decide +kernel) rfl
theorem k200_85 : qx sc D 200 85 ls st u bb σ Q ↔ qx sc D 200 86 ls (vi 2 :: st) u bb σ Q := r_iconst (by decide +kernel)
theorem k200_86 : qx sc D 200 86 [l0, vi x, l2, l3, l4, l5, l6] st u bb σ Q ↔ qx sc D 200 87 [l0, vi x, l2, l3, l4, l5, l6] (vi x :: st) u bb σ Q := r_iload_n (k := 1) (by decide +kernel) rfl
theorem k200_87 : qx sc D 200 87 [vr a, l1, l2, l3, l4, l5, l6] st u bb σ Q ↔ qx sc D 200 88 [vr a, l1, l2, l3, l4, l5, l6] (vr a :: st) u bb σ Q := r_aload_n (k := 0) (by decide +kernel) rfl
theorem k200_88 : qx sc D 200 88 ls (vr 136 :: st) u bb σ Q ↔ qx sc D 200 91 ls (vr 171 :: st) u bb σ Q := r_getR (idx := 57) (c := 15) (k := 48) (by decide +kernel)
theorem k200_91 : qx sc D 200 91 [l0, l1, l2, vi x, l4, l5, l6] st u bb σ Q ↔ qx sc D 200 92 [l0, l1, l2, vi x, l4, l5, l6] (vi x :: st) u bb σ Q := r_iload_n (k := 3) (by decide +kernel) rfl
theorem k200_92 : qx sc D 200 92 ls (vi i :: vr a :: st) u bb σ Q ↔ (q_ty a = 0 ∧ 0 ≤ i ∧ i < q_ln a) ∧ qx sc D 200 93 ls (vi (σ a i) :: st) u bb σ Q := r_iald (by decide +kernel)
theorem k200_93 : qx sc D 200 93 ls st u bb σ Q ↔ qx sc D 200 94 ls (vi (-1) :: st) u bb σ Q := r_iconst (by decide +kernel)
theorem k200_94 : qx sc (D + 1) 200 94 ls [vi x4, vi x3, vi x2, vi x1, vi x0, vr 136, vi x20, vr a21] (0, 0) bb σ Q ↔ qx sc D 180 0 [vr 136, vi x0, vi x1, vi x2, vi x3, vi x4, vn] [] (0, 0) bb σ (q_kn sc (D + 1) 200 97 ls [vi x20, vr a21] (0, 0) Q) := r_callv (idx := 211) (n := 5) (m := 7) (by decide +kernel) rfl (Nat.le_of_ble_eq_true rfl) ⟨Nat.le_of_ble_eq_true rfl, Nat.le_of_ble_eq_true rfl, rfl⟩ rfl
theorem k200_97 : qx sc D 200 97 ls (vi x :: vi i :: vr a :: st) u bb σ Q ↔ (q_ty a = 0 ∧ 0 ≤ i ∧ i < q_ln a) ∧ qx sc D 200 98 ls st u bb (q_up σ a i x) Q := r_iast (by decide +kernel)
theorem k200_98 : qx sc D 200 98 [vr a, l1, l2, l3, l4, l5, l6] st u bb σ Q ↔ qx sc D 200 99 [vr a, l1, l2, l3, l4, l5, l6] (vr a :: st) u bb σ Q := r_aload_n (k := 0) (by decide +kernel) rfl
theorem k200_99 : qx sc D 200 99 ls (vr 136 :: st) u bb σ Q ↔ qx sc D 200 102 ls (vr 144 :: st) u bb σ Q := r_getR (idx := 154) (c := 15) (k := 21) (by decide +kernel)
theorem k200_102 : qx sc D 200 102 [l0, vi x, l2, l3, l4, l5, l6] st u bb σ Q ↔ qx sc D 200 103 [l0, vi x, l2, l3, l4, l5, l6] (vi x :: st) u bb σ Q := r_iload_n (k := 1) (by decide +kernel) rfl
theorem k200_103 : qx sc D 200 103 [l0, l1, l2, l3, vi x, l5, l6] st u bb σ Q ↔ qx sc D 200 105 [l0, l1, l2, l3, vi x, l5, l6] (vi x :: st) u bb σ Q := r_iload (k := 4) (by decide +kernel) rfl
theorem k200_105 : qx sc D 200 105 ls (vi x :: vi i :: vr a :: st) u bb σ Q ↔ (q_ty a = 0 ∧ 0 ≤ i ∧ i < q_ln a) ∧ qx sc D 200 106 ls st u bb (q_up σ a i x) Q := r_iast (by decide +kernel)
theorem k200_106 : qx sc D 200 106 [vr a, l1, l2, l3, l4, l5, l6] st u bb σ Q ↔ qx sc D 200 107 [vr a, l1, l2, l3, l4, l5, l6] (vr a :: st) u bb σ Q := r_aload_n (k := 0) (by decide +kernel) rfl
theorem k200_107 : qx sc D 200 107 ls (vr a :: st) u bb σ Q ↔ qx sc D 200 108 ls (vr a :: vr a :: st) u bb σ Q := r_dupA (by decide +kernel)
theorem k200_108 : qx sc D 200 108 ls (vr 136 :: st) u bb σ Q ↔ qx sc D 200 111 ls (vi (σ 136 16) :: st) u bb σ Q := r_getI (idx := 193) (c := 15) (k := 16) (by decide +kernel)
theorem k200_111 : qx sc D 200 111 ls st u bb σ Q ↔ qx sc D 200 112 ls (vi 1 :: st) u bb σ Q := r_iconst (by decide +kernel)
theorem k200_112 : qx sc D 200 112 ls (vi b' :: vi a' :: st) u bb σ Q ↔ q_R (a' + b') ∧ qx sc D 200 113 ls (vi (a' + b') :: st) u bb σ Q := r_iadd (by decide +kernel)
theorem k200_113 : qx sc D 200 113 ls (vi x :: vr 136 :: st) u bb σ Q ↔ qx sc D 200 116 ls st u bb (q_up σ 136 16 x) Q := r_putI (idx := 193) (c := 15) (k := 16) (by decide +kernel)
theorem k200_116 : qx sc D 200 116 [vr a, l1, l2, l3, l4, l5, l6] st u bb σ Q ↔ qx sc D 200 117 [vr a, l1, l2, l3, l4, l5, l6] (vr a :: st) u bb σ Q := r_aload_n (k := 0) (by decide +kernel) rfl
theorem k200_117 : qx sc D 200 117 ls st u bb σ Q ↔ qx sc D 200 118 ls (vi 1 :: st) u bb σ Q := r_iconst (by decide +kernel)
theorem k200_118 : qx sc D 200 118 [l0, l1, l2, l3, vi x, l5, l6] st u bb σ Q ↔ qx sc D 200 120 [l0, l1, l2, l3, vi x, l5, l6] (vi x :: st) u bb σ Q := r_iload (k := 4) (by decide +kernel) rfl
theorem k200_120 : qx sc D 200 120 ls st u bb σ Q ↔ qx sc D 200 121 ls (vi 0 :: st) u bb σ Q := r_iconst (by decide +kernel)
theorem k200_121 : qx sc (D + 1) 200 121 ls [vi x2, vi x1, vi x0, vr 136] (0, 0) bb σ Q ↔ qx sc D 172 0 [vr 136, vi x0, vi x1, vi x2] [] (0, 0) bb σ (q_kn sc (D + 1) 200 124 ls [] (0, 0) Q) := r_callv (idx := 186) (n := 3) (m := 4) (by decide +kernel) rfl (Nat.le_of_ble_eq_true rfl) ⟨Nat.le_of_ble_eq_true rfl, Nat.le_of_ble_eq_true rfl, rfl⟩ rfl
theorem k200_124 : qx sc D 200 124 [l0, l1, l2, l3, l4, l5, l6] (vi x :: st) u bb σ Q ↔ qx sc D 200 126 [l0, l1, l2, l3, l4, vi x, l6] st u bb σ Q := r_istore (k := 5) (by decide +kernel) (Nat.le_of_ble_eq_true rfl)
theorem k200_126 : qx sc D 200 126 [vr a, l1, l2, l3, l4, l5, l6] st u bb σ Q ↔ qx sc D 200 127 [vr a, l1, l2, l3, l4, l5, l6] (vr a :: st) u bb σ Q := r_aload_n (k := 0) (by decide +kernel) rfl
theorem k200_127 : qx sc D 200 127 ls st u bb σ Q ↔ qx sc D 200 129 ls (vi 6 :: st) u bb σ Q := r_bipush (by decide +kernel)
theorem k200_129 : qx sc D 200 129 [vr a, l1, l2, l3, l4, l5, l6] st u bb σ Q ↔ qx sc D 200 130 [vr a, l1, l2, l3, l4, l5, l6] (vr a :: st) u bb σ Q := r_aload_n (k := 0) (by decide +kernel) rfl
theorem k200_130 : qx sc D 200 130 ls (vr 136 :: st) u bb σ Q ↔ qx sc D 200 133 ls (vr 158 :: st) u bb σ Q := r_getR (idx := 208) (c := 15) (k := 35) (by decide +kernel)
theorem k200_133 : qx sc D 200 133 [l0, l1, l2, l3, vi x, l5, l6] st u bb σ Q ↔ qx sc D 200 135 [l0, l1, l2, l3, vi x, l5, l6] (vi x :: st) u bb σ Q := r_iload (k := 4) (by decide +kernel) rfl
theorem k200_135 : qx sc D 200 135 ls (vi i :: vr a :: st) u bb σ Q ↔ (q_ty a = 0 ∧ 0 ≤ i ∧ i < q_ln a) ∧ qx sc D 200 136 ls (vi (σ a i) :: st) u bb σ Q := r_iald (by decide +kernel)
theorem k200_136 : qx sc D 200 136 ls st u bb σ Q ↔ qx sc D 200 137 ls (vi 0 :: st) u bb σ Q := r_iconst (by decide +kernel)
theorem k200_137 : qx sc (D + 1) 200 137 ls [vi x2, vi x1, vi x0, vr 136] (0, 0) bb σ Q ↔ qx sc D 172 0 [vr 136, vi x0, vi x1, vi x2] [] (0, 0) bb σ (q_kn sc (D + 1) 200 140 ls [] (0, 0) Q) := r_callv (idx := 186) (n := 3) (m := 4) (by decide +kernel) rfl (Nat.le_of_ble_eq_true rfl) ⟨Nat.le_of_ble_eq_true rfl, Nat.le_of_ble_eq_true rfl, rfl⟩ rfl
theorem k200_140 : qx sc D 200 140 [l0, l1, l2, l3, l4, l5, l6] (vi x :: st) u bb σ Q ↔ qx sc D 200 142 [l0, l1, l2, l3, l4, l5, vi x] st u bb σ Q := r_istore (k := 6) (by decide +kernel) (Nat.le_of_ble_eq_true rfl)
theorem k200_142 : qx sc D 200 142 [l0, l1, l2, l3, vi x, l5, l6] st u bb σ Q ↔ qx sc D 200 144 [l0, l1, l2, l3, vi x, l5, l6] (vi x :: st) u bb σ Q := r_iload (k := 4) (by decide +kernel) rfl
theorem k200_144 : qx sc D 200 144 ls [vi x] (0, 0) bb σ Q ↔ Q (.inl (some (vi x))) bb σ := r_ret (by decide +kernel)
-- 201: RowProverModel.place(III)I
theorem k201_0 : qx sc D 201 0 [vr a, l1, l2, l3] st u bb σ Q ↔ qx sc D 201 1 [vr a, l1, l2, l3] (vr a :: st) u bb σ Q := r_aload_n (k := 0) (by decide +kernel) rfl
theorem k201_1 : qx sc D 201 1 ls st u bb σ Q ↔ qx sc D 201 2 ls (vi 0 :: st) u bb σ Q := r_iconst (by decide +kernel)
theorem k201_2 : qx sc D 201 2 ls (vi x :: vr 136 :: st) u bb σ Q ↔ qx sc D 201 5 ls st u bb (q_up σ 136 0 x) Q := r_putI (idx := 3) (c := 15) (k := 0) (by decide +kernel)
theorem k201_5 : qx sc D 201 5 [vr a, l1, l2, l3] st u bb σ Q ↔ qx sc D 201 6 [vr a, l1, l2, l3] (vr a :: st) u bb σ Q := r_aload_n (k := 0) (by decide +kernel) rfl
theorem k201_6 : qx sc D 201 6 [l0, l1, vi x, l3] st u bb σ Q ↔ qx sc D 201 7 [l0, l1, vi x, l3] (vi x :: st) u bb σ Q := r_iload_n (k := 2) (by decide +kernel) rfl
theorem k201_7 : qx sc (D + 1) 201 7 ls [vi x0, vr 136] (0, 0) bb σ Q ↔ qx sc D 186 0 [vr 136, vi x0] [] (0, 0) bb σ (q_kn sc (D + 1) 201 10 ls [] (0, 0) Q) := r_callv (idx := 511) (n := 1) (m := 2) (by decide +kernel) rfl (Nat.le_of_ble_eq_true rfl) ⟨Nat.le_of_ble_eq_true rfl, Nat.le_of_ble_eq_true rfl, rfl⟩ rfl
theorem k201_10 : qx sc D 201 10 ls (vi x :: st) u bb σ Q ↔ (x = 0 → qx sc D 201 13 ls st u bb σ Q) ∧ (¬ (x = 0) → qx sc D 201 35 ls st u bb σ Q) := r_if_ne (off := 25) (t := 35) (by decide +kernel)
theorem k201_13 : qx sc D 201 13 [vr a, l1, l2, l3] st u bb σ Q ↔ qx sc D 201 14 [vr a, l1, l2, l3] (vr a :: st) u bb σ Q := r_aload_n (k := 0) (by decide +kernel) rfl
theorem k201_14 : qx sc D 201 14 [l0, vi x, l2, l3] st u bb σ Q ↔ qx sc D 201 15 [l0, vi x, l2, l3] (vi x :: st) u bb σ Q := r_iload_n (k := 1) (by decide +kernel) rfl
theorem k201_15 : qx sc D 201 15 ls st u bb σ Q ↔ qx sc D 201 16 ls (vi 0 :: st) u bb σ Q := r_iconst (by decide +kernel)
theorem k201_16 : qx sc D 201 16 ls st u bb σ Q ↔ qx sc D 201 17 ls (vi 2 :: st) u bb σ Q := r_iconst (by decide +kernel)
theorem k201_17 : qx sc (D + 1) 201 17 ls [vi x2, vi x1, vi x0, vr a20] (0, 0) bb σ Q ↔ qx sc D 157 0 [vi x0, vi x1, vi x2] [] (0, 0) bb σ (q_kn sc (D + 1) 201 20 ls [vr a20] (0, 0) Q) := r_calls (idx := 498) (n := 3) (m := 3) (by decide +kernel) rfl (Nat.le_of_ble_eq_true rfl) ⟨Nat.le_of_ble_eq_true rfl, Nat.le_of_ble_eq_true rfl, rfl⟩ rfl
theorem k201_20 : qx sc D 201 20 ls (vi x :: st) u bb σ Q ↔ (x = 0 → qx sc D 201 23 ls st u bb σ Q) ∧ (¬ (x = 0) → qx sc D 201 27 ls st u bb σ Q) := r_if_ne (off := 7) (t := 27) (by decide +kernel)
theorem k201_23 : qx sc D 201 23 ls st u bb σ Q ↔ qx sc D 201 24 ls (vi 1 :: st) u bb σ Q := r_iconst (by decide +kernel)
theorem k201_24 : qx sc D 201 24 ls st u bb σ Q ↔ qx sc D 201 28 ls st u bb σ Q := r_goto (off := 4) (by decide +kernel)
theorem k201_27 : qx sc D 201 27 ls st u bb σ Q ↔ qx sc D 201 28 ls (vi 0 :: st) u bb σ Q := r_iconst (by decide +kernel)
theorem k201_28 : qx sc D 201 28 ls st u bb σ Q ↔ qx sc D 201 29 ls (vi 2 :: st) u bb σ Q := r_iconst (by decide +kernel)
theorem k201_29 : qx sc (D + 1) 201 29 ls [vi x1, vi x0, vr 136] (0, 0) bb σ Q ↔ qx sc D 224 0 [vr 136, vi x0, vi x1] [] (0, 0) bb σ (q_kn sc (D + 1) 201 32 ls [] (0, 0) Q) := r_callv (idx := 501) (n := 2) (m := 3) (by decide +kernel) rfl (Nat.le_of_ble_eq_true rfl) ⟨Nat.le_of_ble_eq_true rfl, Nat.le_of_ble_eq_true rfl, rfl⟩ rfl
theorem k201_32 : qx sc D 201 32 ls (vi x :: st) u bb σ Q ↔ (x = 0 → qx sc D 201 37 ls st u bb σ Q) ∧ (¬ (x = 0) → qx sc D 201 35 ls st u bb σ Q) := r_if_eq (off := 5) (t := 37) (by decide +kernel)
theorem k201_35 : qx sc D 201 35 ls st u bb σ Q ↔ qx sc D 201 36 ls (vi 0 :: st) u bb σ Q := r_iconst (by decide +kernel)
theorem k201_36 : qx sc D 201 36 ls [vi x] (0, 0) bb σ Q ↔ Q (.inl (some (vi x))) bb σ := r_ret (by decide +kernel)
theorem k201_37 : qx sc D 201 37 [vr a, l1, l2, l3] st u bb σ Q ↔ qx sc D 201 38 [vr a, l1, l2, l3] (vr a :: st) u bb σ Q := r_aload_n (k := 0) (by decide +kernel) rfl
theorem k201_38 : qx sc D 201 38 [l0, vi x, l2, l3] st u bb σ Q ↔ qx sc D 201 39 [l0, vi x, l2, l3] (vi x :: st) u bb σ Q := r_iload_n (k := 1) (by decide +kernel) rfl
theorem k201_39 : qx sc (D + 1) 201 39 ls [vi x0, vr 136] (0, 0) bb σ Q ↔ qx sc D 209 0 [vr 136, vi x0, vn] [] (0, 0) bb σ (q_kn sc (D + 1) 201 42 ls [] (0, 0) Q) := r_callv (idx := 508) (n := 1) (m := 3) (by decide +kernel) rfl (Nat.le_of_ble_eq_true rfl) ⟨Nat.le_of_ble_eq_true rfl, Nat.le_of_ble_eq_true rfl, rfl⟩ rfl
theorem k201_42 : qx sc D 201 42 [vr a, l1, l2, l3] st u bb σ Q ↔ qx sc D 201 43 [vr a, l1, l2, l3] (vr a :: st) u bb σ Q := r_aload_n (k := 0) (by decide +kernel) rfl
theorem k201_43 : qx sc D 201 43 [l0, l1, l2, vi x] st u bb σ Q ↔ qx sc D 201 44 [l0, l1, l2, vi x] (vi x :: st) u bb σ Q := r_iload_n (k := 3) (by decide +kernel) rfl
theorem k201_44 : qx sc D 201 44 ls st u bb σ Q ↔ qx sc D 201 45 ls (vi 0 :: st) u bb σ Q := r_iconst (by decide +kernel)
theorem k201_45 : qx sc D 201 45 [vr a, l1, l2, l3] st u bb σ Q ↔ qx sc D 201 46 [vr a, l1, l2, l3] (vr a :: st) u bb σ Q := r_aload_n (k := 0) (by decide +kernel) rfl
theorem k201_46 : qx sc D 201 46 [l0, l1, vi x, l3] st u bb σ Q ↔ qx sc D 201 47 [l0, l1, vi x, l3] (vi x :: st) u bb σ Q := r_iload_n (k := 2) (by decide +kernel) rfl
theorem k201_47 : qx sc (D + 1) 201 47 ls [vi x0, vr 136, vi x20, vi x21, vr a22] (0, 0) bb σ Q ↔ qx sc D 176 0 [vr 136, vi x0] [] (0, 0) bb σ (q_kn sc (D + 1) 201 50 ls [vi x20, vi x21, vr a22] (0, 0) Q) := r_callv (idx := 440) (n := 1) (m := 2) (by decide +kernel) rfl (Nat.le_of_ble_eq_true rfl) ⟨Nat.le_of_ble_eq_true rfl, Nat.le_of_ble_eq_true rfl, rfl⟩ rfl
theorem k201_50 : qx sc D 201 50 ls st u bb σ Q ↔ qx sc D 201 51 ls (vi 1 :: st) u bb σ Q := r_iconst (by decide +kernel)
theorem k201_51 : qx sc D 201 51 ls (vi b' :: vi a' :: st) u bb σ Q ↔ q_R (a' - b') ∧ qx sc D 201 52 ls (vi (a' - b') :: st) u bb σ Q := r_isub (by decide +kernel)
theorem k201_52 : qx sc (D + 1) 201 52 ls [vi x2, vi x1, vi x0, vr a20] (0, 0) bb σ Q ↔ qx sc D 157 0 [vi x0, vi x1, vi x2] [] (0, 0) bb σ (q_kn sc (D + 1) 201 55 ls [vr a20] (0, 0) Q) := r_calls (idx := 498) (n := 3) (m := 3) (by decide +kernel) rfl (Nat.le_of_ble_eq_true rfl) ⟨Nat.le_of_ble_eq_true rfl, Nat.le_of_ble_eq_true rfl, rfl⟩ rfl
theorem k201_55 : qx sc D 201 55 ls (vi x :: st) u bb σ Q ↔ (x = 0 → qx sc D 201 58 ls st u bb σ Q) ∧ (¬ (x = 0) → qx sc D 201 62 ls st u bb σ Q) := r_if_ne (off := 7) (t := 62) (by decide +kernel)
theorem k201_58 : qx sc D 201 58 ls st u bb σ Q ↔ qx sc D 201 59 ls (vi 1 :: st) u bb σ Q := r_iconst (by decide +kernel)
theorem k201_59 : qx sc D 201 59 ls st u bb σ Q ↔ qx sc D 201 63 ls st u bb σ Q := r_goto (off := 4) (by decide +kernel)
theorem k201_62 : qx sc D 201 62 ls st u bb σ Q ↔ qx sc D 201 63 ls (vi 0 :: st) u bb σ Q := r_iconst (by decide +kernel)
theorem k201_63 : qx sc D 201 63 ls st u bb σ Q ↔ qx sc D 201 64 ls (vi 3 :: st) u bb σ Q := r_iconst (by decide +kernel)
theorem k201_64 : qx sc (D + 1) 201 64 ls [vi x1, vi x0, vr 136] (0, 0) bb σ Q ↔ qx sc D 224 0 [vr 136, vi x0, vi x1] [] (0, 0) bb σ (q_kn sc (D + 1) 201 67 ls [] (0, 0) Q) := r_callv (idx := 501) (n := 2) (m := 3) (by decide +kernel) rfl (Nat.le_of_ble_eq_true rfl) ⟨Nat.le_of_ble_eq_true rfl, Nat.le_of_ble_eq_true rfl, rfl⟩ rfl
theorem k201_67 : qx sc D 201 67 ls (vi x :: st) u bb σ Q ↔ (x = 0 → qx sc D 201 74 ls st u bb σ Q) ∧ (¬ (x = 0) → qx sc D 201 70 ls st u bb σ Q) := r_if_eq (off := 7) (t := 74) (by decide +kernel)
theorem k201_70 : qx sc D 201 70 ls st u bb σ Q ↔ qx sc D 201 71 ls (vi 0 :: st) u bb σ Q := r_iconst (by decide +kernel)
theorem k201_71 : qx sc D 201 71 ls st u bb σ Q ↔ qx sc D 201 85 ls st u bb σ Q := r_goto (off := 14) (by decide +kernel)
theorem k201_74 : qx sc D 201 74 [vr a, l1, l2, l3] st u bb σ Q ↔ qx sc D 201 75 [vr a, l1, l2, l3] (vr a :: st) u bb σ Q := r_aload_n (k := 0) (by decide +kernel) rfl
theorem k201_75 : qx sc D 201 75 ls (vr 136 :: st) u bb σ Q ↔ qx sc D 201 78 ls (vr 184 :: st) u bb σ Q := r_getR (idx := 344) (c := 15) (k := 66) (by decide +kernel)
theorem k201_78 : qx sc D 201 78 ls st u bb σ Q ↔ qx sc D 201 80 ls (vi 41 :: st) u bb σ Q := r_bipush (by decide +kernel)
theorem k201_80 : qx sc D 201 80 [l0, l1, vi x, l3] st u bb σ Q ↔ qx sc D 201 81 [l0, l1, vi x, l3] (vi x :: st) u bb σ Q := r_iload_n (k := 2) (by decide +kernel) rfl
theorem k201_81 : qx sc D 201 81 ls (vi b' :: vi a' :: st) u bb σ Q ↔ q_R (a' * b') ∧ qx sc D 201 82 ls (vi (a' * b') :: st) u bb σ Q := r_imul (by decide +kernel)
theorem k201_82 : qx sc D 201 82 [l0, l1, l2, vi x] st u bb σ Q ↔ qx sc D 201 83 [l0, l1, l2, vi x] (vi x :: st) u bb σ Q := r_iload_n (k := 3) (by decide +kernel) rfl
theorem k201_83 : qx sc D 201 83 ls (vi b' :: vi a' :: st) u bb σ Q ↔ q_R (a' + b') ∧ qx sc D 201 84 ls (vi (a' + b') :: st) u bb σ Q := r_iadd (by decide +kernel)
theorem k201_84 : qx sc D 201 84 ls (vi i :: vr a :: st) u bb σ Q ↔ (q_ty a = 0 ∧ 0 ≤ i ∧ i < q_ln a) ∧ qx sc D 201 85 ls (vi (σ a i) :: st) u bb σ Q := r_iald (by decide +kernel)
theorem k201_85 : qx sc D 201 85 ls [vi x] (0, 0) bb σ Q ↔ Q (.inl (some (vi x))) bb σ := r_ret (by decide +kernel)
-- 202: RowProverModel.placeOf(I)I
theorem k202_0 : qx sc D 202 0 ls st u bb σ Q ↔ qx sc D 202 2 ls (vi 41 :: st) u bb σ Q := r_bipush (by decide +kernel)
theorem k202_2 : qx sc D 202 2 [vr a, l1] st u bb σ Q ↔ qx sc D 202 3 [vr a, l1] (vr a :: st) u bb σ Q := r_aload_n (k := 0) (by decide +kernel) rfl
theorem k202_3 : qx sc D 202 3 ls (vr 136 :: st) u bb σ Q ↔ qx sc D 202 6 ls (vr 156 :: st) u bb σ Q := r_getR (idx := 199) (c := 15) (k := 33) (by decide +kernel)
theorem k202_6 : qx sc D 202 6 [l0, vi x] st u bb σ Q ↔ qx sc D 202 7 [l0, vi x] (vi x :: st) u bb σ Q := r_iload_n (k := 1) (by decide +kernel) rfl
theorem k202_7 : qx sc D 202 7 ls (vi i :: vr a :: st) u bb σ Q ↔ (q_ty a = 0 ∧ 0 ≤ i ∧ i < q_ln a) ∧ qx sc D 202 8 ls (vi (σ a i) :: st) u bb σ Q := r_iald (by decide +kernel)
theorem k202_8 : qx sc D 202 8 ls (vi b' :: vi a' :: st) u bb σ Q ↔ q_R (a' * b') ∧ qx sc D 202 9 ls (vi (a' * b') :: st) u bb σ Q := r_imul (by decide +kernel)
theorem k202_9 : qx sc D 202 9 [vr a, l1] st u bb σ Q ↔ qx sc D 202 10 [vr a, l1] (vr a :: st) u bb σ Q := r_aload_n (k := 0) (by decide +kernel) rfl
theorem k202_10 : qx sc D 202 10 ls (vr 136 :: st) u bb σ Q ↔ qx sc D 202 13 ls (vr 183 :: st) u bb σ Q := r_getR (idx := 341) (c := 15) (k := 65) (by decide +kernel)
theorem k202_13 : qx sc D 202 13 [vr a, l1] st u bb σ Q ↔ qx sc D 202 14 [vr a, l1] (vr a :: st) u bb σ Q := r_aload_n (k := 0) (by decide +kernel) rfl
theorem k202_14 : qx sc D 202 14 ls (vr 136 :: st) u bb σ Q ↔ qx sc D 202 17 ls (vr 147 :: st) u bb σ Q := r_getR (idx := 33) (c := 15) (k := 24) (by decide +kernel)
theorem k202_17 : qx sc D 202 17 [vr a, l1] st u bb σ Q ↔ qx sc D 202 18 [vr a, l1] (vr a :: st) u bb σ Q := r_aload_n (k := 0) (by decide +kernel) rfl
theorem k202_18 : qx sc D 202 18 ls (vr 136 :: st) u bb σ Q ↔ qx sc D 202 21 ls (vr 157 :: st) u bb σ Q := r_getR (idx := 202) (c := 15) (k := 34) (by decide +kernel)
theorem k202_21 : qx sc D 202 21 [l0, vi x] st u bb σ Q ↔ qx sc D 202 22 [l0, vi x] (vi x :: st) u bb σ Q := r_iload_n (k := 1) (by decide +kernel) rfl
theorem k202_22 : qx sc D 202 22 ls (vi i :: vr a :: st) u bb σ Q ↔ (q_ty a = 0 ∧ 0 ≤ i ∧ i < q_ln a) ∧ qx sc D 202 23 ls (vi (σ a i) :: st) u bb σ Q := r_iald (by decide +kernel)
theorem k202_23 : qx sc D 202 23 ls (vi i :: vr a :: st) u bb σ Q ↔ (q_ty a = 0 ∧ 0 ≤ i ∧ i < q_ln a) ∧ qx sc D 202 24 ls (vi (σ a i) :: st) u bb σ Q := r_iald (by decide +kernel)
theorem k202_24 : qx sc D 202 24 ls (vi i :: vr a :: st) u bb σ Q ↔ (q_ty a = 0 ∧ 0 ≤ i ∧ i < q_ln a) ∧ qx sc D 202 25 ls (vi (σ a i) :: st) u bb σ Q := r_iald (by decide +kernel)
theorem k202_25 : qx sc D 202 25 ls (vi b' :: vi a' :: st) u bb σ Q ↔ q_R (a' + b') ∧ qx sc D 202 26 ls (vi (a' + b') :: st) u bb σ Q := r_iadd (by decide +kernel)
theorem k202_26 : qx sc D 202 26 ls [vi x] (0, 0) bb σ Q ↔ Q (.inl (some (vi x))) bb σ := r_ret (by decide +kernel)
-- 203: RowProverModel.read()I
theorem k203_0 : qx sc D 203 0 [vr a, l1, l2] st u bb σ Q ↔ qx sc D 203 1 [vr a, l1, l2] (vr a :: st) u bb σ Q := r_aload_n (k := 0) (by decide +kernel) rfl
theorem k203_1 : qx sc D 203 1 ls st u bb σ Q ↔ qx sc D 203 2 ls (vi 0 :: st) u bb σ Q := r_iconst (by decide +kernel)
theorem k203_2 : qx sc D 203 2 ls (vi x :: vr 136 :: st) u bb σ Q ↔ qx sc D 203 5 ls st u bb (q_up σ 136 0 x) Q := r_putI (idx := 3) (c := 15) (k := 0) (by decide +kernel)
theorem k203_5 : qx sc D 203 5 [vr a, l1, l2] st u bb σ Q ↔ qx sc D 203 6 [vr a, l1, l2] (vr a :: st) u bb σ Q := r_aload_n (k := 0) (by decide +kernel) rfl
theorem k203_6 : qx sc D 203 6 [vr a, l1, l2] st u bb σ Q ↔ qx sc D 203 7 [vr a, l1, l2] (vr a :: st) u bb σ Q := r_aload_n (k := 0) (by decide +kernel) rfl
theorem k203_7 : qx sc D 203 7 ls (vr 136 :: st) u bb σ Q ↔ qx sc D 203 10 ls (vi (σ 136 2) :: st) u bb σ Q := r_getI (idx := 7) (c := 15) (k := 2) (by decide +kernel)
theorem k203_10 : qx sc D 203 10 ls (vi x :: vr 136 :: st) u bb σ Q ↔ qx sc D 203 13 ls st u bb (q_up σ 136 6 x) Q := r_putI (idx := 66) (c := 15) (k := 6) (by decide +kernel)
theorem k203_13 : qx sc D 203 13 ls st u bb σ Q ↔ qx sc D 203 14 ls (vi 0 :: st) u bb σ Q := r_iconst (by decide +kernel)
theorem k203_14 : qx sc D 203 14 [l0, l1, l2] (vi x :: st) u bb σ Q ↔ qx sc D 203 15 [l0, vi x, l2] st u bb σ Q := r_istore_n (k := 1) (by decide +kernel) (Nat.le_of_ble_eq_true rfl)
theorem k203_15 : qx sc D 203 15 [l0, vi x, l2] st u bb σ Q ↔ qx sc D 203 16 [l0, vi x, l2] (vi x :: st) u bb σ Q := r_iload_n (k := 1) (by decide +kernel) rfl
theorem k203_16 : qx sc D 203 16 [vr a, l1, l2] st u bb σ Q ↔ qx sc D 203 17 [vr a, l1, l2] (vr a :: st) u bb σ Q := r_aload_n (k := 0) (by decide +kernel) rfl
theorem k203_17 : qx sc D 203 17 ls (vr 136 :: st) u bb σ Q ↔ qx sc D 203 20 ls (vi (σ 136 2) :: st) u bb σ Q := r_getI (idx := 7) (c := 15) (k := 2) (by decide +kernel)
theorem k203_20 : qx sc D 203 20 ls (vi b' :: vi a' :: st) u bb σ Q ↔ (a' < b' → qx sc D 203 23 ls st u bb σ Q) ∧ (¬ (a' < b') → qx sc D 203 41 ls st u bb σ Q) := r_ic_ge (off := 21) (t := 41) (by decide +kernel)
theorem k203_23 : qx sc D 203 23 [vr a, l1, l2] st u bb σ Q ↔ qx sc D 203 24 [vr a, l1, l2] (vr a :: st) u bb σ Q := r_aload_n (k := 0) (by decide +kernel) rfl
theorem k203_24 : qx sc D 203 24 ls (vr 136 :: st) u bb σ Q ↔ qx sc D 203 27 ls (vr 139 :: st) u bb σ Q := r_getR (idx := 69) (c := 15) (k := 4) (by decide +kernel)
theorem k203_27 : qx sc D 203 27 [l0, vi x, l2] st u bb σ Q ↔ qx sc D 203 28 [l0, vi x, l2] (vi x :: st) u bb σ Q := r_iload_n (k := 1) (by decide +kernel) rfl
theorem k203_28 : qx sc D 203 28 [vr a, l1, l2] st u bb σ Q ↔ qx sc D 203 29 [vr a, l1, l2] (vr a :: st) u bb σ Q := r_aload_n (k := 0) (by decide +kernel) rfl
theorem k203_29 : qx sc D 203 29 ls (vr 136 :: st) u bb σ Q ↔ qx sc D 203 32 ls (vr 137 :: st) u bb σ Q := r_getR (idx := 14) (c := 15) (k := 1) (by decide +kernel)
theorem k203_32 : qx sc D 203 32 [l0, vi x, l2] st u bb σ Q ↔ qx sc D 203 33 [l0, vi x, l2] (vi x :: st) u bb σ Q := r_iload_n (k := 1) (by decide +kernel) rfl
theorem k203_33 : qx sc D 203 33 ls (vi i :: vr a :: st) u bb σ Q ↔ ((q_ty a = 1 ∨ q_ty a = 2) ∧ 0 ≤ i ∧ i < q_ln a) ∧ qx sc D 203 34 ls (vi (σ a i) :: st) u bb σ Q := r_bald (by decide +kernel)
theorem k203_34 : qx sc D 203 34 ls (vi x :: vi i :: vr a :: st) u bb σ Q ↔ (((q_ty a = 1 ∧ -128 ≤ x ∧ x ≤ 127) ∨ (q_ty a = 2 ∧ (x = 0 ∨ x = 1))) ∧ 0 ≤ i ∧ i < q_ln a) ∧ qx sc D 203 35 ls st u bb (q_up σ a i x) Q := r_bast (by decide +kernel)
theorem k203_35 : qx sc D 203 35 [l0, vi x, l2] st u bb σ Q ↔ q_R (x + 1) ∧ qx sc D 203 38 [l0, vi (x + 1), l2] st u bb σ Q := r_iinc (k := 1) (n := 1) (by decide +kernel) rfl
theorem k203_38 : qx sc D 203 38 ls st u bb σ Q ↔ qx sc D 203 15 ls st u bb σ Q := r_goto (off := (-23)) (by decide +kernel)
theorem k203_41 : qx sc D 203 41 [vr a, l1, l2] st u bb σ Q ↔ qx sc D 203 42 [vr a, l1, l2] (vr a :: st) u bb σ Q := r_aload_n (k := 0) (by decide +kernel) rfl
theorem k203_42 : qx sc D 203 42 ls st u bb σ Q ↔ qx sc D 203 43 ls (vi 0 :: st) u bb σ Q := r_iconst (by decide +kernel)
theorem k203_43 : qx sc D 203 43 ls (vi x :: vr 136 :: st) u bb σ Q ↔ qx sc D 203 46 ls st u bb (q_up σ 136 2 x) Q := r_putI (idx := 7) (c := 15) (k := 2) (by decide +kernel)
theorem k203_46 : qx sc D 203 46 [vr a, l1, l2] st u bb σ Q ↔ qx sc D 203 47 [vr a, l1, l2] (vr a :: st) u bb σ Q := r_aload_n (k := 0) (by decide +kernel) rfl
theorem k203_47 : qx sc (D + 1) 203 47 ls [vr 136] (0, 0) bb σ Q ↔ qx sc D 204 0 [vr 136, vn, vn] [] (0, 0) bb σ (q_kn sc (D + 1) 203 50 ls [] (0, 0) Q) := r_callv (idx := 355) (n := 0) (m := 3) (by decide +kernel) rfl (Nat.le_of_ble_eq_true rfl) ⟨Nat.le_of_ble_eq_true rfl, Nat.le_of_ble_eq_true rfl, rfl⟩ rfl
theorem k203_50 : qx sc D 203 50 [l0, l1, l2] (vi x :: st) u bb σ Q ↔ qx sc D 203 51 [l0, vi x, l2] st u bb σ Q := r_istore_n (k := 1) (by decide +kernel) (Nat.le_of_ble_eq_true rfl)
theorem k203_51 : qx sc D 203 51 [vr a, l1, l2] st u bb σ Q ↔ qx sc D 203 52 [vr a, l1, l2] (vr a :: st) u bb σ Q := r_aload_n (k := 0) (by decide +kernel) rfl
theorem k203_52 : qx sc D 203 52 [vr a, l1, l2] st u bb σ Q ↔ qx sc D 203 53 [vr a, l1, l2] (vr a :: st) u bb σ Q := r_aload_n (k := 0) (by decide +kernel) rfl
theorem k203_53 : qx sc D 203 53 ls (vr 136 :: st) u bb σ Q ↔ qx sc D 203 56 ls (vi (σ 136 10) :: st) u bb σ Q := r_getI (idx := 60) (c := 15) (k := 10) (by decide +kernel)
theorem k203_56 : qx sc D 203 56 ls (vi x :: vr 136 :: st) u bb σ Q ↔ qx sc D 203 59 ls st u bb (q_up σ 136 52 x) Q := r_putI (idx := 307) (c := 15) (k := 52) (by decide +kernel)
theorem k203_59 : qx sc D 203 59 [l0, vi x, l2] st u bb σ Q ↔ qx sc D 203 60 [l0, vi x, l2] (vi x :: st) u bb σ Q := r_iload_n (k := 1) (by decide +kernel) rfl
theorem k203_60 : qx sc D 203 60 ls (vi x :: st) u bb σ Q ↔ (x = 0 → qx sc D 203 104 ls st u bb σ Q) ∧ (¬ (x = 0) → qx sc D 203 63 ls st u bb σ Q) := r_if_eq (off := 44) (t := 104) (by decide +kernel)
theorem k203_63 : qx sc D 203 63 [vr a, l1, l2] st u bb σ Q ↔ qx sc D 203 64 [vr a, l1, l2] (vr a :: st) u bb σ Q := r_aload_n (k := 0) (by decide +kernel) rfl
theorem k203_64 : qx sc D 203 64 [vr a, l1, l2] st u bb σ Q ↔ qx sc D 203 65 [vr a, l1, l2] (vr a :: st) u bb σ Q := r_aload_n (k := 0) (by decide +kernel) rfl
theorem k203_65 : qx sc D 203 65 ls (vr 136 :: st) u bb σ Q ↔ qx sc D 203 68 ls (vi (σ 136 6) :: st) u bb σ Q := r_getI (idx := 66) (c := 15) (k := 6) (by decide +kernel)
theorem k203_68 : qx sc D 203 68 ls (vi x :: vr 136 :: st) u bb σ Q ↔ qx sc D 203 71 ls st u bb (q_up σ 136 7 x) Q := r_putI (idx := 358) (c := 15) (k := 7) (by decide +kernel)
theorem k203_71 : qx sc D 203 71 ls st u bb σ Q ↔ qx sc D 203 72 ls (vi 0 :: st) u bb σ Q := r_iconst (by decide +kernel)
theorem k203_72 : qx sc D 203 72 [l0, l1, l2] (vi x :: st) u bb σ Q ↔ qx sc D 203 73 [l0, l1, vi x] st u bb σ Q := r_istore_n (k := 2) (by decide +kernel) (Nat.le_of_ble_eq_true rfl)
theorem k203_73 : qx sc D 203 73 [l0, l1, vi x] st u bb σ Q ↔ qx sc D 203 74 [l0, l1, vi x] (vi x :: st) u bb σ Q := r_iload_n (k := 2) (by decide +kernel) rfl
theorem k203_74 : qx sc D 203 74 [vr a, l1, l2] st u bb σ Q ↔ qx sc D 203 75 [vr a, l1, l2] (vr a :: st) u bb σ Q := r_aload_n (k := 0) (by decide +kernel) rfl
theorem k203_75 : qx sc D 203 75 ls (vr 136 :: st) u bb σ Q ↔ qx sc D 203 78 ls (vi (σ 136 6) :: st) u bb σ Q := r_getI (idx := 66) (c := 15) (k := 6) (by decide +kernel)
theorem k203_78 : qx sc D 203 78 ls (vi b' :: vi a' :: st) u bb σ Q ↔ (a' < b' → qx sc D 203 81 ls st u bb σ Q) ∧ (¬ (a' < b') → qx sc D 203 99 ls st u bb σ Q) := r_ic_ge (off := 21) (t := 99) (by decide +kernel)
theorem k203_81 : qx sc D 203 81 [vr a, l1, l2] st u bb σ Q ↔ qx sc D 203 82 [vr a, l1, l2] (vr a :: st) u bb σ Q := r_aload_n (k := 0) (by decide +kernel) rfl
theorem k203_82 : qx sc D 203 82 ls (vr 136 :: st) u bb σ Q ↔ qx sc D 203 85 ls (vr 140 :: st) u bb σ Q := r_getR (idx := 304) (c := 15) (k := 5) (by decide +kernel)
theorem k203_85 : qx sc D 203 85 [l0, l1, vi x] st u bb σ Q ↔ qx sc D 203 86 [l0, l1, vi x] (vi x :: st) u bb σ Q := r_iload_n (k := 2) (by decide +kernel) rfl
theorem k203_86 : qx sc D 203 86 [vr a, l1, l2] st u bb σ Q ↔ qx sc D 203 87 [vr a, l1, l2] (vr a :: st) u bb σ Q := r_aload_n (k := 0) (by decide +kernel) rfl
theorem k203_87 : qx sc D 203 87 ls (vr 136 :: st) u bb σ Q ↔ qx sc D 203 90 ls (vr 139 :: st) u bb σ Q := r_getR (idx := 69) (c := 15) (k := 4) (by decide +kernel)
theorem k203_90 : qx sc D 203 90 [l0, l1, vi x] st u bb σ Q ↔ qx sc D 203 91 [l0, l1, vi x] (vi x :: st) u bb σ Q := r_iload_n (k := 2) (by decide +kernel) rfl
theorem k203_91 : qx sc D 203 91 ls (vi i :: vr a :: st) u bb σ Q ↔ ((q_ty a = 1 ∨ q_ty a = 2) ∧ 0 ≤ i ∧ i < q_ln a) ∧ qx sc D 203 92 ls (vi (σ a i) :: st) u bb σ Q := r_bald (by decide +kernel)
theorem k203_92 : qx sc D 203 92 ls (vi x :: vi i :: vr a :: st) u bb σ Q ↔ (((q_ty a = 1 ∧ -128 ≤ x ∧ x ≤ 127) ∨ (q_ty a = 2 ∧ (x = 0 ∨ x = 1))) ∧ 0 ≤ i ∧ i < q_ln a) ∧ qx sc D 203 93 ls st u bb (q_up σ a i x) Q := r_bast (by decide +kernel)
theorem k203_93 : qx sc D 203 93 [l0, l1, vi x] st u bb σ Q ↔ q_R (x + 1) ∧ qx sc D 203 96 [l0, l1, vi (x + 1)] st u bb σ Q := r_iinc (k := 2) (n := 1) (by decide +kernel) rfl
theorem k203_96 : qx sc D 203 96 ls st u bb σ Q ↔ qx sc D 203 73 ls st u bb σ Q := r_goto (off := (-23)) (by decide +kernel)
theorem k203_99 : qx sc D 203 99 [vr a, l1, l2] st u bb σ Q ↔ qx sc D 203 100 [vr a, l1, l2] (vr a :: st) u bb σ Q := r_aload_n (k := 0) (by decide +kernel) rfl
theorem k203_100 : qx sc D 203 100 ls (vr 136 :: st) u bb σ Q ↔ qx sc D 203 103 ls (vi (σ 136 14) :: st) u bb σ Q := r_getI (idx := 148) (c := 15) (k := 14) (by decide +kernel)
theorem k203_103 : qx sc D 203 103 ls [vi x] (0, 0) bb σ Q ↔ Q (.inl (some (vi x))) bb σ := r_ret (by decide +kernel)
theorem k203_104 : qx sc D 203 104 [vr a, l1, l2] st u bb σ Q ↔ qx sc D 203 105 [vr a, l1, l2] (vr a :: st) u bb σ Q := r_aload_n (k := 0) (by decide +kernel) rfl
theorem k203_105 : qx sc D 203 105 ls st u bb σ Q ↔ qx sc D 203 106 ls (vi 1 :: st) u bb σ Q := r_iconst (by decide +kernel)
theorem k203_106 : qx sc D 203 106 ls (vi x :: vr 136 :: st) u bb σ Q ↔ qx sc D 203 109 ls st u bb (q_up σ 136 0 x) Q := r_putI (idx := 3) (c := 15) (k := 0) (by decide +kernel)
theorem k203_109 : qx sc D 203 109 [vr a, l1, l2] st u bb σ Q ↔ qx sc D 203 110 [vr a, l1, l2] (vr a :: st) u bb σ Q := r_aload_n (k := 0) (by decide +kernel) rfl
theorem k203_110 : qx sc D 203 110 [vr a, l1, l2] st u bb σ Q ↔ qx sc D 203 111 [vr a, l1, l2] (vr a :: st) u bb σ Q := r_aload_n (k := 0) (by decide +kernel) rfl
theorem k203_111 : qx sc D 203 111 ls (vr 136 :: st) u bb σ Q ↔ qx sc D 203 114 ls (vi (σ 136 7) :: st) u bb σ Q := r_getI (idx := 358) (c := 15) (k := 7) (by decide +kernel)
theorem k203_114 : qx sc D 203 114 ls (vi x :: vr 136 :: st) u bb σ Q ↔ qx sc D 203 117 ls st u bb (q_up σ 136 6 x) Q := r_putI (idx := 66) (c := 15) (k := 6) (by decide +kernel)
theorem k203_117 : qx sc D 203 117 ls st u bb σ Q ↔ qx sc D 203 118 ls (vi 0 :: st) u bb σ Q := r_iconst (by decide +kernel)
theorem k203_118 : qx sc D 203 118 [l0, l1, l2] (vi x :: st) u bb σ Q ↔ qx sc D 203 119 [l0, l1, vi x] st u bb σ Q := r_istore_n (k := 2) (by decide +kernel) (Nat.le_of_ble_eq_true rfl)
theorem k203_119 : qx sc D 203 119 [l0, l1, vi x] st u bb σ Q ↔ qx sc D 203 120 [l0, l1, vi x] (vi x :: st) u bb σ Q := r_iload_n (k := 2) (by decide +kernel) rfl
theorem k203_120 : qx sc D 203 120 [vr a, l1, l2] st u bb σ Q ↔ qx sc D 203 121 [vr a, l1, l2] (vr a :: st) u bb σ Q := r_aload_n (k := 0) (by decide +kernel) rfl
theorem k203_121 : qx sc D 203 121 ls (vr 136 :: st) u bb σ Q ↔ qx sc D 203 124 ls (vi (σ 136 6) :: st) u bb σ Q := r_getI (idx := 66) (c := 15) (k := 6) (by decide +kernel)
theorem k203_124 : qx sc D 203 124 ls (vi b' :: vi a' :: st) u bb σ Q ↔ (a' < b' → qx sc D 203 127 ls st u bb σ Q) ∧ (¬ (a' < b') → qx sc D 203 145 ls st u bb σ Q) := r_ic_ge (off := 21) (t := 145) (by decide +kernel)
theorem k203_127 : qx sc D 203 127 [vr a, l1, l2] st u bb σ Q ↔ qx sc D 203 128 [vr a, l1, l2] (vr a :: st) u bb σ Q := r_aload_n (k := 0) (by decide +kernel) rfl
theorem k203_128 : qx sc D 203 128 ls (vr 136 :: st) u bb σ Q ↔ qx sc D 203 131 ls (vr 139 :: st) u bb σ Q := r_getR (idx := 69) (c := 15) (k := 4) (by decide +kernel)
theorem k203_131 : qx sc D 203 131 [l0, l1, vi x] st u bb σ Q ↔ qx sc D 203 132 [l0, l1, vi x] (vi x :: st) u bb σ Q := r_iload_n (k := 2) (by decide +kernel) rfl
theorem k203_132 : qx sc D 203 132 [vr a, l1, l2] st u bb σ Q ↔ qx sc D 203 133 [vr a, l1, l2] (vr a :: st) u bb σ Q := r_aload_n (k := 0) (by decide +kernel) rfl
theorem k203_133 : qx sc D 203 133 ls (vr 136 :: st) u bb σ Q ↔ qx sc D 203 136 ls (vr 140 :: st) u bb σ Q := r_getR (idx := 304) (c := 15) (k := 5) (by decide +kernel)
theorem k203_136 : qx sc D 203 136 [l0, l1, vi x] st u bb σ Q ↔ qx sc D 203 137 [l0, l1, vi x] (vi x :: st) u bb σ Q := r_iload_n (k := 2) (by decide +kernel) rfl
theorem k203_137 : qx sc D 203 137 ls (vi i :: vr a :: st) u bb σ Q ↔ ((q_ty a = 1 ∨ q_ty a = 2) ∧ 0 ≤ i ∧ i < q_ln a) ∧ qx sc D 203 138 ls (vi (σ a i) :: st) u bb σ Q := r_bald (by decide +kernel)
theorem k203_138 : qx sc D 203 138 ls (vi x :: vi i :: vr a :: st) u bb σ Q ↔ (((q_ty a = 1 ∧ -128 ≤ x ∧ x ≤ 127) ∨ (q_ty a = 2 ∧ (x = 0 ∨ x = 1))) ∧ 0 ≤ i ∧ i < q_ln a) ∧ qx sc D 203 139 ls st u bb (q_up σ a i x) Q := r_bast (by decide +kernel)
theorem k203_139 : qx sc D 203 139 [l0, l1, vi x] st u bb σ Q ↔ q_R (x + 1) ∧ qx sc D 203 142 [l0, l1, vi (x + 1)] st u bb σ Q := r_iinc (k := 2) (n := 1) (by decide +kernel) rfl
theorem k203_142 : qx sc D 203 142 ls st u bb σ Q ↔ qx sc D 203 119 ls st u bb σ Q := r_goto (off := (-23)) (by decide +kernel)
theorem k203_145 : qx sc D 203 145 [vr a, l1, l2] st u bb σ Q ↔ qx sc D 203 146 [vr a, l1, l2] (vr a :: st) u bb σ Q := r_aload_n (k := 0) (by decide +kernel) rfl
theorem k203_146 : qx sc (D + 1) 203 146 ls [vr 136] (0, 0) bb σ Q ↔ qx sc D 204 0 [vr 136, vn, vn] [] (0, 0) bb σ (q_kn sc (D + 1) 203 149 ls [] (0, 0) Q) := r_callv (idx := 355) (n := 0) (m := 3) (by decide +kernel) rfl (Nat.le_of_ble_eq_true rfl) ⟨Nat.le_of_ble_eq_true rfl, Nat.le_of_ble_eq_true rfl, rfl⟩ rfl
theorem k203_149 : qx sc D 203 149 [l0, l1, l2] (vi x :: st) u bb σ Q ↔ qx sc D 203 150 [l0, vi x, l2] st u bb σ Q := r_istore_n (k := 1) (by decide +kernel) (Nat.le_of_ble_eq_true rfl)
theorem k203_150 : qx sc D 203 150 ls st u bb σ Q ↔ qx sc D 203 151 ls (vi 0 :: st) u bb σ Q := r_iconst (by decide +kernel)
theorem k203_151 : qx sc D 203 151 ls [vi x] (0, 0) bb σ Q ↔ Q (.inl (some (vi x))) bb σ := r_ret (by decide +kernel)
-- 204: RowProverModel.reads()Z
theorem k204_0 : qx sc D 204 0 [vr a, l1, l2] st u bb σ Q ↔ qx sc D 204 1 [vr a, l1, l2] (vr a :: st) u bb σ Q := r_aload_n (k := 0) (by decide +kernel) rfl
theorem k204_1 : qx sc D 204 1 ls st u bb σ Q ↔ qx sc D 204 2 ls (vi 0 :: st) u bb σ Q := r_iconst (by decide +kernel)
theorem k204_2 : qx sc D 204 2 ls (vi x :: vr 136 :: st) u bb σ Q ↔ qx sc D 204 5 ls st u bb (q_up σ 136 8 x) Q := r_putI (idx := 63) (c := 15) (k := 8) (by decide +kernel)
theorem k204_5 : qx sc D 204 5 [vr a, l1, l2] st u bb σ Q ↔ qx sc D 204 6 [vr a, l1, l2] (vr a :: st) u bb σ Q := r_aload_n (k := 0) (by decide +kernel) rfl
theorem k204_6 : qx sc D 204 6 ls st u bb σ Q ↔ qx sc D 204 7 ls (vi (-1) :: st) u bb σ Q := r_iconst (by decide +kernel)
theorem k204_7 : qx sc D 204 7 ls (vi x :: vr 136 :: st) u bb σ Q ↔ qx sc D 204 10 ls st u bb (q_up σ 136 10 x) Q := r_putI (idx := 60) (c := 15) (k := 10) (by decide +kernel)
theorem k204_10 : qx sc D 204 10 [vr a, l1, l2] st u bb σ Q ↔ qx sc D 204 11 [vr a, l1, l2] (vr a :: st) u bb σ Q := r_aload_n (k := 0) (by decide +kernel) rfl
theorem k204_11 : qx sc D 204 11 ls st u bb σ Q ↔ qx sc D 204 12 ls (vi 0 :: st) u bb σ Q := r_iconst (by decide +kernel)
theorem k204_12 : qx sc D 204 12 ls (vi x :: vr 136 :: st) u bb σ Q ↔ qx sc D 204 15 ls st u bb (q_up σ 136 11 x) Q := r_putI (idx := 239) (c := 15) (k := 11) (by decide +kernel)
theorem k204_15 : qx sc D 204 15 [vr a, l1, l2] st u bb σ Q ↔ qx sc D 204 16 [vr a, l1, l2] (vr a :: st) u bb σ Q := r_aload_n (k := 0) (by decide +kernel) rfl
theorem k204_16 : qx sc D 204 16 ls st u bb σ Q ↔ qx sc D 204 17 ls (vi 0 :: st) u bb σ Q := r_iconst (by decide +kernel)
theorem k204_17 : qx sc D 204 17 ls (vi x :: vr 136 :: st) u bb σ Q ↔ qx sc D 204 20 ls st u bb (q_up σ 136 13 x) Q := r_putI (idx := 117) (c := 15) (k := 13) (by decide +kernel)
theorem k204_20 : qx sc D 204 20 [vr a, l1, l2] st u bb σ Q ↔ qx sc D 204 21 [vr a, l1, l2] (vr a :: st) u bb σ Q := r_aload_n (k := 0) (by decide +kernel) rfl
theorem k204_21 : qx sc D 204 21 ls st u bb σ Q ↔ qx sc D 204 22 ls (vi 0 :: st) u bb σ Q := r_iconst (by decide +kernel)
theorem k204_22 : qx sc D 204 22 ls (vi x :: vr 136 :: st) u bb σ Q ↔ qx sc D 204 25 ls st u bb (q_up σ 136 14 x) Q := r_putI (idx := 148) (c := 15) (k := 14) (by decide +kernel)
theorem k204_25 : qx sc D 204 25 [vr a, l1, l2] st u bb σ Q ↔ qx sc D 204 26 [vr a, l1, l2] (vr a :: st) u bb σ Q := r_aload_n (k := 0) (by decide +kernel) rfl
theorem k204_26 : qx sc D 204 26 ls st u bb σ Q ↔ qx sc D 204 27 ls (vi 0 :: st) u bb σ Q := r_iconst (by decide +kernel)
theorem k204_27 : qx sc D 204 27 ls (vi x :: vr 136 :: st) u bb σ Q ↔ qx sc D 204 30 ls st u bb (q_up σ 136 15 x) Q := r_putI (idx := 30) (c := 15) (k := 15) (by decide +kernel)
theorem k204_30 : qx sc D 204 30 [vr a, l1, l2] st u bb σ Q ↔ qx sc D 204 31 [vr a, l1, l2] (vr a :: st) u bb σ Q := r_aload_n (k := 0) (by decide +kernel) rfl
theorem k204_31 : qx sc D 204 31 ls st u bb σ Q ↔ qx sc D 204 32 ls (vi 0 :: st) u bb σ Q := r_iconst (by decide +kernel)
theorem k204_32 : qx sc D 204 32 ls (vi x :: vr 136 :: st) u bb σ Q ↔ qx sc D 204 35 ls st u bb (q_up σ 136 16 x) Q := r_putI (idx := 193) (c := 15) (k := 16) (by decide +kernel)
theorem k204_35 : qx sc D 204 35 [vr a, l1, l2] st u bb σ Q ↔ qx sc D 204 36 [vr a, l1, l2] (vr a :: st) u bb σ Q := r_aload_n (k := 0) (by decide +kernel) rfl
theorem k204_36 : qx sc D 204 36 ls st u bb σ Q ↔ qx sc D 204 37 ls (vi 0 :: st) u bb σ Q := r_iconst (by decide +kernel)
theorem k204_37 : qx sc D 204 37 ls (vi x :: vr 136 :: st) u bb σ Q ↔ qx sc D 204 40 ls st u bb (q_up σ 136 17 x) Q := r_putI (idx := 275) (c := 15) (k := 17) (by decide +kernel)
theorem k204_40 : qx sc D 204 40 [vr a, l1, l2] st u bb σ Q ↔ qx sc D 204 41 [vr a, l1, l2] (vr a :: st) u bb σ Q := r_aload_n (k := 0) (by decide +kernel) rfl
theorem k204_41 : qx sc D 204 41 ls st u bb σ Q ↔ qx sc D 204 42 ls (vi 0 :: st) u bb σ Q := r_iconst (by decide +kernel)
theorem k204_42 : qx sc D 204 42 ls (vi x :: vr 136 :: st) u bb σ Q ↔ qx sc D 204 45 ls st u bb (q_up σ 136 18 x) Q := r_putI (idx := 21) (c := 15) (k := 18) (by decide +kernel)
theorem k204_45 : qx sc D 204 45 [vr a, l1, l2] st u bb σ Q ↔ qx sc D 204 46 [vr a, l1, l2] (vr a :: st) u bb σ Q := r_aload_n (k := 0) (by decide +kernel) rfl
theorem k204_46 : qx sc D 204 46 ls st u bb σ Q ↔ qx sc D 204 47 ls (vi (-1) :: st) u bb σ Q := r_iconst (by decide +kernel)
theorem k204_47 : qx sc D 204 47 ls (vi x :: vr 136 :: st) u bb σ Q ↔ qx sc D 204 50 ls st u bb (q_up σ 136 49 x) Q := r_putI (idx := 163) (c := 15) (k := 49) (by decide +kernel)
theorem k204_50 : qx sc D 204 50 [vr a, l1, l2] st u bb σ Q ↔ qx sc D 204 51 [vr a, l1, l2] (vr a :: st) u bb σ Q := r_aload_n (k := 0) (by decide +kernel) rfl
theorem k204_51 : qx sc D 204 51 ls st u bb σ Q ↔ qx sc D 204 52 ls (vi 0 :: st) u bb σ Q := r_iconst (by decide +kernel)
theorem k204_52 : qx sc D 204 52 ls (vi x :: vr 136 :: st) u bb σ Q ↔ qx sc D 204 55 ls st u bb (q_up σ 136 51 x) Q := r_putI (idx := 245) (c := 15) (k := 51) (by decide +kernel)
theorem k204_55 : qx sc D 204 55 ls st u bb σ Q ↔ qx sc D 204 56 ls (vi 0 :: st) u bb σ Q := r_iconst (by decide +kernel)
theorem k204_56 : qx sc D 204 56 [l0, l1, l2] (vi x :: st) u bb σ Q ↔ qx sc D 204 57 [l0, vi x, l2] st u bb σ Q := r_istore_n (k := 1) (by decide +kernel) (Nat.le_of_ble_eq_true rfl)
theorem k204_57 : qx sc D 204 57 [l0, vi x, l2] st u bb σ Q ↔ qx sc D 204 58 [l0, vi x, l2] (vi x :: st) u bb σ Q := r_iload_n (k := 1) (by decide +kernel) rfl
theorem k204_58 : qx sc D 204 58 ls st u bb σ Q ↔ qx sc D 204 59 ls (vi 3 :: st) u bb σ Q := r_iconst (by decide +kernel)
theorem k204_59 : qx sc D 204 59 ls (vi b' :: vi a' :: st) u bb σ Q ↔ (a' < b' → qx sc D 204 62 ls st u bb σ Q) ∧ (¬ (a' < b') → qx sc D 204 75 ls st u bb σ Q) := r_ic_ge (off := 16) (t := 75) (by decide +kernel)
theorem k204_62 : qx sc D 204 62 [vr a, l1, l2] st u bb σ Q ↔ qx sc D 204 63 [vr a, l1, l2] (vr a :: st) u bb σ Q := r_aload_n (k := 0) (by decide +kernel) rfl
theorem k204_63 : qx sc D 204 63 ls (vr 136 :: st) u bb σ Q ↔ qx sc D 204 66 ls (vr 141 :: st) u bb σ Q := r_getR (idx := 128) (c := 15) (k := 12) (by decide +kernel)
theorem k204_66 : qx sc D 204 66 [l0, vi x, l2] st u bb σ Q ↔ qx sc D 204 67 [l0, vi x, l2] (vi x :: st) u bb σ Q := r_iload_n (k := 1) (by decide +kernel) rfl
theorem k204_67 : qx sc D 204 67 ls st u bb σ Q ↔ qx sc D 204 68 ls (vi 0 :: st) u bb σ Q := r_iconst (by decide +kernel)
theorem k204_68 : qx sc D 204 68 ls (vi x :: vi i :: vr a :: st) u bb σ Q ↔ (q_ty a = 0 ∧ 0 ≤ i ∧ i < q_ln a) ∧ qx sc D 204 69 ls st u bb (q_up σ a i x) Q := r_iast (by decide +kernel)
theorem k204_69 : qx sc D 204 69 [l0, vi x, l2] st u bb σ Q ↔ q_R (x + 1) ∧ qx sc D 204 72 [l0, vi (x + 1), l2] st u bb σ Q := r_iinc (k := 1) (n := 1) (by decide +kernel) rfl
theorem k204_72 : qx sc D 204 72 ls st u bb σ Q ↔ qx sc D 204 57 ls st u bb σ Q := r_goto (off := (-15)) (by decide +kernel)
theorem k204_75 : qx sc D 204 75 ls st u bb σ Q ↔ qx sc D 204 76 ls (vi 0 :: st) u bb σ Q := r_iconst (by decide +kernel)
theorem k204_76 : qx sc D 204 76 [l0, l1, l2] (vi x :: st) u bb σ Q ↔ qx sc D 204 77 [l0, vi x, l2] st u bb σ Q := r_istore_n (k := 1) (by decide +kernel) (Nat.le_of_ble_eq_true rfl)
theorem k204_77 : qx sc D 204 77 [l0, vi x, l2] st u bb σ Q ↔ qx sc D 204 78 [l0, vi x, l2] (vi x :: st) u bb σ Q := r_iload_n (k := 1) (by decide +kernel) rfl
theorem k204_78 : qx sc D 204 78 ls st u bb σ Q ↔ qx sc D 204 80 ls (vi 8 :: st) u bb σ Q := r_bipush (by decide +kernel)
theorem k204_80 : qx sc D 204 80 ls (vi b' :: vi a' :: st) u bb σ Q ↔ (a' < b' → qx sc D 204 83 ls st u bb σ Q) ∧ (¬ (a' < b') → qx sc D 204 99 ls st u bb σ Q) := r_ic_ge (off := 19) (t := 99) (by decide +kernel)
theorem k204_83 : qx sc D 204 83 [vr a, l1, l2] st u bb σ Q ↔ qx sc D 204 84 [vr a, l1, l2] (vr a :: st) u bb σ Q := r_aload_n (k := 0) (by decide +kernel) rfl
theorem k204_84 : qx sc D 204 84 [l0, vi x, l2] st u bb σ Q ↔ qx sc D 204 85 [l0, vi x, l2] (vi x :: st) u bb σ Q := r_iload_n (k := 1) (by decide +kernel) rfl
theorem k204_85 : qx sc D 204 85 ls st u bb σ Q ↔ qx sc D 204 86 ls (vi 0 :: st) u bb σ Q := r_iconst (by decide +kernel)
theorem k204_86 : qx sc D 204 86 ls st u bb σ Q ↔ qx sc D 204 87 ls (vi (-1) :: st) u bb σ Q := r_iconst (by decide +kernel)
theorem k204_87 : qx sc D 204 87 ls st u bb σ Q ↔ qx sc D 204 88 ls (vi (-1) :: st) u bb σ Q := r_iconst (by decide +kernel)
theorem k204_88 : qx sc D 204 88 ls st u bb σ Q ↔ qx sc D 204 89 ls (vi (-1) :: st) u bb σ Q := r_iconst (by decide +kernel)
theorem k204_89 : qx sc (D + 1) 204 89 ls [vi x4, vi x3, vi x2, vi x1, vi x0, vr 136] (0, 0) bb σ Q ↔ qx sc D 180 0 [vr 136, vi x0, vi x1, vi x2, vi x3, vi x4, vn] [] (0, 0) bb σ (q_kn sc (D + 1) 204 92 ls [] (0, 0) Q) := r_callv (idx := 211) (n := 5) (m := 7) (by decide +kernel) rfl (Nat.le_of_ble_eq_true rfl) ⟨Nat.le_of_ble_eq_true rfl, Nat.le_of_ble_eq_true rfl, rfl⟩ rfl
theorem k204_92 : qx sc D 204 92 [l0, l1, l2] (vi x :: st) u bb σ Q ↔ qx sc D 204 93 [l0, l1, vi x] st u bb σ Q := r_istore_n (k := 2) (by decide +kernel) (Nat.le_of_ble_eq_true rfl)
theorem k204_93 : qx sc D 204 93 [l0, vi x, l2] st u bb σ Q ↔ q_R (x + 1) ∧ qx sc D 204 96 [l0, vi (x + 1), l2] st u bb σ Q := r_iinc (k := 1) (n := 1) (by decide +kernel) rfl
theorem k204_96 : qx sc D 204 96 ls st u bb σ Q ↔ qx sc D 204 77 ls st u bb σ Q := r_goto (off := (-19)) (by decide +kernel)
theorem k204_99 : qx sc D 204 99 [vr a, l1, l2] st u bb σ Q ↔ qx sc D 204 100 [vr a, l1, l2] (vr a :: st) u bb σ Q := r_aload_n (k := 0) (by decide +kernel) rfl
theorem k204_100 : qx sc (D + 1) 204 100 ls [vr 136] (0, 0) bb σ Q ↔ qx sc D 207 0 [vr 136, vn] [] (0, 0) bb σ (q_kn sc (D + 1) 204 103 ls [] (0, 0) Q) := r_callv (idx := 293) (n := 0) (m := 2) (by decide +kernel) rfl (Nat.le_of_ble_eq_true rfl) ⟨Nat.le_of_ble_eq_true rfl, Nat.le_of_ble_eq_true rfl, rfl⟩ rfl
theorem k204_103 : qx sc D 204 103 [vr a, l1, l2] st u bb σ Q ↔ qx sc D 204 104 [vr a, l1, l2] (vr a :: st) u bb σ Q := r_aload_n (k := 0) (by decide +kernel) rfl
theorem k204_104 : qx sc (D + 1) 204 104 ls [vr 136] (0, 0) bb σ Q ↔ qx sc D 217 0 [vr 136, vn] [] (0, 0) bb σ (q_kn sc (D + 1) 204 107 ls [] (0, 0) Q) := r_callv (idx := 242) (n := 0) (m := 2) (by decide +kernel) rfl (Nat.le_of_ble_eq_true rfl) ⟨Nat.le_of_ble_eq_true rfl, Nat.le_of_ble_eq_true rfl, rfl⟩ rfl
theorem k204_107 : qx sc D 204 107 [vr a, l1, l2] st u bb σ Q ↔ qx sc D 204 108 [vr a, l1, l2] (vr a :: st) u bb σ Q := r_aload_n (k := 0) (by decide +kernel) rfl
theorem k204_108 : qx sc (D + 1) 204 108 ls [vr 136] (0, 0) bb σ Q ↔ qx sc D 130 0 [vr 136] [] (0, 0) bb σ (q_kn sc (D + 1) 204 111 ls [] (0, 0) Q) := r_callv (idx := 79) (n := 0) (m := 1) (by decide +kernel) rfl (Nat.le_of_ble_eq_true rfl) ⟨Nat.le_of_ble_eq_true rfl, Nat.le_of_ble_eq_true rfl, rfl⟩ rfl
theorem k204_111 : qx sc D 204 111 [vr a, l1, l2] st u bb σ Q ↔ qx sc D 204 112 [vr a, l1, l2] (vr a :: st) u bb σ Q := r_aload_n (k := 0) (by decide +kernel) rfl
theorem k204_112 : qx sc (D + 1) 204 112 ls [vr 136] (0, 0) bb σ Q ↔ qx sc D 154 0 [vr 136] [] (0, 0) bb σ (q_kn sc (D + 1) 204 115 ls [] (0, 0) Q) := r_callv (idx := 83) (n := 0) (m := 1) (by decide +kernel) rfl (Nat.le_of_ble_eq_true rfl) ⟨Nat.le_of_ble_eq_true rfl, Nat.le_of_ble_eq_true rfl, rfl⟩ rfl
theorem k204_115 : qx sc D 204 115 ls (vi x :: st) u bb σ Q ↔ (x = 0 → qx sc D 204 118 ls st u bb σ Q) ∧ (¬ (x = 0) → qx sc D 204 133 ls st u bb σ Q) := r_if_ne (off := 18) (t := 133) (by decide +kernel)
theorem k204_118 : qx sc D 204 118 [vr a, l1, l2] st u bb σ Q ↔ qx sc D 204 119 [vr a, l1, l2] (vr a :: st) u bb σ Q := r_aload_n (k := 0) (by decide +kernel) rfl
theorem k204_119 : qx sc D 204 119 ls (vr 136 :: st) u bb σ Q ↔ qx sc D 204 122 ls (vi (σ 136 8) :: st) u bb σ Q := r_getI (idx := 63) (c := 15) (k := 8) (by decide +kernel)
theorem k204_122 : qx sc D 204 122 [vr a, l1, l2] st u bb σ Q ↔ qx sc D 204 123 [vr a, l1, l2] (vr a :: st) u bb σ Q := r_aload_n (k := 0) (by decide +kernel) rfl
theorem k204_123 : qx sc D 204 123 ls (vr 136 :: st) u bb σ Q ↔ qx sc D 204 126 ls (vi (σ 136 6) :: st) u bb σ Q := r_getI (idx := 66) (c := 15) (k := 6) (by decide +kernel)
theorem k204_126 : qx sc D 204 126 ls (vi b' :: vi a' :: st) u bb σ Q ↔ (a' < b' → qx sc D 204 129 ls st u bb σ Q) ∧ (¬ (a' < b') → qx sc D 204 133 ls st u bb σ Q) := r_ic_ge (off := 7) (t := 133) (by decide +kernel)
theorem k204_129 : qx sc D 204 129 [vr a, l1, l2] st u bb σ Q ↔ qx sc D 204 130 [vr a, l1, l2] (vr a :: st) u bb σ Q := r_aload_n (k := 0) (by decide +kernel) rfl
theorem k204_130 : qx sc (D + 1) 204 130 ls [vr 136] (0, 0) bb σ Q ↔ qx sc D 148 0 [vr 136] [] (0, 0) bb σ (q_kn sc (D + 1) 204 133 ls [] (0, 0) Q) := r_callv (idx := 91) (n := 0) (m := 1) (by decide +kernel) rfl (Nat.le_of_ble_eq_true rfl) ⟨Nat.le_of_ble_eq_true rfl, Nat.le_of_ble_eq_true rfl, rfl⟩ rfl
theorem k204_133 : qx sc D 204 133 [vr a, l1, l2] st u bb σ Q ↔ qx sc D 204 134 [vr a, l1, l2] (vr a :: st) u bb σ Q := r_aload_n (k := 0) (by decide +kernel) rfl
theorem k204_134 : qx sc (D + 1) 204 134 ls [vr 136] (0, 0) bb σ Q ↔ qx sc D 154 0 [vr 136] [] (0, 0) bb σ (q_kn sc (D + 1) 204 137 ls [] (0, 0) Q) := r_callv (idx := 83) (n := 0) (m := 1) (by decide +kernel) rfl (Nat.le_of_ble_eq_true rfl) ⟨Nat.le_of_ble_eq_true rfl, Nat.le_of_ble_eq_true rfl, rfl⟩ rfl
theorem k204_137 : qx sc D 204 137 ls (vi x :: st) u bb σ Q ↔ (x = 0 → qx sc D 204 142 ls st u bb σ Q) ∧ (¬ (x = 0) → qx sc D 204 140 ls st u bb σ Q) := r_if_eq (off := 5) (t := 142) (by decide +kernel)
theorem k204_140 : qx sc D 204 140 ls st u bb σ Q ↔ qx sc D 204 141 ls (vi 0 :: st) u bb σ Q := r_iconst (by decide +kernel)
theorem k204_141 : qx sc D 204 141 ls [vi x] (0, 0) bb σ Q ↔ (x = 0 ∨ x = 1) ∧ Q (.inl (some (vi x))) bb σ := r_retB (by decide +kernel)
theorem k204_142 : qx sc D 204 142 [vr a, l1, l2] st u bb σ Q ↔ qx sc D 204 143 [vr a, l1, l2] (vr a :: st) u bb σ Q := r_aload_n (k := 0) (by decide +kernel) rfl
theorem k204_143 : qx sc (D + 1) 204 143 ls [vr 136] (0, 0) bb σ Q ↔ qx sc D 171 0 [vr 136, vn, vn] [] (0, 0) bb σ (q_kn sc (D + 1) 204 146 ls [] (0, 0) Q) := r_callv (idx := 296) (n := 0) (m := 3) (by decide +kernel) rfl (Nat.le_of_ble_eq_true rfl) ⟨Nat.le_of_ble_eq_true rfl, Nat.le_of_ble_eq_true rfl, rfl⟩ rfl
theorem k204_146 : qx sc D 204 146 ls st u bb σ Q ↔ qx sc D 204 147 ls (vi 1 :: st) u bb σ Q := r_iconst (by decide +kernel)
theorem k204_147 : qx sc D 204 147 ls [vi x] (0, 0) bb σ Q ↔ (x = 0 ∨ x = 1) ∧ Q (.inl (some (vi x))) bb σ := r_retB (by decide +kernel)
-- 205: RowProverModel.round(I)V
theorem k205_0 : qx sc D 205 0 [vr a, l1, l2, l3, l4, l5, l6, l7, l8, l9, l10, l11] st u bb σ Q ↔ qx sc D 205 1 [vr a, l1, l2, l3, l4, l5, l6, l7, l8, l9, l10, l11] (vr a :: st) u bb σ Q := r_aload_n (k := 0) (by decide +kernel) rfl
theorem k205_1 : qx sc D 205 1 ls (vr 136 :: st) u bb σ Q ↔ qx sc D 205 4 ls (vi (σ 136 17) :: st) u bb σ Q := r_getI (idx := 275) (c := 15) (k := 17) (by decide +kernel)
theorem k205_4 : qx sc D 205 4 [l0, l1, l2, l3, l4, l5, l6, l7, l8, l9, l10, l11] (vi x :: st) u bb σ Q ↔ qx sc D 205 5 [l0, l1, vi x, l3, l4, l5, l6, l7, l8, l9, l10, l11] st u bb σ Q := r_istore_n (k := 2) (by decide +kernel) (Nat.le_of_ble_eq_true rfl)
theorem k205_5 : qx sc D 205 5 [vr a, l1, l2, l3, l4, l5, l6, l7, l8, l9, l10, l11] st u bb σ Q ↔ qx sc D 205 6 [vr a, l1, l2, l3, l4, l5, l6, l7, l8, l9, l10, l11] (vr a :: st) u bb σ Q := r_aload_n (k := 0) (by decide +kernel) rfl
theorem k205_6 : qx sc D 205 6 ls (vr a :: st) u bb σ Q ↔ qx sc D 205 7 ls (vr a :: vr a :: st) u bb σ Q := r_dupA (by decide +kernel)
theorem k205_7 : qx sc D 205 7 ls (vr 136 :: st) u bb σ Q ↔ qx sc D 205 10 ls (vi (σ 136 17) :: st) u bb σ Q := r_getI (idx := 275) (c := 15) (k := 17) (by decide +kernel)
theorem k205_10 : qx sc D 205 10 ls st u bb σ Q ↔ qx sc D 205 11 ls (vi 1 :: st) u bb σ Q := r_iconst (by decide +kernel)
theorem k205_11 : qx sc D 205 11 ls (vi b' :: vi a' :: st) u bb σ Q ↔ q_R (a' + b') ∧ qx sc D 205 12 ls (vi (a' + b') :: st) u bb σ Q := r_iadd (by decide +kernel)
theorem k205_12 : qx sc D 205 12 ls (vi x :: vr 136 :: st) u bb σ Q ↔ qx sc D 205 15 ls st u bb (q_up σ 136 17 x) Q := r_putI (idx := 275) (c := 15) (k := 17) (by decide +kernel)
theorem k205_15 : qx sc D 205 15 [vr a, l1, l2, l3, l4, l5, l6, l7, l8, l9, l10, l11] st u bb σ Q ↔ qx sc D 205 16 [vr a, l1, l2, l3, l4, l5, l6, l7, l8, l9, l10, l11] (vr a :: st) u bb σ Q := r_aload_n (k := 0) (by decide +kernel) rfl
theorem k205_16 : qx sc D 205 16 ls (vr 136 :: st) u bb σ Q ↔ qx sc D 205 19 ls (vr 145 :: st) u bb σ Q := r_getR (idx := 157) (c := 15) (k := 22) (by decide +kernel)
theorem k205_19 : qx sc D 205 19 [l0, vi x, l2, l3, l4, l5, l6, l7, l8, l9, l10, l11] st u bb σ Q ↔ qx sc D 205 20 [l0, vi x, l2, l3, l4, l5, l6, l7, l8, l9, l10, l11] (vi x :: st) u bb σ Q := r_iload_n (k := 1) (by decide +kernel) rfl
theorem k205_20 : qx sc D 205 20 [l0, l1, vi x, l3, l4, l5, l6, l7, l8, l9, l10, l11] st u bb σ Q ↔ qx sc D 205 21 [l0, l1, vi x, l3, l4, l5, l6, l7, l8, l9, l10, l11] (vi x :: st) u bb σ Q := r_iload_n (k := 2) (by decide +kernel) rfl
theorem k205_21 : qx sc D 205 21 ls (vi x :: vi i :: vr a :: st) u bb σ Q ↔ (q_ty a = 0 ∧ 0 ≤ i ∧ i < q_ln a) ∧ qx sc D 205 22 ls st u bb (q_up σ a i x) Q := r_iast (by decide +kernel)
theorem k205_22 : qx sc D 205 22 [vr a, l1, l2, l3, l4, l5, l6, l7, l8, l9, l10, l11] st u bb σ Q ↔ qx sc D 205 23 [vr a, l1, l2, l3, l4, l5, l6, l7, l8, l9, l10, l11] (vr a :: st) u bb σ Q := r_aload_n (k := 0) (by decide +kernel) rfl
theorem k205_23 : qx sc D 205 23 ls (vr 136 :: st) u bb σ Q ↔ qx sc D 205 26 ls (vr 160 :: st) u bb σ Q := r_getR (idx := 278) (c := 15) (k := 37) (by decide +kernel)
theorem k205_26 : qx sc D 205 26 [l0, l1, vi x, l3, l4, l5, l6, l7, l8, l9, l10, l11] st u bb σ Q ↔ qx sc D 205 27 [l0, l1, vi x, l3, l4, l5, l6, l7, l8, l9, l10, l11] (vi x :: st) u bb σ Q := r_iload_n (k := 2) (by decide +kernel) rfl
theorem k205_27 : qx sc D 205 27 [l0, vi x, l2, l3, l4, l5, l6, l7, l8, l9, l10, l11] st u bb σ Q ↔ qx sc D 205 28 [l0, vi x, l2, l3, l4, l5, l6, l7, l8, l9, l10, l11] (vi x :: st) u bb σ Q := r_iload_n (k := 1) (by decide +kernel) rfl
theorem k205_28 : qx sc D 205 28 ls (vi x :: vi i :: vr a :: st) u bb σ Q ↔ (q_ty a = 0 ∧ 0 ≤ i ∧ i < q_ln a) ∧ qx sc D 205 29 ls st u bb (q_up σ a i x) Q := r_iast (by decide +kernel)
theorem k205_29 : qx sc D 205 29 [vr a, l1, l2, l3, l4, l5, l6, l7, l8, l9, l10, l11] st u bb σ Q ↔ qx sc D 205 30 [vr a, l1, l2, l3, l4, l5, l6, l7, l8, l9, l10, l11] (vr a :: st) u bb σ Q := r_aload_n (k := 0) (by decide +kernel) rfl
theorem k205_30 : qx sc D 205 30 ls (vr 136 :: st) u bb σ Q ↔ qx sc D 205 33 ls (vr 161 :: st) u bb σ Q := r_getR (idx := 281) (c := 15) (k := 38) (by decide +kernel)
theorem k205_33 : qx sc D 205 33 [l0, l1, vi x, l3, l4, l5, l6, l7, l8, l9, l10, l11] st u bb σ Q ↔ qx sc D 205 34 [l0, l1, vi x, l3, l4, l5, l6, l7, l8, l9, l10, l11] (vi x :: st) u bb σ Q := r_iload_n (k := 2) (by decide +kernel) rfl
theorem k205_34 : qx sc D 205 34 [vr a, l1, l2, l3, l4, l5, l6, l7, l8, l9, l10, l11] st u bb σ Q ↔ qx sc D 205 35 [vr a, l1, l2, l3, l4, l5, l6, l7, l8, l9, l10, l11] (vr a :: st) u bb σ Q := r_aload_n (k := 0) (by decide +kernel) rfl
theorem k205_35 : qx sc D 205 35 ls (vr 136 :: st) u bb σ Q ↔ qx sc D 205 38 ls (vi (σ 136 49) :: st) u bb σ Q := r_getI (idx := 163) (c := 15) (k := 49) (by decide +kernel)
theorem k205_38 : qx sc D 205 38 ls (vi x :: vi i :: vr a :: st) u bb σ Q ↔ (q_ty a = 0 ∧ 0 ≤ i ∧ i < q_ln a) ∧ qx sc D 205 39 ls st u bb (q_up σ a i x) Q := r_iast (by decide +kernel)
theorem k205_39 : qx sc D 205 39 [vr a, l1, l2, l3, l4, l5, l6, l7, l8, l9, l10, l11] st u bb σ Q ↔ qx sc D 205 40 [vr a, l1, l2, l3, l4, l5, l6, l7, l8, l9, l10, l11] (vr a :: st) u bb σ Q := r_aload_n (k := 0) (by decide +kernel) rfl
theorem k205_40 : qx sc D 205 40 [l0, vi x, l2, l3, l4, l5, l6, l7, l8, l9, l10, l11] st u bb σ Q ↔ qx sc D 205 41 [l0, vi x, l2, l3, l4, l5, l6, l7, l8, l9, l10, l11] (vi x :: st) u bb σ Q := r_iload_n (k := 1) (by decide +kernel) rfl
theorem k205_41 : qx sc (D + 1) 205 41 ls [vi x0, vr 136] (0, 0) bb σ Q ↔ qx sc D 222 0 [vr 136, vi x0] [] (0, 0) bb σ (q_kn sc (D + 1) 205 44 ls [] (0, 0) Q) := r_callv (idx := 251) (n := 1) (m := 2) (by decide +kernel) rfl (Nat.le_of_ble_eq_true rfl) ⟨Nat.le_of_ble_eq_true rfl, Nat.le_of_ble_eq_true rfl, rfl⟩ rfl
theorem k205_44 : qx sc D 205 44 [vr a, l1, l2, l3, l4, l5, l6, l7, l8, l9, l10, l11] st u bb σ Q ↔ qx sc D 205 45 [vr a, l1, l2, l3, l4, l5, l6, l7, l8, l9, l10, l11] (vr a :: st) u bb σ Q := r_aload_n (k := 0) (by decide +kernel) rfl
theorem k205_45 : qx sc (D + 1) 205 45 ls [vr 136] (0, 0) bb σ Q ↔ qx sc D 154 0 [vr 136] [] (0, 0) bb σ (q_kn sc (D + 1) 205 48 ls [] (0, 0) Q) := r_callv (idx := 83) (n := 0) (m := 1) (by decide +kernel) rfl (Nat.le_of_ble_eq_true rfl) ⟨Nat.le_of_ble_eq_true rfl, Nat.le_of_ble_eq_true rfl, rfl⟩ rfl
theorem k205_48 : qx sc D 205 48 ls (vi x :: st) u bb σ Q ↔ (x = 0 → qx sc D 205 52 ls st u bb σ Q) ∧ (¬ (x = 0) → qx sc D 205 51 ls st u bb σ Q) := r_if_eq (off := 4) (t := 52) (by decide +kernel)
theorem k205_51 : qx sc D 205 51 ls [] (0, 0) bb σ Q ↔ Q (.inl none) bb σ := r_retV (by decide +kernel)
theorem k205_52 : qx sc D 205 52 [vr a, l1, l2, l3, l4, l5, l6, l7, l8, l9, l10, l11] st u bb σ Q ↔ qx sc D 205 53 [vr a, l1, l2, l3, l4, l5, l6, l7, l8, l9, l10, l11] (vr a :: st) u bb σ Q := r_aload_n (k := 0) (by decide +kernel) rfl
theorem k205_53 : qx sc D 205 53 [l0, l1, vi x, l3, l4, l5, l6, l7, l8, l9, l10, l11] st u bb σ Q ↔ qx sc D 205 54 [l0, l1, vi x, l3, l4, l5, l6, l7, l8, l9, l10, l11] (vi x :: st) u bb σ Q := r_iload_n (k := 2) (by decide +kernel) rfl
theorem k205_54 : qx sc D 205 54 ls (vi x :: vr 136 :: st) u bb σ Q ↔ qx sc D 205 57 ls st u bb (q_up σ 136 49 x) Q := r_putI (idx := 163) (c := 15) (k := 49) (by decide +kernel)
theorem k205_57 : qx sc D 205 57 [vr a, l1, l2, l3, l4, l5, l6, l7, l8, l9, l10, l11] st u bb σ Q ↔ qx sc D 205 58 [vr a, l1, l2, l3, l4, l5, l6, l7, l8, l9, l10, l11] (vr a :: st) u bb σ Q := r_aload_n (k := 0) (by decide +kernel) rfl
theorem k205_58 : qx sc (D + 1) 205 58 ls [vr 136] (0, 0) bb σ Q ↔ qx sc D 144 0 [vr 136, vn, vn, vn, vn, vn, vn, vn, vn, vn] [] (0, 0) bb σ (q_kn sc (D + 1) 205 61 ls [] (0, 0) Q) := r_callv (idx := 284) (n := 0) (m := 10) (by decide +kernel) rfl (Nat.le_of_ble_eq_true rfl) ⟨Nat.le_of_ble_eq_true rfl, Nat.le_of_ble_eq_true rfl, rfl⟩ rfl
theorem k205_61 : qx sc D 205 61 [l0, l1, l2, l3, l4, l5, l6, l7, l8, l9, l10, l11] (vi x :: st) u bb σ Q ↔ qx sc D 205 62 [l0, l1, l2, vi x, l4, l5, l6, l7, l8, l9, l10, l11] st u bb σ Q := r_istore_n (k := 3) (by decide +kernel) (Nat.le_of_ble_eq_true rfl)
theorem k205_62 : qx sc D 205 62 [vr a, l1, l2, l3, l4, l5, l6, l7, l8, l9, l10, l11] st u bb σ Q ↔ qx sc D 205 63 [vr a, l1, l2, l3, l4, l5, l6, l7, l8, l9, l10, l11] (vr a :: st) u bb σ Q := r_aload_n (k := 0) (by decide +kernel) rfl
theorem k205_63 : qx sc (D + 1) 205 63 ls [vr 136] (0, 0) bb σ Q ↔ qx sc D 154 0 [vr 136] [] (0, 0) bb σ (q_kn sc (D + 1) 205 66 ls [] (0, 0) Q) := r_callv (idx := 83) (n := 0) (m := 1) (by decide +kernel) rfl (Nat.le_of_ble_eq_true rfl) ⟨Nat.le_of_ble_eq_true rfl, Nat.le_of_ble_eq_true rfl, rfl⟩ rfl
theorem k205_66 : qx sc D 205 66 ls (vi x :: st) u bb σ Q ↔ (x = 0 → qx sc D 205 70 ls st u bb σ Q) ∧ (¬ (x = 0) → qx sc D 205 69 ls st u bb σ Q) := r_if_eq (off := 4) (t := 70) (by decide +kernel)
theorem k205_69 : qx sc D 205 69 ls [] (0, 0) bb σ Q ↔ Q (.inl none) bb σ := r_retV (by decide +kernel)
theorem k205_70 : qx sc D 205 70 [vr a, l1, l2, l3, l4, l5, l6, l7, l8, l9, l10, l11] st u bb σ Q ↔ qx sc D 205 71 [vr a, l1, l2, l3, l4, l5, l6, l7, l8, l9, l10, l11] (vr a :: st) u bb σ Q := r_aload_n (k := 0) (by decide +kernel) rfl
theorem k205_71 : qx sc D 205 71 ls (vr 136 :: st) u bb σ Q ↔ qx sc D 205 74 ls (vr 162 :: st) u bb σ Q := r_getR (idx := 287) (c := 15) (k := 39) (by decide +kernel)
theorem k205_74 : qx sc D 205 74 [l0, l1, vi x, l3, l4, l5, l6, l7, l8, l9, l10, l11] st u bb σ Q ↔ qx sc D 205 75 [l0, l1, vi x, l3, l4, l5, l6, l7, l8, l9, l10, l11] (vi x :: st) u bb σ Q := r_iload_n (k := 2) (by decide +kernel) rfl
theorem k205_75 : qx sc D 205 75 [vr a, l1, l2, l3, l4, l5, l6, l7, l8, l9, l10, l11] st u bb σ Q ↔ qx sc D 205 76 [vr a, l1, l2, l3, l4, l5, l6, l7, l8, l9, l10, l11] (vr a :: st) u bb σ Q := r_aload_n (k := 0) (by decide +kernel) rfl
theorem k205_76 : qx sc D 205 76 ls (vr 136 :: st) u bb σ Q ↔ qx sc D 205 79 ls (vi (σ 136 15) :: st) u bb σ Q := r_getI (idx := 30) (c := 15) (k := 15) (by decide +kernel)
theorem k205_79 : qx sc D 205 79 ls (vi x :: vi i :: vr a :: st) u bb σ Q ↔ (q_ty a = 0 ∧ 0 ≤ i ∧ i < q_ln a) ∧ qx sc D 205 80 ls st u bb (q_up σ a i x) Q := r_iast (by decide +kernel)
theorem k205_80 : qx sc D 205 80 [vr a, l1, l2, l3, l4, l5, l6, l7, l8, l9, l10, l11] st u bb σ Q ↔ qx sc D 205 81 [vr a, l1, l2, l3, l4, l5, l6, l7, l8, l9, l10, l11] (vr a :: st) u bb σ Q := r_aload_n (k := 0) (by decide +kernel) rfl
theorem k205_81 : qx sc D 205 81 ls st u bb σ Q ↔ qx sc D 205 83 ls (vi 8 :: st) u bb σ Q := r_bipush (by decide +kernel)
theorem k205_83 : qx sc D 205 83 [l0, l1, vi x, l3, l4, l5, l6, l7, l8, l9, l10, l11] st u bb σ Q ↔ qx sc D 205 84 [l0, l1, vi x, l3, l4, l5, l6, l7, l8, l9, l10, l11] (vi x :: st) u bb σ Q := r_iload_n (k := 2) (by decide +kernel) rfl
theorem k205_84 : qx sc D 205 84 ls st u bb σ Q ↔ qx sc D 205 85 ls (vi 0 :: st) u bb σ Q := r_iconst (by decide +kernel)
theorem k205_85 : qx sc (D + 1) 205 85 ls [vi x2, vi x1, vi x0, vr 136] (0, 0) bb σ Q ↔ qx sc D 172 0 [vr 136, vi x0, vi x1, vi x2] [] (0, 0) bb σ (q_kn sc (D + 1) 205 88 ls [] (0, 0) Q) := r_callv (idx := 186) (n := 3) (m := 4) (by decide +kernel) rfl (Nat.le_of_ble_eq_true rfl) ⟨Nat.le_of_ble_eq_true rfl, Nat.le_of_ble_eq_true rfl, rfl⟩ rfl
theorem k205_88 : qx sc D 205 88 [l0, l1, l2, l3, l4, l5, l6, l7, l8, l9, l10, l11] (vi x :: st) u bb σ Q ↔ qx sc D 205 90 [l0, l1, l2, l3, vi x, l5, l6, l7, l8, l9, l10, l11] st u bb σ Q := r_istore (k := 4) (by decide +kernel) (Nat.le_of_ble_eq_true rfl)
theorem k205_90 : qx sc D 205 90 [vr a, l1, l2, l3, l4, l5, l6, l7, l8, l9, l10, l11] st u bb σ Q ↔ qx sc D 205 91 [vr a, l1, l2, l3, l4, l5, l6, l7, l8, l9, l10, l11] (vr a :: st) u bb σ Q := r_aload_n (k := 0) (by decide +kernel) rfl
theorem k205_91 : qx sc D 205 91 ls (vr 136 :: st) u bb σ Q ↔ qx sc D 205 94 ls (vi (σ 136 18) :: st) u bb σ Q := r_getI (idx := 21) (c := 15) (k := 18) (by decide +kernel)
theorem k205_94 : qx sc D 205 94 [l0, l1, l2, l3, l4, l5, l6, l7, l8, l9, l10, l11] (vi x :: st) u bb σ Q ↔ qx sc D 205 96 [l0, l1, l2, l3, l4, vi x, l6, l7, l8, l9, l10, l11] st u bb σ Q := r_istore (k := 5) (by decide +kernel) (Nat.le_of_ble_eq_true rfl)
theorem k205_96 : qx sc D 205 96 [vr a, l1, l2, l3, l4, l5, l6, l7, l8, l9, l10, l11] st u bb σ Q ↔ qx sc D 205 97 [vr a, l1, l2, l3, l4, l5, l6, l7, l8, l9, l10, l11] (vr a :: st) u bb σ Q := r_aload_n (k := 0) (by decide +kernel) rfl
theorem k205_97 : qx sc D 205 97 ls (vr 136 :: st) u bb σ Q ↔ qx sc D 205 100 ls (vi (σ 136 15) :: st) u bb σ Q := r_getI (idx := 30) (c := 15) (k := 15) (by decide +kernel)
theorem k205_100 : qx sc D 205 100 [l0, l1, l2, l3, l4, l5, l6, l7, l8, l9, l10, l11] (vi x :: st) u bb σ Q ↔ qx sc D 205 102 [l0, l1, l2, l3, l4, l5, vi x, l7, l8, l9, l10, l11] st u bb σ Q := r_istore (k := 6) (by decide +kernel) (Nat.le_of_ble_eq_true rfl)
theorem k205_102 : qx sc D 205 102 ls st u bb σ Q ↔ qx sc D 205 103 ls (vi 0 :: st) u bb σ Q := r_iconst (by decide +kernel)
theorem k205_103 : qx sc D 205 103 [l0, l1, l2, l3, l4, l5, l6, l7, l8, l9, l10, l11] (vi x :: st) u bb σ Q ↔ qx sc D 205 105 [l0, l1, l2, l3, l4, l5, l6, vi x, l8, l9, l10, l11] st u bb σ Q := r_istore (k := 7) (by decide +kernel) (Nat.le_of_ble_eq_true rfl)
theorem k205_105 : qx sc D 205 105 [l0, l1, l2, l3, l4, l5, l6, vi x, l8, l9, l10, l11] st u bb σ Q ↔ qx sc D 205 107 [l0, l1, l2, l3, l4, l5, l6, vi x, l8, l9, l10, l11] (vi x :: st) u bb σ Q := r_iload (k := 7) (by decide +kernel) rfl
theorem k205_107 : qx sc D 205 107 ls st u bb σ Q ↔ qx sc D 205 109 ls (vi 8 :: st) u bb σ Q := r_bipush (by decide +kernel)
theorem k205_109 : qx sc D 205 109 ls (vi b' :: vi a' :: st) u bb σ Q ↔ (a' < b' → qx sc D 205 112 ls st u bb σ Q) ∧ (¬ (a' < b') → qx sc D 205 160 ls st u bb σ Q) := r_ic_ge (off := 51) (t := 160) (by decide +kernel)
theorem k205_112 : qx sc D 205 112 [l0, l1, l2, vi x, l4, l5, l6, l7, l8, l9, l10, l11] st u bb σ Q ↔ qx sc D 205 113 [l0, l1, l2, vi x, l4, l5, l6, l7, l8, l9, l10, l11] (vi x :: st) u bb σ Q := r_iload_n (k := 3) (by decide +kernel) rfl
theorem k205_113 : qx sc D 205 113 [l0, l1, l2, l3, l4, l5, l6, vi x, l8, l9, l10, l11] st u bb σ Q ↔ qx sc D 205 115 [l0, l1, l2, l3, l4, l5, l6, vi x, l8, l9, l10, l11] (vi x :: st) u bb σ Q := r_iload (k := 7) (by decide +kernel) rfl
theorem k205_115 : qx sc D 205 115 ls (vi b' :: vi a' :: st) u bb σ Q ↔ qx sc D 205 116 ls (vi (q_I a' >>> (q_I b' &&& 31)).toInt :: st) u bb σ Q := r_ishr (by decide +kernel)
theorem k205_116 : qx sc D 205 116 ls st u bb σ Q ↔ qx sc D 205 117 ls (vi 1 :: st) u bb σ Q := r_iconst (by decide +kernel)
theorem k205_117 : qx sc D 205 117 ls (vi b' :: vi a' :: st) u bb σ Q ↔ qx sc D 205 118 ls (vi (q_I a' &&& q_I b').toInt :: st) u bb σ Q := r_iand (by decide +kernel)
theorem k205_118 : qx sc D 205 118 ls (vi x :: st) u bb σ Q ↔ (x = 0 → qx sc D 205 121 ls st u bb σ Q) ∧ (¬ (x = 0) → qx sc D 205 124 ls st u bb σ Q) := r_if_ne (off := 6) (t := 124) (by decide +kernel)
theorem k205_121 : qx sc D 205 121 ls st u bb σ Q ↔ qx sc D 205 154 ls st u bb σ Q := r_goto (off := 33) (by decide +kernel)
theorem k205_124 : qx sc D 205 124 [vr a, l1, l2, l3, l4, l5, l6, l7, l8, l9, l10, l11] st u bb σ Q ↔ qx sc D 205 125 [vr a, l1, l2, l3, l4, l5, l6, l7, l8, l9, l10, l11] (vr a :: st) u bb σ Q := r_aload_n (k := 0) (by decide +kernel) rfl
theorem k205_125 : qx sc D 205 125 [l0, l1, l2, l3, l4, l5, l6, vi x, l8, l9, l10, l11] st u bb σ Q ↔ qx sc D 205 127 [l0, l1, l2, l3, l4, l5, l6, vi x, l8, l9, l10, l11] (vi x :: st) u bb σ Q := r_iload (k := 7) (by decide +kernel) rfl
theorem k205_127 : qx sc D 205 127 ls st u bb σ Q ↔ qx sc D 205 129 ls (vi 6 :: st) u bb σ Q := r_bipush (by decide +kernel)
theorem k205_129 : qx sc D 205 129 [l0, vi x, l2, l3, l4, l5, l6, l7, l8, l9, l10, l11] st u bb σ Q ↔ qx sc D 205 130 [l0, vi x, l2, l3, l4, l5, l6, l7, l8, l9, l10, l11] (vi x :: st) u bb σ Q := r_iload_n (k := 1) (by decide +kernel) rfl
theorem k205_130 : qx sc D 205 130 [vr a, l1, l2, l3, l4, l5, l6, l7, l8, l9, l10, l11] st u bb σ Q ↔ qx sc D 205 131 [vr a, l1, l2, l3, l4, l5, l6, l7, l8, l9, l10, l11] (vr a :: st) u bb σ Q := r_aload_n (k := 0) (by decide +kernel) rfl
theorem k205_131 : qx sc D 205 131 ls (vr 136 :: st) u bb σ Q ↔ qx sc D 205 134 ls (vr 171 :: st) u bb σ Q := r_getR (idx := 57) (c := 15) (k := 48) (by decide +kernel)
theorem k205_134 : qx sc D 205 134 [l0, l1, l2, l3, l4, l5, l6, vi x, l8, l9, l10, l11] st u bb σ Q ↔ qx sc D 205 136 [l0, l1, l2, l3, l4, l5, l6, vi x, l8, l9, l10, l11] (vi x :: st) u bb σ Q := r_iload (k := 7) (by decide +kernel) rfl
theorem k205_136 : qx sc D 205 136 ls (vi i :: vr a :: st) u bb σ Q ↔ (q_ty a = 0 ∧ 0 ≤ i ∧ i < q_ln a) ∧ qx sc D 205 137 ls (vi (σ a i) :: st) u bb σ Q := r_iald (by decide +kernel)
theorem k205_137 : qx sc D 205 137 ls st u bb σ Q ↔ qx sc D 205 138 ls (vi (-1) :: st) u bb σ Q := r_iconst (by decide +kernel)
theorem k205_138 : qx sc (D + 1) 205 138 ls [vi x4, vi x3, vi x2, vi x1, vi x0, vr 136] (0, 0) bb σ Q ↔ qx sc D 180 0 [vr 136, vi x0, vi x1, vi x2, vi x3, vi x4, vn] [] (0, 0) bb σ (q_kn sc (D + 1) 205 141 ls [] (0, 0) Q) := r_callv (idx := 211) (n := 5) (m := 7) (by decide +kernel) rfl (Nat.le_of_ble_eq_true rfl) ⟨Nat.le_of_ble_eq_true rfl, Nat.le_of_ble_eq_true rfl, rfl⟩ rfl
theorem k205_141 : qx sc D 205 141 [l0, l1, l2, l3, l4, l5, l6, l7, l8, l9, l10, l11] (vi x :: st) u bb σ Q ↔ qx sc D 205 143 [l0, l1, l2, l3, l4, l5, l6, l7, vi x, l9, l10, l11] st u bb σ Q := r_istore (k := 8) (by decide +kernel) (Nat.le_of_ble_eq_true rfl)
theorem k205_143 : qx sc D 205 143 [vr a, l1, l2, l3, l4, l5, l6, l7, l8, l9, l10, l11] st u bb σ Q ↔ qx sc D 205 144 [vr a, l1, l2, l3, l4, l5, l6, l7, l8, l9, l10, l11] (vr a :: st) u bb σ Q := r_aload_n (k := 0) (by decide +kernel) rfl
theorem k205_144 : qx sc D 205 144 ls st u bb σ Q ↔ qx sc D 205 146 ls (vi 6 :: st) u bb σ Q := r_bipush (by decide +kernel)
theorem k205_146 : qx sc D 205 146 [l0, l1, l2, l3, l4, l5, l6, l7, vi x, l9, l10, l11] st u bb σ Q ↔ qx sc D 205 148 [l0, l1, l2, l3, l4, l5, l6, l7, vi x, l9, l10, l11] (vi x :: st) u bb σ Q := r_iload (k := 8) (by decide +kernel) rfl
theorem k205_148 : qx sc D 205 148 ls st u bb σ Q ↔ qx sc D 205 149 ls (vi 0 :: st) u bb σ Q := r_iconst (by decide +kernel)
theorem k205_149 : qx sc (D + 1) 205 149 ls [vi x2, vi x1, vi x0, vr 136] (0, 0) bb σ Q ↔ qx sc D 172 0 [vr 136, vi x0, vi x1, vi x2] [] (0, 0) bb σ (q_kn sc (D + 1) 205 152 ls [] (0, 0) Q) := r_callv (idx := 186) (n := 3) (m := 4) (by decide +kernel) rfl (Nat.le_of_ble_eq_true rfl) ⟨Nat.le_of_ble_eq_true rfl, Nat.le_of_ble_eq_true rfl, rfl⟩ rfl
theorem k205_152 : qx sc D 205 152 [l0, l1, l2, l3, l4, l5, l6, l7, l8, l9, l10, l11] (vi x :: st) u bb σ Q ↔ qx sc D 205 154 [l0, l1, l2, l3, l4, l5, l6, l7, l8, vi x, l10, l11] st u bb σ Q := r_istore (k := 9) (by decide +kernel) (Nat.le_of_ble_eq_true rfl)
theorem k205_154 : qx sc D 205 154 [l0, l1, l2, l3, l4, l5, l6, vi x, l8, l9, l10, l11] st u bb σ Q ↔ q_R (x + 1) ∧ qx sc D 205 157 [l0, l1, l2, l3, l4, l5, l6, vi (x + 1), l8, l9, l10, l11] st u bb σ Q := r_iinc (k := 7) (n := 1) (by decide +kernel) rfl
theorem k205_157 : qx sc D 205 157 ls st u bb σ Q ↔ qx sc D 205 105 ls st u bb σ Q := r_goto (off := (-52)) (by decide +kernel)
theorem k205_160 : qx sc D 205 160 [vr a, l1, l2, l3, l4, l5, l6, l7, l8, l9, l10, l11] st u bb σ Q ↔ qx sc D 205 161 [vr a, l1, l2, l3, l4, l5, l6, l7, l8, l9, l10, l11] (vr a :: st) u bb σ Q := r_aload_n (k := 0) (by decide +kernel) rfl
theorem k205_161 : qx sc D 205 161 ls (vr 136 :: st) u bb σ Q ↔ qx sc D 205 164 ls (vr 163 :: st) u bb σ Q := r_getR (idx := 290) (c := 15) (k := 40) (by decide +kernel)
theorem k205_164 : qx sc D 205 164 [l0, l1, vi x, l3, l4, l5, l6, l7, l8, l9, l10, l11] st u bb σ Q ↔ qx sc D 205 165 [l0, l1, vi x, l3, l4, l5, l6, l7, l8, l9, l10, l11] (vi x :: st) u bb σ Q := r_iload_n (k := 2) (by decide +kernel) rfl
theorem k205_165 : qx sc D 205 165 [vr a, l1, l2, l3, l4, l5, l6, l7, l8, l9, l10, l11] st u bb σ Q ↔ qx sc D 205 166 [vr a, l1, l2, l3, l4, l5, l6, l7, l8, l9, l10, l11] (vr a :: st) u bb σ Q := r_aload_n (k := 0) (by decide +kernel) rfl
theorem k205_166 : qx sc D 205 166 ls (vr 136 :: st) u bb σ Q ↔ qx sc D 205 169 ls (vi (σ 136 15) :: st) u bb σ Q := r_getI (idx := 30) (c := 15) (k := 15) (by decide +kernel)
theorem k205_169 : qx sc D 205 169 [l0, l1, l2, l3, l4, l5, vi x, l7, l8, l9, l10, l11] st u bb σ Q ↔ qx sc D 205 171 [l0, l1, l2, l3, l4, l5, vi x, l7, l8, l9, l10, l11] (vi x :: st) u bb σ Q := r_iload (k := 6) (by decide +kernel) rfl
theorem k205_171 : qx sc D 205 171 ls (vi b' :: vi a' :: st) u bb σ Q ↔ q_R (a' - b') ∧ qx sc D 205 172 ls (vi (a' - b') :: st) u bb σ Q := r_isub (by decide +kernel)
theorem k205_172 : qx sc D 205 172 ls (vi x :: vi i :: vr a :: st) u bb σ Q ↔ (q_ty a = 0 ∧ 0 ≤ i ∧ i < q_ln a) ∧ qx sc D 205 173 ls st u bb (q_up σ a i x) Q := r_iast (by decide +kernel)
theorem k205_173 : qx sc D 205 173 [vr a, l1, l2, l3, l4, l5, l6, l7, l8, l9, l10, l11] st u bb σ Q ↔ qx sc D 205 174 [vr a, l1, l2, l3, l4, l5, l6, l7, l8, l9, l10, l11] (vr a :: st) u bb σ Q := r_aload_n (k := 0) (by decide +kernel) rfl
theorem k205_174 : qx sc D 205 174 ls st u bb σ Q ↔ qx sc D 205 175 ls (vi 0 :: st) u bb σ Q := r_iconst (by decide +kernel)
theorem k205_175 : qx sc D 205 175 [l0, vi x, l2, l3, l4, l5, l6, l7, l8, l9, l10, l11] st u bb σ Q ↔ qx sc D 205 176 [l0, vi x, l2, l3, l4, l5, l6, l7, l8, l9, l10, l11] (vi x :: st) u bb σ Q := r_iload_n (k := 1) (by decide +kernel) rfl
theorem k205_176 : qx sc D 205 176 ls st u bb σ Q ↔ qx sc D 205 177 ls (vi 0 :: st) u bb σ Q := r_iconst (by decide +kernel)
theorem k205_177 : qx sc (D + 1) 205 177 ls [vi x2, vi x1, vi x0, vr 136] (0, 0) bb σ Q ↔ qx sc D 172 0 [vr 136, vi x0, vi x1, vi x2] [] (0, 0) bb σ (q_kn sc (D + 1) 205 180 ls [] (0, 0) Q) := r_callv (idx := 186) (n := 3) (m := 4) (by decide +kernel) rfl (Nat.le_of_ble_eq_true rfl) ⟨Nat.le_of_ble_eq_true rfl, Nat.le_of_ble_eq_true rfl, rfl⟩ rfl
theorem k205_180 : qx sc D 205 180 [l0, l1, l2, l3, l4, l5, l6, l7, l8, l9, l10, l11] (vi x :: st) u bb σ Q ↔ qx sc D 205 182 [l0, l1, l2, l3, l4, l5, l6, vi x, l8, l9, l10, l11] st u bb σ Q := r_istore (k := 7) (by decide +kernel) (Nat.le_of_ble_eq_true rfl)
theorem k205_182 : qx sc D 205 182 [vr a, l1, l2, l3, l4, l5, l6, l7, l8, l9, l10, l11] st u bb σ Q ↔ qx sc D 205 183 [vr a, l1, l2, l3, l4, l5, l6, l7, l8, l9, l10, l11] (vr a :: st) u bb σ Q := r_aload_n (k := 0) (by decide +kernel) rfl
theorem k205_183 : qx sc D 205 183 [l0, vi x, l2, l3, l4, l5, l6, l7, l8, l9, l10, l11] st u bb σ Q ↔ qx sc D 205 184 [l0, vi x, l2, l3, l4, l5, l6, l7, l8, l9, l10, l11] (vi x :: st) u bb σ Q := r_iload_n (k := 1) (by decide +kernel) rfl
theorem k205_184 : qx sc (D + 1) 205 184 ls [vi x0, vr 136] (0, 0) bb σ Q ↔ qx sc D 177 0 [vr 136, vi x0, vn] [] (0, 0) bb σ (q_kn sc (D + 1) 205 187 ls [] (0, 0) Q) := r_callv (idx := 254) (n := 1) (m := 3) (by decide +kernel) rfl (Nat.le_of_ble_eq_true rfl) ⟨Nat.le_of_ble_eq_true rfl, Nat.le_of_ble_eq_true rfl, rfl⟩ rfl
theorem k205_187 : qx sc D 205 187 [vr a, l1, l2, l3, l4, l5, l6, l7, l8, l9, l10, l11] st u bb σ Q ↔ qx sc D 205 188 [vr a, l1, l2, l3, l4, l5, l6, l7, l8, l9, l10, l11] (vr a :: st) u bb σ Q := r_aload_n (k := 0) (by decide +kernel) rfl
theorem k205_188 : qx sc D 205 188 ls st u bb σ Q ↔ qx sc D 205 189 ls (vi 5 :: st) u bb σ Q := r_iconst (by decide +kernel)
theorem k205_189 : qx sc D 205 189 [l0, vi x, l2, l3, l4, l5, l6, l7, l8, l9, l10, l11] st u bb σ Q ↔ qx sc D 205 190 [l0, vi x, l2, l3, l4, l5, l6, l7, l8, l9, l10, l11] (vi x :: st) u bb σ Q := r_iload_n (k := 1) (by decide +kernel) rfl
theorem k205_190 : qx sc D 205 190 ls st u bb σ Q ↔ qx sc D 205 191 ls (vi 0 :: st) u bb σ Q := r_iconst (by decide +kernel)
theorem k205_191 : qx sc (D + 1) 205 191 ls [vi x2, vi x1, vi x0, vr 136] (0, 0) bb σ Q ↔ qx sc D 172 0 [vr 136, vi x0, vi x1, vi x2] [] (0, 0) bb σ (q_kn sc (D + 1) 205 194 ls [] (0, 0) Q) := r_callv (idx := 186) (n := 3) (m := 4) (by decide +kernel) rfl (Nat.le_of_ble_eq_true rfl) ⟨Nat.le_of_ble_eq_true rfl, Nat.le_of_ble_eq_true rfl, rfl⟩ rfl
theorem k205_194 : qx sc D 205 194 [l0, l1, l2, l3, l4, l5, l6, l7, l8, l9, l10, l11] (vi x :: st) u bb σ Q ↔ qx sc D 205 196 [l0, l1, l2, l3, l4, l5, l6, l7, vi x, l9, l10, l11] st u bb σ Q := r_istore (k := 8) (by decide +kernel) (Nat.le_of_ble_eq_true rfl)
theorem k205_196 : qx sc D 205 196 [vr a, l1, l2, l3, l4, l5, l6, l7, l8, l9, l10, l11] st u bb σ Q ↔ qx sc D 205 197 [vr a, l1, l2, l3, l4, l5, l6, l7, l8, l9, l10, l11] (vr a :: st) u bb σ Q := r_aload_n (k := 0) (by decide +kernel) rfl
theorem k205_197 : qx sc (D + 1) 205 197 ls [vr 136] (0, 0) bb σ Q ↔ qx sc D 170 0 [vr 136, vn, vn] [] (0, 0) bb σ (q_kn sc (D + 1) 205 200 ls [] (0, 0) Q) := r_callv (idx := 257) (n := 0) (m := 3) (by decide +kernel) rfl (Nat.le_of_ble_eq_true rfl) ⟨Nat.le_of_ble_eq_true rfl, Nat.le_of_ble_eq_true rfl, rfl⟩ rfl
theorem k205_200 : qx sc D 205 200 [l0, l1, l2, l3, l4, l5, l6, l7, l8, l9, l10, l11] (vi x :: st) u bb σ Q ↔ qx sc D 205 202 [l0, l1, l2, l3, l4, l5, l6, l7, l8, vi x, l10, l11] st u bb σ Q := r_istore (k := 9) (by decide +kernel) (Nat.le_of_ble_eq_true rfl)
theorem k205_202 : qx sc D 205 202 [vr a, l1, l2, l3, l4, l5, l6, l7, l8, l9, l10, l11] st u bb σ Q ↔ qx sc D 205 203 [vr a, l1, l2, l3, l4, l5, l6, l7, l8, l9, l10, l11] (vr a :: st) u bb σ Q := r_aload_n (k := 0) (by decide +kernel) rfl
theorem k205_203 : qx sc D 205 203 [l0, vi x, l2, l3, l4, l5, l6, l7, l8, l9, l10, l11] st u bb σ Q ↔ qx sc D 205 204 [l0, vi x, l2, l3, l4, l5, l6, l7, l8, l9, l10, l11] (vi x :: st) u bb σ Q := r_iload_n (k := 1) (by decide +kernel) rfl
theorem k205_204 : qx sc D 205 204 ls st u bb σ Q ↔ qx sc D 205 205 ls (vi 3 :: st) u bb σ Q := r_iconst (by decide +kernel)
theorem k205_205 : qx sc (D + 1) 205 205 ls [vi x1, vi x0, vr 136] (0, 0) bb σ Q ↔ qx sc D 181 0 [vr 136, vi x0, vi x1, vn, vn, vn] [] (0, 0) bb σ (q_kn sc (D + 1) 205 208 ls [] (0, 0) Q) := r_callv (idx := 260) (n := 2) (m := 6) (by decide +kernel) rfl (Nat.le_of_ble_eq_true rfl) ⟨Nat.le_of_ble_eq_true rfl, Nat.le_of_ble_eq_true rfl, rfl⟩ rfl
theorem k205_208 : qx sc D 205 208 [vr a, l1, l2, l3, l4, l5, l6, l7, l8, l9, l10, l11] st u bb σ Q ↔ qx sc D 205 209 [vr a, l1, l2, l3, l4, l5, l6, l7, l8, l9, l10, l11] (vr a :: st) u bb σ Q := r_aload_n (k := 0) (by decide +kernel) rfl
theorem k205_209 : qx sc (D + 1) 205 209 ls [vr 136] (0, 0) bb σ Q ↔ qx sc D 131 0 [vr 136] [] (0, 0) bb σ (q_kn sc (D + 1) 205 212 ls [] (0, 0) Q) := r_callv (idx := 263) (n := 0) (m := 1) (by decide +kernel) rfl (Nat.le_of_ble_eq_true rfl) ⟨Nat.le_of_ble_eq_true rfl, Nat.le_of_ble_eq_true rfl, rfl⟩ rfl
theorem k205_212 : qx sc D 205 212 [vr a, l1, l2, l3, l4, l5, l6, l7, l8, l9, l10, l11] st u bb σ Q ↔ qx sc D 205 213 [vr a, l1, l2, l3, l4, l5, l6, l7, l8, l9, l10, l11] (vr a :: st) u bb σ Q := r_aload_n (k := 0) (by decide +kernel) rfl
theorem k205_213 : qx sc D 205 213 ls st u bb σ Q ↔ qx sc D 205 215 ls (vi 7 :: st) u bb σ Q := r_bipush (by decide +kernel)
theorem k205_215 : qx sc D 205 215 [l0, l1, l2, l3, l4, vi x, l6, l7, l8, l9, l10, l11] st u bb σ Q ↔ qx sc D 205 217 [l0, l1, l2, l3, l4, vi x, l6, l7, l8, l9, l10, l11] (vi x :: st) u bb σ Q := r_iload (k := 5) (by decide +kernel) rfl
theorem k205_217 : qx sc D 205 217 ls st u bb σ Q ↔ qx sc D 205 218 ls (vi 0 :: st) u bb σ Q := r_iconst (by decide +kernel)
theorem k205_218 : qx sc (D + 1) 205 218 ls [vi x2, vi x1, vi x0, vr 136] (0, 0) bb σ Q ↔ qx sc D 172 0 [vr 136, vi x0, vi x1, vi x2] [] (0, 0) bb σ (q_kn sc (D + 1) 205 221 ls [] (0, 0) Q) := r_callv (idx := 186) (n := 3) (m := 4) (by decide +kernel) rfl (Nat.le_of_ble_eq_true rfl) ⟨Nat.le_of_ble_eq_true rfl, Nat.le_of_ble_eq_true rfl, rfl⟩ rfl
theorem k205_221 : qx sc D 205 221 [l0, l1, l2, l3, l4, l5, l6, l7, l8, l9, l10, l11] (vi x :: st) u bb σ Q ↔ qx sc D 205 223 [l0, l1, l2, l3, l4, l5, l6, l7, l8, l9, vi x, l11] st u bb σ Q := r_istore (k := 10) (by decide +kernel) (Nat.le_of_ble_eq_true rfl)
theorem k205_223 : qx sc D 205 223 [l0, l1, l2, l3, l4, l5, vi x, l7, l8, l9, l10, l11] st u bb σ Q ↔ qx sc D 205 225 [l0, l1, l2, l3, l4, l5, vi x, l7, l8, l9, l10, l11] (vi x :: st) u bb σ Q := r_iload (k := 6) (by decide +kernel) rfl
theorem k205_225 : qx sc D 205 225 [l0, l1, l2, l3, l4, l5, l6, l7, l8, l9, l10, l11] (vi x :: st) u bb σ Q ↔ qx sc D 205 227 [l0, l1, l2, l3, l4, l5, l6, l7, l8, l9, l10, vi x] st u bb σ Q := r_istore (k := 11) (by decide +kernel) (Nat.le_of_ble_eq_true rfl)
theorem k205_227 : qx sc D 205 227 [l0, l1, l2, l3, l4, l5, l6, l7, l8, l9, l10, vi x] st u bb σ Q ↔ qx sc D 205 229 [l0, l1, l2, l3, l4, l5, l6, l7, l8, l9, l10, vi x] (vi x :: st) u bb σ Q := r_iload (k := 11) (by decide +kernel) rfl
theorem k205_229 : qx sc D 205 229 [l0, l1, l2, l3, l4, l5, vi x, l7, l8, l9, l10, l11] st u bb σ Q ↔ qx sc D 205 231 [l0, l1, l2, l3, l4, l5, vi x, l7, l8, l9, l10, l11] (vi x :: st) u bb σ Q := r_iload (k := 6) (by decide +kernel) rfl
theorem k205_231 : qx sc D 205 231 [vr a, l1, l2, l3, l4, l5, l6, l7, l8, l9, l10, l11] st u bb σ Q ↔ qx sc D 205 232 [vr a, l1, l2, l3, l4, l5, l6, l7, l8, l9, l10, l11] (vr a :: st) u bb σ Q := r_aload_n (k := 0) (by decide +kernel) rfl
theorem k205_232 : qx sc D 205 232 ls (vr 136 :: st) u bb σ Q ↔ qx sc D 205 235 ls (vr 163 :: st) u bb σ Q := r_getR (idx := 290) (c := 15) (k := 40) (by decide +kernel)
theorem k205_235 : qx sc D 205 235 [l0, l1, vi x, l3, l4, l5, l6, l7, l8, l9, l10, l11] st u bb σ Q ↔ qx sc D 205 236 [l0, l1, vi x, l3, l4, l5, l6, l7, l8, l9, l10, l11] (vi x :: st) u bb σ Q := r_iload_n (k := 2) (by decide +kernel) rfl
theorem k205_236 : qx sc D 205 236 ls (vi i :: vr a :: st) u bb σ Q ↔ (q_ty a = 0 ∧ 0 ≤ i ∧ i < q_ln a) ∧ qx sc D 205 237 ls (vi (σ a i) :: st) u bb σ Q := r_iald (by decide +kernel)
theorem k205_237 : qx sc D 205 237 ls (vi b' :: vi a' :: st) u bb σ Q ↔ q_R (a' + b') ∧ qx sc D 205 238 ls (vi (a' + b') :: st) u bb σ Q := r_iadd (by decide +kernel)
theorem k205_238 : qx sc D 205 238 ls (vi b' :: vi a' :: st) u bb σ Q ↔ (a' < b' → qx sc D 205 241 ls st u bb σ Q) ∧ (¬ (a' < b') → qx sc D 205 266 ls st u bb σ Q) := r_ic_ge (off := 28) (t := 266) (by decide +kernel)
theorem k205_241 : qx sc D 205 241 [vr a, l1, l2, l3, l4, l5, l6, l7, l8, l9, l10, l11] st u bb σ Q ↔ qx sc D 205 242 [vr a, l1, l2, l3, l4, l5, l6, l7, l8, l9, l10, l11] (vr a :: st) u bb σ Q := r_aload_n (k := 0) (by decide +kernel) rfl
theorem k205_242 : qx sc D 205 242 ls (vr 136 :: st) u bb σ Q ↔ qx sc D 205 245 ls (vr 151 :: st) u bb σ Q := r_getR (idx := 45) (c := 15) (k := 28) (by decide +kernel)
theorem k205_245 : qx sc D 205 245 [l0, l1, l2, l3, l4, l5, l6, l7, l8, l9, l10, vi x] st u bb σ Q ↔ qx sc D 205 247 [l0, l1, l2, l3, l4, l5, l6, l7, l8, l9, l10, vi x] (vi x :: st) u bb σ Q := r_iload (k := 11) (by decide +kernel) rfl
theorem k205_247 : qx sc D 205 247 [vr a, l1, l2, l3, l4, l5, l6, l7, l8, l9, l10, l11] st u bb σ Q ↔ qx sc D 205 248 [vr a, l1, l2, l3, l4, l5, l6, l7, l8, l9, l10, l11] (vr a :: st) u bb σ Q := r_aload_n (k := 0) (by decide +kernel) rfl
theorem k205_248 : qx sc D 205 248 ls (vr 136 :: st) u bb σ Q ↔ qx sc D 205 251 ls (vr 171 :: st) u bb σ Q := r_getR (idx := 57) (c := 15) (k := 48) (by decide +kernel)
theorem k205_251 : qx sc D 205 251 [vr a, l1, l2, l3, l4, l5, l6, l7, l8, l9, l10, l11] st u bb σ Q ↔ qx sc D 205 252 [vr a, l1, l2, l3, l4, l5, l6, l7, l8, l9, l10, l11] (vr a :: st) u bb σ Q := r_aload_n (k := 0) (by decide +kernel) rfl
theorem k205_252 : qx sc D 205 252 ls (vr 136 :: st) u bb σ Q ↔ qx sc D 205 255 ls (vr 147 :: st) u bb σ Q := r_getR (idx := 33) (c := 15) (k := 24) (by decide +kernel)
theorem k205_255 : qx sc D 205 255 [l0, l1, l2, l3, l4, l5, l6, l7, l8, l9, l10, vi x] st u bb σ Q ↔ qx sc D 205 257 [l0, l1, l2, l3, l4, l5, l6, l7, l8, l9, l10, vi x] (vi x :: st) u bb σ Q := r_iload (k := 11) (by decide +kernel) rfl
theorem k205_257 : qx sc D 205 257 ls (vi i :: vr a :: st) u bb σ Q ↔ (q_ty a = 0 ∧ 0 ≤ i ∧ i < q_ln a) ∧ qx sc D 205 258 ls (vi (σ a i) :: st) u bb σ Q := r_iald (by decide +kernel)
theorem k205_258 : qx sc D 205 258 ls (vi i :: vr a :: st) u bb σ Q ↔ (q_ty a = 0 ∧ 0 ≤ i ∧ i < q_ln a) ∧ qx sc D 205 259 ls (vi (σ a i) :: st) u bb σ Q := r_iald (by decide +kernel)
theorem k205_259 : qx sc D 205 259 ls (vi x :: vi i :: vr a :: st) u bb σ Q ↔ (q_ty a = 0 ∧ 0 ≤ i ∧ i < q_ln a) ∧ qx sc D 205 260 ls st u bb (q_up σ a i x) Q := r_iast (by decide +kernel)
theorem k205_260 : qx sc D 205 260 [l0, l1, l2, l3, l4, l5, l6, l7, l8, l9, l10, vi x] st u bb σ Q ↔ q_R (x + 1) ∧ qx sc D 205 263 [l0, l1, l2, l3, l4, l5, l6, l7, l8, l9, l10, vi (x + 1)] st u bb σ Q := r_iinc (k := 11) (n := 1) (by decide +kernel) rfl
theorem k205_263 : qx sc D 205 263 ls st u bb σ Q ↔ qx sc D 205 227 ls st u bb σ Q := r_goto (off := (-36)) (by decide +kernel)
theorem k205_266 : qx sc D 205 266 [vr a, l1, l2, l3, l4, l5, l6, l7, l8, l9, l10, l11] st u bb σ Q ↔ qx sc D 205 267 [vr a, l1, l2, l3, l4, l5, l6, l7, l8, l9, l10, l11] (vr a :: st) u bb σ Q := r_aload_n (k := 0) (by decide +kernel) rfl
theorem k205_267 : qx sc D 205 267 ls (vr 136 :: st) u bb σ Q ↔ qx sc D 205 270 ls (vr 170 :: st) u bb σ Q := r_getR (idx := 27) (c := 15) (k := 47) (by decide +kernel)
theorem k205_270 : qx sc D 205 270 [l0, l1, l2, l3, l4, l5, l6, l7, vi x, l9, l10, l11] st u bb σ Q ↔ qx sc D 205 272 [l0, l1, l2, l3, l4, l5, l6, l7, vi x, l9, l10, l11] (vi x :: st) u bb σ Q := r_iload (k := 8) (by decide +kernel) rfl
theorem k205_272 : qx sc D 205 272 [vr a, l1, l2, l3, l4, l5, l6, l7, l8, l9, l10, l11] st u bb σ Q ↔ qx sc D 205 273 [vr a, l1, l2, l3, l4, l5, l6, l7, l8, l9, l10, l11] (vr a :: st) u bb σ Q := r_aload_n (k := 0) (by decide +kernel) rfl
theorem k205_273 : qx sc D 205 273 ls (vr 136 :: st) u bb σ Q ↔ qx sc D 205 276 ls (vi (σ 136 18) :: st) u bb σ Q := r_getI (idx := 21) (c := 15) (k := 18) (by decide +kernel)
theorem k205_276 : qx sc D 205 276 ls (vi x :: vi i :: vr a :: st) u bb σ Q ↔ (q_ty a = 0 ∧ 0 ≤ i ∧ i < q_ln a) ∧ qx sc D 205 277 ls st u bb (q_up σ a i x) Q := r_iast (by decide +kernel)
theorem k205_277 : qx sc D 205 277 [vr a, l1, l2, l3, l4, l5, l6, l7, l8, l9, l10, l11] st u bb σ Q ↔ qx sc D 205 278 [vr a, l1, l2, l3, l4, l5, l6, l7, l8, l9, l10, l11] (vr a :: st) u bb σ Q := r_aload_n (k := 0) (by decide +kernel) rfl
theorem k205_278 : qx sc D 205 278 [l0, l1, l2, l3, l4, l5, l6, l7, l8, vi x, l10, l11] st u bb σ Q ↔ qx sc D 205 280 [l0, l1, l2, l3, l4, l5, l6, l7, l8, vi x, l10, l11] (vi x :: st) u bb σ Q := r_iload (k := 9) (by decide +kernel) rfl
theorem k205_280 : qx sc (D + 1) 205 280 ls [vi x0, vr 136] (0, 0) bb σ Q ↔ qx sc D 220 0 [vr 136, vi x0, vn] [] (0, 0) bb σ (q_kn sc (D + 1) 205 283 ls [] (0, 0) Q) := r_callv (idx := 266) (n := 1) (m := 3) (by decide +kernel) rfl (Nat.le_of_ble_eq_true rfl) ⟨Nat.le_of_ble_eq_true rfl, Nat.le_of_ble_eq_true rfl, rfl⟩ rfl
theorem k205_283 : qx sc D 205 283 [vr a, l1, l2, l3, l4, l5, l6, l7, l8, l9, l10, l11] st u bb σ Q ↔ qx sc D 205 284 [vr a, l1, l2, l3, l4, l5, l6, l7, l8, l9, l10, l11] (vr a :: st) u bb σ Q := r_aload_n (k := 0) (by decide +kernel) rfl
theorem k205_284 : qx sc D 205 284 [l0, vi x, l2, l3, l4, l5, l6, l7, l8, l9, l10, l11] st u bb σ Q ↔ qx sc D 205 285 [l0, vi x, l2, l3, l4, l5, l6, l7, l8, l9, l10, l11] (vi x :: st) u bb σ Q := r_iload_n (k := 1) (by decide +kernel) rfl
theorem k205_285 : qx sc D 205 285 ls st u bb σ Q ↔ qx sc D 205 286 ls (vi 4 :: st) u bb σ Q := r_iconst (by decide +kernel)
theorem k205_286 : qx sc (D + 1) 205 286 ls [vi x1, vi x0, vr 136] (0, 0) bb σ Q ↔ qx sc D 181 0 [vr 136, vi x0, vi x1, vn, vn, vn] [] (0, 0) bb σ (q_kn sc (D + 1) 205 289 ls [] (0, 0) Q) := r_callv (idx := 260) (n := 2) (m := 6) (by decide +kernel) rfl (Nat.le_of_ble_eq_true rfl) ⟨Nat.le_of_ble_eq_true rfl, Nat.le_of_ble_eq_true rfl, rfl⟩ rfl
theorem k205_289 : qx sc D 205 289 [vr a, l1, l2, l3, l4, l5, l6, l7, l8, l9, l10, l11] st u bb σ Q ↔ qx sc D 205 290 [vr a, l1, l2, l3, l4, l5, l6, l7, l8, l9, l10, l11] (vr a :: st) u bb σ Q := r_aload_n (k := 0) (by decide +kernel) rfl
theorem k205_290 : qx sc D 205 290 ls st u bb σ Q ↔ qx sc D 205 292 ls (vi 9 :: st) u bb σ Q := r_bipush (by decide +kernel)
theorem k205_292 : qx sc D 205 292 [l0, l1, vi x, l3, l4, l5, l6, l7, l8, l9, l10, l11] st u bb σ Q ↔ qx sc D 205 293 [l0, l1, vi x, l3, l4, l5, l6, l7, l8, l9, l10, l11] (vi x :: st) u bb σ Q := r_iload_n (k := 2) (by decide +kernel) rfl
theorem k205_293 : qx sc D 205 293 ls st u bb σ Q ↔ qx sc D 205 294 ls (vi 0 :: st) u bb σ Q := r_iconst (by decide +kernel)
theorem k205_294 : qx sc (D + 1) 205 294 ls [vi x2, vi x1, vi x0, vr 136] (0, 0) bb σ Q ↔ qx sc D 172 0 [vr 136, vi x0, vi x1, vi x2] [] (0, 0) bb σ (q_kn sc (D + 1) 205 297 ls [] (0, 0) Q) := r_callv (idx := 186) (n := 3) (m := 4) (by decide +kernel) rfl (Nat.le_of_ble_eq_true rfl) ⟨Nat.le_of_ble_eq_true rfl, Nat.le_of_ble_eq_true rfl, rfl⟩ rfl
theorem k205_297 : qx sc D 205 297 [l0, l1, l2, l3, l4, l5, l6, l7, l8, l9, l10, l11] (vi x :: st) u bb σ Q ↔ qx sc D 205 299 [l0, l1, l2, l3, l4, l5, l6, l7, l8, l9, l10, vi x] st u bb σ Q := r_istore (k := 11) (by decide +kernel) (Nat.le_of_ble_eq_true rfl)
theorem k205_299 : qx sc D 205 299 [vr a, l1, l2, l3, l4, l5, l6, l7, l8, l9, l10, l11] st u bb σ Q ↔ qx sc D 205 300 [vr a, l1, l2, l3, l4, l5, l6, l7, l8, l9, l10, l11] (vr a :: st) u bb σ Q := r_aload_n (k := 0) (by decide +kernel) rfl
theorem k205_300 : qx sc D 205 300 [vr a, l1, l2, l3, l4, l5, l6, l7, l8, l9, l10, l11] st u bb σ Q ↔ qx sc D 205 301 [vr a, l1, l2, l3, l4, l5, l6, l7, l8, l9, l10, l11] (vr a :: st) u bb σ Q := r_aload_n (k := 0) (by decide +kernel) rfl
theorem k205_301 : qx sc D 205 301 ls (vr 136 :: st) u bb σ Q ↔ qx sc D 205 304 ls (vr 161 :: st) u bb σ Q := r_getR (idx := 281) (c := 15) (k := 38) (by decide +kernel)
theorem k205_304 : qx sc D 205 304 [l0, l1, vi x, l3, l4, l5, l6, l7, l8, l9, l10, l11] st u bb σ Q ↔ qx sc D 205 305 [l0, l1, vi x, l3, l4, l5, l6, l7, l8, l9, l10, l11] (vi x :: st) u bb σ Q := r_iload_n (k := 2) (by decide +kernel) rfl
theorem k205_305 : qx sc D 205 305 ls (vi i :: vr a :: st) u bb σ Q ↔ (q_ty a = 0 ∧ 0 ≤ i ∧ i < q_ln a) ∧ qx sc D 205 306 ls (vi (σ a i) :: st) u bb σ Q := r_iald (by decide +kernel)
theorem k205_306 : qx sc D 205 306 ls (vi x :: vr 136 :: st) u bb σ Q ↔ qx sc D 205 309 ls st u bb (q_up σ 136 49 x) Q := r_putI (idx := 163) (c := 15) (k := 49) (by decide +kernel)
theorem k205_309 : qx sc D 205 309 [vr a, l1, l2, l3, l4, l5, l6, l7, l8, l9, l10, l11] st u bb σ Q ↔ qx sc D 205 310 [vr a, l1, l2, l3, l4, l5, l6, l7, l8, l9, l10, l11] (vr a :: st) u bb σ Q := r_aload_n (k := 0) (by decide +kernel) rfl
theorem k205_310 : qx sc D 205 310 [l0, l1, l2, l3, l4, l5, l6, l7, l8, vi x, l10, l11] st u bb σ Q ↔ qx sc D 205 312 [l0, l1, l2, l3, l4, l5, l6, l7, l8, vi x, l10, l11] (vi x :: st) u bb σ Q := r_iload (k := 9) (by decide +kernel) rfl
theorem k205_312 : qx sc D 205 312 ls (vi x :: vr 136 :: st) u bb σ Q ↔ qx sc D 205 315 ls st u bb (q_up σ 136 51 x) Q := r_putI (idx := 245) (c := 15) (k := 51) (by decide +kernel)
theorem k205_315 : qx sc D 205 315 ls [] (0, 0) bb σ Q ↔ Q (.inl none) bb σ := r_retV (by decide +kernel)
-- 206: RowProverModel.row()I
theorem k206_0 : qx sc D 206 0 [vr a] st u bb σ Q ↔ qx sc D 206 1 [vr a] (vr a :: st) u bb σ Q := r_aload_n (k := 0) (by decide +kernel) rfl
theorem k206_1 : qx sc (D + 1) 206 1 ls [vr 136] (0, 0) bb σ Q ↔ qx sc D 154 0 [vr 136] [] (0, 0) bb σ (q_kn sc (D + 1) 206 4 ls [] (0, 0) Q) := r_callv (idx := 83) (n := 0) (m := 1) (by decide +kernel) rfl (Nat.le_of_ble_eq_true rfl) ⟨Nat.le_of_ble_eq_true rfl, Nat.le_of_ble_eq_true rfl, rfl⟩ rfl
theorem k206_4 : qx sc D 206 4 ls (vi x :: st) u bb σ Q ↔ (x = 0 → qx sc D 206 9 ls st u bb σ Q) ∧ (¬ (x = 0) → qx sc D 206 7 ls st u bb σ Q) := r_if_eq (off := 5) (t := 9) (by decide +kernel)
theorem k206_7 : qx sc D 206 7 ls st u bb σ Q ↔ qx sc D 206 8 ls (vi 0 :: st) u bb σ Q := r_iconst (by decide +kernel)
theorem k206_8 : qx sc D 206 8 ls [vi x] (0, 0) bb σ Q ↔ Q (.inl (some (vi x))) bb σ := r_ret (by decide +kernel)
theorem k206_9 : qx sc D 206 9 [vr a] st u bb σ Q ↔ qx sc D 206 10 [vr a] (vr a :: st) u bb σ Q := r_aload_n (k := 0) (by decide +kernel) rfl
theorem k206_10 : qx sc (D + 1) 206 10 ls [vr 136] (0, 0) bb σ Q ↔ qx sc D 164 0 [vr 136] [] (0, 0) bb σ (q_kn sc (D + 1) 206 13 ls [] (0, 0) Q) := r_callv (idx := 114) (n := 0) (m := 1) (by decide +kernel) rfl (Nat.le_of_ble_eq_true rfl) ⟨Nat.le_of_ble_eq_true rfl, Nat.le_of_ble_eq_true rfl, rfl⟩ rfl
theorem k206_13 : qx sc D 206 13 ls (vi x :: st) u bb σ Q ↔ (x = 0 → qx sc D 206 38 ls st u bb σ Q) ∧ (¬ (x = 0) → qx sc D 206 16 ls st u bb σ Q) := r_if_eq (off := 25) (t := 38) (by decide +kernel)
theorem k206_16 : qx sc D 206 16 [vr a] st u bb σ Q ↔ qx sc D 206 17 [vr a] (vr a :: st) u bb σ Q := r_aload_n (k := 0) (by decide +kernel) rfl
theorem k206_17 : qx sc D 206 17 ls (vr 136 :: st) u bb σ Q ↔ qx sc D 206 20 ls (vi (σ 136 13) :: st) u bb σ Q := r_getI (idx := 117) (c := 15) (k := 13) (by decide +kernel)
theorem k206_20 : qx sc D 206 20 [vr a] st u bb σ Q ↔ qx sc D 206 21 [vr a] (vr a :: st) u bb σ Q := r_aload_n (k := 0) (by decide +kernel) rfl
theorem k206_21 : qx sc D 206 21 ls (vr 136 :: st) u bb σ Q ↔ qx sc D 206 24 ls (vr 139 :: st) u bb σ Q := r_getR (idx := 69) (c := 15) (k := 4) (by decide +kernel)
theorem k206_24 : qx sc D 206 24 [vr a] st u bb σ Q ↔ qx sc D 206 25 [vr a] (vr a :: st) u bb σ Q := r_aload_n (k := 0) (by decide +kernel) rfl
theorem k206_25 : qx sc D 206 25 ls (vr 136 :: st) u bb σ Q ↔ qx sc D 206 28 ls (vi (σ 136 8) :: st) u bb σ Q := r_getI (idx := 63) (c := 15) (k := 8) (by decide +kernel)
theorem k206_28 : qx sc D 206 28 ls (vi i :: vr a :: st) u bb σ Q ↔ ((q_ty a = 1 ∨ q_ty a = 2) ∧ 0 ≤ i ∧ i < q_ln a) ∧ qx sc D 206 29 ls (vi (σ a i) :: st) u bb σ Q := r_bald (by decide +kernel)
theorem k206_29 : qx sc D 206 29 ls st u bb σ Q ↔ qx sc D 206 31 ls (vi 65 :: st) u bb σ Q := r_bipush (by decide +kernel)
theorem k206_31 : qx sc D 206 31 ls (vi b' :: vi a' :: st) u bb σ Q ↔ q_R (a' - b') ∧ qx sc D 206 32 ls (vi (a' - b') :: st) u bb σ Q := r_isub (by decide +kernel)
theorem k206_32 : qx sc D 206 32 ls (vi b' :: vi a' :: st) u bb σ Q ↔ qx sc D 206 33 ls (vi (q_I a' >>> (q_I b' &&& 31)).toInt :: st) u bb σ Q := r_ishr (by decide +kernel)
theorem k206_33 : qx sc D 206 33 ls st u bb σ Q ↔ qx sc D 206 34 ls (vi 1 :: st) u bb σ Q := r_iconst (by decide +kernel)
theorem k206_34 : qx sc D 206 34 ls (vi b' :: vi a' :: st) u bb σ Q ↔ qx sc D 206 35 ls (vi (q_I a' &&& q_I b').toInt :: st) u bb σ Q := r_iand (by decide +kernel)
theorem k206_35 : qx sc D 206 35 ls (vi x :: st) u bb σ Q ↔ (x = 0 → qx sc D 206 38 ls st u bb σ Q) ∧ (¬ (x = 0) → qx sc D 206 44 ls st u bb σ Q) := r_if_ne (off := 9) (t := 44) (by decide +kernel)
theorem k206_38 : qx sc D 206 38 [vr a] st u bb σ Q ↔ qx sc D 206 39 [vr a] (vr a :: st) u bb σ Q := r_aload_n (k := 0) (by decide +kernel) rfl
theorem k206_39 : qx sc (D + 1) 206 39 ls [vr 136] (0, 0) bb σ Q ↔ qx sc D 148 0 [vr 136] [] (0, 0) bb σ (q_kn sc (D + 1) 206 42 ls [] (0, 0) Q) := r_callv (idx := 91) (n := 0) (m := 1) (by decide +kernel) rfl (Nat.le_of_ble_eq_true rfl) ⟨Nat.le_of_ble_eq_true rfl, Nat.le_of_ble_eq_true rfl, rfl⟩ rfl
theorem k206_42 : qx sc D 206 42 ls st u bb σ Q ↔ qx sc D 206 43 ls (vi 0 :: st) u bb σ Q := r_iconst (by decide +kernel)
theorem k206_43 : qx sc D 206 43 ls [vi x] (0, 0) bb σ Q ↔ Q (.inl (some (vi x))) bb σ := r_ret (by decide +kernel)
theorem k206_44 : qx sc D 206 44 [vr a] st u bb σ Q ↔ qx sc D 206 45 [vr a] (vr a :: st) u bb σ Q := r_aload_n (k := 0) (by decide +kernel) rfl
theorem k206_45 : qx sc D 206 45 ls (vr a :: st) u bb σ Q ↔ qx sc D 206 46 ls (vr a :: vr a :: st) u bb σ Q := r_dupA (by decide +kernel)
theorem k206_46 : qx sc D 206 46 ls (vr 136 :: st) u bb σ Q ↔ qx sc D 206 49 ls (vi (σ 136 8) :: st) u bb σ Q := r_getI (idx := 63) (c := 15) (k := 8) (by decide +kernel)
theorem k206_49 : qx sc D 206 49 ls st u bb σ Q ↔ qx sc D 206 50 ls (vi 1 :: st) u bb σ Q := r_iconst (by decide +kernel)
theorem k206_50 : qx sc D 206 50 ls (vi b' :: vi a' :: st) u bb σ Q ↔ q_R (a' + b') ∧ qx sc D 206 51 ls (vi (a' + b') :: st) u bb σ Q := r_iadd (by decide +kernel)
theorem k206_51 : qx sc D 206 51 ls (vi x :: vr 136 :: st) u bb σ Q ↔ qx sc D 206 54 ls st u bb (q_up σ 136 8 x) Q := r_putI (idx := 63) (c := 15) (k := 8) (by decide +kernel)
theorem k206_54 : qx sc D 206 54 [vr a] st u bb σ Q ↔ qx sc D 206 55 [vr a] (vr a :: st) u bb σ Q := r_aload_n (k := 0) (by decide +kernel) rfl
theorem k206_55 : qx sc D 206 55 ls (vr 136 :: st) u bb σ Q ↔ qx sc D 206 58 ls (vr 139 :: st) u bb σ Q := r_getR (idx := 69) (c := 15) (k := 4) (by decide +kernel)
theorem k206_58 : qx sc D 206 58 [vr a] st u bb σ Q ↔ qx sc D 206 59 [vr a] (vr a :: st) u bb σ Q := r_aload_n (k := 0) (by decide +kernel) rfl
theorem k206_59 : qx sc D 206 59 ls (vr 136 :: st) u bb σ Q ↔ qx sc D 206 62 ls (vi (σ 136 8) :: st) u bb σ Q := r_getI (idx := 63) (c := 15) (k := 8) (by decide +kernel)
theorem k206_62 : qx sc D 206 62 ls st u bb σ Q ↔ qx sc D 206 63 ls (vi 1 :: st) u bb σ Q := r_iconst (by decide +kernel)
theorem k206_63 : qx sc D 206 63 ls (vi b' :: vi a' :: st) u bb σ Q ↔ q_R (a' - b') ∧ qx sc D 206 64 ls (vi (a' - b') :: st) u bb σ Q := r_isub (by decide +kernel)
theorem k206_64 : qx sc D 206 64 ls (vi i :: vr a :: st) u bb σ Q ↔ ((q_ty a = 1 ∨ q_ty a = 2) ∧ 0 ≤ i ∧ i < q_ln a) ∧ qx sc D 206 65 ls (vi (σ a i) :: st) u bb σ Q := r_bald (by decide +kernel)
theorem k206_65 : qx sc D 206 65 ls st u bb σ Q ↔ qx sc D 206 67 ls (vi 65 :: st) u bb σ Q := r_bipush (by decide +kernel)
theorem k206_67 : qx sc D 206 67 ls (vi b' :: vi a' :: st) u bb σ Q ↔ q_R (a' - b') ∧ qx sc D 206 68 ls (vi (a' - b') :: st) u bb σ Q := r_isub (by decide +kernel)
theorem k206_68 : qx sc D 206 68 ls [vi x] (0, 0) bb σ Q ↔ Q (.inl (some (vi x))) bb σ := r_ret (by decide +kernel)
end K_305_kM2
