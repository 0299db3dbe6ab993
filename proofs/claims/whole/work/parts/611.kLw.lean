/-! site rules of the loop of the law -/
section K_LX
variable {sc : Nat × (Nat → Int32)} {D : Nat} {ls st : List V2} {u : PU} {bb : Bool} {σ : St} {Q : QP} {x i a' b' x0 x1 x2 x3 x4 x5 x20 x21 x22 x23 x24 : Int} {a b c a0 a1 a2 a3 a4 a20 a21 a22 a23 : Nat} {l0 l1 l2 l3 l4 l5 l6 l7 l8 l9 l10 l11 l12 : V2} {a5 : Nat}
theorem k252_23 : qx sc D 252 23 [l0, l1, l2, l3, vi x, l5, l6] st u bb σ Q ↔ qx sc D 252 25 [l0, l1, l2, l3, vi x, l5, l6] (vi x :: st) u bb σ Q := r_iload (k := 4) (by decide +kernel) rfl
theorem k252_25 : qx sc D 252 25 [vr a, l1, l2, l3, l4, l5, l6] st u bb σ Q ↔ qx sc D 252 26 [vr a, l1, l2, l3, l4, l5, l6] (vr a :: st) u bb σ Q := r_aload_n (k := 0) (by decide +kernel) rfl
theorem k252_26 : qx sc D 252 26 ls (vr 1000000 :: st) u bb σ Q ↔ q_R sc.1 ∧ qx sc D 252 27 ls (vi sc.1 :: st) u bb σ Q := r_sln (by decide +kernel)
theorem k252_27 : qx sc D 252 27 ls st u bb σ Q ↔ qx sc D 252 29 ls (vi 6 :: st) u bb σ Q := r_bipush (by decide +kernel)
theorem k252_29 : qx sc D 252 29 ls (vi b' :: vi a' :: st) u bb σ Q ↔ q_R (a' - b') ∧ qx sc D 252 30 ls (vi (a' - b') :: st) u bb σ Q := r_isub (by decide +kernel)
theorem k252_30 : qx sc D 252 30 ls (vi b' :: vi a' :: st) u bb σ Q ↔ (b' < a' → qx sc D 252 1486 ls st u bb σ Q) ∧ (¬ (b' < a') → qx sc D 252 33 ls st u bb σ Q) := r_ic_gt (off := 1456) (t := 1486) (by decide +kernel)
theorem k252_33 : qx sc D 252 33 [vr a, l1, l2, l3, l4, l5, l6] st u bb σ Q ↔ qx sc D 252 34 [vr a, l1, l2, l3, l4, l5, l6] (vr a :: st) u bb σ Q := r_aload_n (k := 0) (by decide +kernel) rfl
theorem k252_34 : qx sc D 252 34 [l0, l1, l2, l3, vi x, l5, l6] st u bb σ Q ↔ qx sc D 252 36 [l0, l1, l2, l3, vi x, l5, l6] (vi x :: st) u bb σ Q := r_iload (k := 4) (by decide +kernel) rfl
theorem k252_36 : qx sc D 252 36 ls (vi i :: vr 1000000 :: st) u bb σ Q ↔ (0 ≤ i ∧ i < sc.1) ∧ qx sc D 252 37 ls (vi (sc.2 i.toNat).toInt :: st) u bb σ Q := r_scr (by decide +kernel)
theorem k252_37 : qx sc D 252 37 ls st u bb σ Q ↔ qx sc D 252 39 ls (vi 31 :: st) u bb σ Q := r_bipush (by decide +kernel)
theorem k252_39 : qx sc D 252 39 ls (vi b' :: vi a' :: st) u bb σ Q ↔ qx sc D 252 40 ls (vi (q_I a' &&& q_I b').toInt :: st) u bb σ Q := r_iand (by decide +kernel)
theorem k252_40 : qx sc D 252 40 ls (vi x :: st) u bb σ Q ↔ qx sc D 252 (if x < 0 ∨ 20 < x then 1480 else [140, 213, 238, 282, 295, 363, 431, 499, 555, 623, 719, 803, 871, 927, 995, 1063, 1131, 1199, 1279, 1347, 1455].getD (x - 0).toNat 0) ls st u bb σ Q := r_tsw (d := 1440) (lo := 0) (hi := 20) (offs := #[100, 173, 198, 242, 255, 323, 391, 459, 515, 583, 679, 763, 831, 887, 955, 1023, 1091, 1159, 1239, 1307, 1415]) (dt := 1480) (tg := [140, 213, 238, 282, 295, 363, 431, 499, 555, 623, 719, 803, 871, 927, 995, 1063, 1131, 1199, 1279, 1347, 1455]) (by decide +kernel)
theorem k252_140 : qx sc D 252 140 [l0, vr a, l2, l3, l4, l5, l6] st u bb σ Q ↔ qx sc D 252 141 [l0, vr a, l2, l3, l4, l5, l6] (vr a :: st) u bb σ Q := r_aload_n (k := 1) (by decide +kernel) rfl
theorem k252_141 : qx sc D 252 141 [vr a, l1, l2, l3, l4, l5, l6] st u bb σ Q ↔ qx sc D 252 142 [vr a, l1, l2, l3, l4, l5, l6] (vr a :: st) u bb σ Q := r_aload_n (k := 0) (by decide +kernel) rfl
theorem k252_142 : qx sc D 252 142 [l0, l1, l2, l3, vi x, l5, l6] st u bb σ Q ↔ qx sc D 252 144 [l0, l1, l2, l3, vi x, l5, l6] (vi x :: st) u bb σ Q := r_iload (k := 4) (by decide +kernel) rfl
theorem k252_144 : qx sc D 252 144 ls st u bb σ Q ↔ qx sc D 252 145 ls (vi 1 :: st) u bb σ Q := r_iconst (by decide +kernel)
theorem k252_145 : qx sc D 252 145 ls (vi b' :: vi a' :: st) u bb σ Q ↔ q_R (a' + b') ∧ qx sc D 252 146 ls (vi (a' + b') :: st) u bb σ Q := r_iadd (by decide +kernel)
theorem k252_146 : qx sc D 252 146 ls (vi i :: vr 1000000 :: st) u bb σ Q ↔ (0 ≤ i ∧ i < sc.1) ∧ qx sc D 252 147 ls (vi (sc.2 i.toNat).toInt :: st) u bb σ Q := r_scr (by decide +kernel)
theorem k252_147 : qx sc D 252 147 [vr a, l1, l2, l3, l4, l5, l6] st u bb σ Q ↔ qx sc D 252 148 [vr a, l1, l2, l3, l4, l5, l6] (vr a :: st) u bb σ Q := r_aload_n (k := 0) (by decide +kernel) rfl
theorem k252_148 : qx sc D 252 148 [l0, l1, l2, l3, vi x, l5, l6] st u bb σ Q ↔ qx sc D 252 150 [l0, l1, l2, l3, vi x, l5, l6] (vi x :: st) u bb σ Q := r_iload (k := 4) (by decide +kernel) rfl
theorem k252_150 : qx sc D 252 150 ls st u bb σ Q ↔ qx sc D 252 151 ls (vi 2 :: st) u bb σ Q := r_iconst (by decide +kernel)
theorem k252_151 : qx sc D 252 151 ls (vi b' :: vi a' :: st) u bb σ Q ↔ q_R (a' + b') ∧ qx sc D 252 152 ls (vi (a' + b') :: st) u bb σ Q := r_iadd (by decide +kernel)
theorem k252_152 : qx sc D 252 152 ls (vi i :: vr 1000000 :: st) u bb σ Q ↔ (0 ≤ i ∧ i < sc.1) ∧ qx sc D 252 153 ls (vi (sc.2 i.toNat).toInt :: st) u bb σ Q := r_scr (by decide +kernel)
theorem k252_153 : qx sc D 252 153 [vr a, l1, l2, l3, l4, l5, l6] st u bb σ Q ↔ qx sc D 252 154 [vr a, l1, l2, l3, l4, l5, l6] (vr a :: st) u bb σ Q := r_aload_n (k := 0) (by decide +kernel) rfl
theorem k252_154 : qx sc D 252 154 [l0, l1, l2, l3, vi x, l5, l6] st u bb σ Q ↔ qx sc D 252 156 [l0, l1, l2, l3, vi x, l5, l6] (vi x :: st) u bb σ Q := r_iload (k := 4) (by decide +kernel) rfl
theorem k252_156 : qx sc D 252 156 ls st u bb σ Q ↔ qx sc D 252 157 ls (vi 3 :: st) u bb σ Q := r_iconst (by decide +kernel)
theorem k252_157 : qx sc D 252 157 ls (vi b' :: vi a' :: st) u bb σ Q ↔ q_R (a' + b') ∧ qx sc D 252 158 ls (vi (a' + b') :: st) u bb σ Q := r_iadd (by decide +kernel)
theorem k252_158 : qx sc D 252 158 ls (vi i :: vr 1000000 :: st) u bb σ Q ↔ (0 ≤ i ∧ i < sc.1) ∧ qx sc D 252 159 ls (vi (sc.2 i.toNat).toInt :: st) u bb σ Q := r_scr (by decide +kernel)
theorem k252_159 : qx sc D 252 159 [vr a, l1, l2, l3, l4, l5, l6] st u bb σ Q ↔ qx sc D 252 160 [vr a, l1, l2, l3, l4, l5, l6] (vr a :: st) u bb σ Q := r_aload_n (k := 0) (by decide +kernel) rfl
theorem k252_160 : qx sc D 252 160 [l0, l1, l2, l3, vi x, l5, l6] st u bb σ Q ↔ qx sc D 252 162 [l0, l1, l2, l3, vi x, l5, l6] (vi x :: st) u bb σ Q := r_iload (k := 4) (by decide +kernel) rfl
theorem k252_162 : qx sc D 252 162 ls st u bb σ Q ↔ qx sc D 252 163 ls (vi 4 :: st) u bb σ Q := r_iconst (by decide +kernel)
theorem k252_163 : qx sc D 252 163 ls (vi b' :: vi a' :: st) u bb σ Q ↔ q_R (a' + b') ∧ qx sc D 252 164 ls (vi (a' + b') :: st) u bb σ Q := r_iadd (by decide +kernel)
theorem k252_164 : qx sc D 252 164 ls (vi i :: vr 1000000 :: st) u bb σ Q ↔ (0 ≤ i ∧ i < sc.1) ∧ qx sc D 252 165 ls (vi (sc.2 i.toNat).toInt :: st) u bb σ Q := r_scr (by decide +kernel)
theorem k252_165 : qx sc D 252 165 [vr a, l1, l2, l3, l4, l5, l6] st u bb σ Q ↔ qx sc D 252 166 [vr a, l1, l2, l3, l4, l5, l6] (vr a :: st) u bb σ Q := r_aload_n (k := 0) (by decide +kernel) rfl
theorem k252_166 : qx sc D 252 166 [l0, l1, l2, l3, vi x, l5, l6] st u bb σ Q ↔ qx sc D 252 168 [l0, l1, l2, l3, vi x, l5, l6] (vi x :: st) u bb σ Q := r_iload (k := 4) (by decide +kernel) rfl
theorem k252_168 : qx sc D 252 168 ls st u bb σ Q ↔ qx sc D 252 169 ls (vi 5 :: st) u bb σ Q := r_iconst (by decide +kernel)
theorem k252_169 : qx sc D 252 169 ls (vi b' :: vi a' :: st) u bb σ Q ↔ q_R (a' + b') ∧ qx sc D 252 170 ls (vi (a' + b') :: st) u bb σ Q := r_iadd (by decide +kernel)
theorem k252_170 : qx sc D 252 170 ls (vi i :: vr 1000000 :: st) u bb σ Q ↔ (0 ≤ i ∧ i < sc.1) ∧ qx sc D 252 171 ls (vi (sc.2 i.toNat).toInt :: st) u bb σ Q := r_scr (by decide +kernel)
theorem k252_171 (hu : u.1 + 0 ≤ 601024 ∧ u.2 + 0 ≤ 7293034) : qx sc (D + 1) 252 171 ls [vi x4, vi x3, vi x2, vi x1, vi x0, vr 0] u bb σ Q ↔ qx sc D 102 0 [vr 0, vi x0, vi x1, vi x2, vi x3, vi x4] [] (0, 0) bb σ (q_kn sc (D + 1) 252 174 ls [] (u.1 + 0, u.2 + 0) Q) := r_callvU (idx := 79) (n := 5) (m := 6) (by decide +kernel) hu rfl (Nat.le_of_ble_eq_true rfl) ⟨Nat.le_of_ble_eq_true rfl, Nat.le_of_ble_eq_true rfl, rfl⟩ rfl
theorem k252_174 : qx sc D 252 174 [l0, l1, vr a, l3, l4, l5, l6] st u bb σ Q ↔ qx sc D 252 175 [l0, l1, vr a, l3, l4, l5, l6] (vr a :: st) u bb σ Q := r_aload_n (k := 2) (by decide +kernel) rfl
theorem k252_175 : qx sc D 252 175 [vr a, l1, l2, l3, l4, l5, l6] st u bb σ Q ↔ qx sc D 252 176 [vr a, l1, l2, l3, l4, l5, l6] (vr a :: st) u bb σ Q := r_aload_n (k := 0) (by decide +kernel) rfl
theorem k252_176 : qx sc D 252 176 [l0, l1, l2, l3, vi x, l5, l6] st u bb σ Q ↔ qx sc D 252 178 [l0, l1, l2, l3, vi x, l5, l6] (vi x :: st) u bb σ Q := r_iload (k := 4) (by decide +kernel) rfl
theorem k252_178 : qx sc D 252 178 ls st u bb σ Q ↔ qx sc D 252 179 ls (vi 1 :: st) u bb σ Q := r_iconst (by decide +kernel)
theorem k252_179 : qx sc D 252 179 ls (vi b' :: vi a' :: st) u bb σ Q ↔ q_R (a' + b') ∧ qx sc D 252 180 ls (vi (a' + b') :: st) u bb σ Q := r_iadd (by decide +kernel)
theorem k252_180 : qx sc D 252 180 ls (vi i :: vr 1000000 :: st) u bb σ Q ↔ (0 ≤ i ∧ i < sc.1) ∧ qx sc D 252 181 ls (vi (sc.2 i.toNat).toInt :: st) u bb σ Q := r_scr (by decide +kernel)
theorem k252_181 : qx sc D 252 181 [vr a, l1, l2, l3, l4, l5, l6] st u bb σ Q ↔ qx sc D 252 182 [vr a, l1, l2, l3, l4, l5, l6] (vr a :: st) u bb σ Q := r_aload_n (k := 0) (by decide +kernel) rfl
theorem k252_182 : qx sc D 252 182 [l0, l1, l2, l3, vi x, l5, l6] st u bb σ Q ↔ qx sc D 252 184 [l0, l1, l2, l3, vi x, l5, l6] (vi x :: st) u bb σ Q := r_iload (k := 4) (by decide +kernel) rfl
theorem k252_184 : qx sc D 252 184 ls st u bb σ Q ↔ qx sc D 252 185 ls (vi 2 :: st) u bb σ Q := r_iconst (by decide +kernel)
theorem k252_185 : qx sc D 252 185 ls (vi b' :: vi a' :: st) u bb σ Q ↔ q_R (a' + b') ∧ qx sc D 252 186 ls (vi (a' + b') :: st) u bb σ Q := r_iadd (by decide +kernel)
theorem k252_186 : qx sc D 252 186 ls (vi i :: vr 1000000 :: st) u bb σ Q ↔ (0 ≤ i ∧ i < sc.1) ∧ qx sc D 252 187 ls (vi (sc.2 i.toNat).toInt :: st) u bb σ Q := r_scr (by decide +kernel)
theorem k252_187 : qx sc D 252 187 [vr a, l1, l2, l3, l4, l5, l6] st u bb σ Q ↔ qx sc D 252 188 [vr a, l1, l2, l3, l4, l5, l6] (vr a :: st) u bb σ Q := r_aload_n (k := 0) (by decide +kernel) rfl
theorem k252_188 : qx sc D 252 188 [l0, l1, l2, l3, vi x, l5, l6] st u bb σ Q ↔ qx sc D 252 190 [l0, l1, l2, l3, vi x, l5, l6] (vi x :: st) u bb σ Q := r_iload (k := 4) (by decide +kernel) rfl
theorem k252_190 : qx sc D 252 190 ls st u bb σ Q ↔ qx sc D 252 191 ls (vi 3 :: st) u bb σ Q := r_iconst (by decide +kernel)
theorem k252_191 : qx sc D 252 191 ls (vi b' :: vi a' :: st) u bb σ Q ↔ q_R (a' + b') ∧ qx sc D 252 192 ls (vi (a' + b') :: st) u bb σ Q := r_iadd (by decide +kernel)
theorem k252_192 : qx sc D 252 192 ls (vi i :: vr 1000000 :: st) u bb σ Q ↔ (0 ≤ i ∧ i < sc.1) ∧ qx sc D 252 193 ls (vi (sc.2 i.toNat).toInt :: st) u bb σ Q := r_scr (by decide +kernel)
theorem k252_193 : qx sc D 252 193 [vr a, l1, l2, l3, l4, l5, l6] st u bb σ Q ↔ qx sc D 252 194 [vr a, l1, l2, l3, l4, l5, l6] (vr a :: st) u bb σ Q := r_aload_n (k := 0) (by decide +kernel) rfl
theorem k252_194 : qx sc D 252 194 [l0, l1, l2, l3, vi x, l5, l6] st u bb σ Q ↔ qx sc D 252 196 [l0, l1, l2, l3, vi x, l5, l6] (vi x :: st) u bb σ Q := r_iload (k := 4) (by decide +kernel) rfl
theorem k252_196 : qx sc D 252 196 ls st u bb σ Q ↔ qx sc D 252 197 ls (vi 4 :: st) u bb σ Q := r_iconst (by decide +kernel)
theorem k252_197 : qx sc D 252 197 ls (vi b' :: vi a' :: st) u bb σ Q ↔ q_R (a' + b') ∧ qx sc D 252 198 ls (vi (a' + b') :: st) u bb σ Q := r_iadd (by decide +kernel)
theorem k252_198 : qx sc D 252 198 ls (vi i :: vr 1000000 :: st) u bb σ Q ↔ (0 ≤ i ∧ i < sc.1) ∧ qx sc D 252 199 ls (vi (sc.2 i.toNat).toInt :: st) u bb σ Q := r_scr (by decide +kernel)
theorem k252_199 : qx sc D 252 199 [vr a, l1, l2, l3, l4, l5, l6] st u bb σ Q ↔ qx sc D 252 200 [vr a, l1, l2, l3, l4, l5, l6] (vr a :: st) u bb σ Q := r_aload_n (k := 0) (by decide +kernel) rfl
theorem k252_200 : qx sc D 252 200 [l0, l1, l2, l3, vi x, l5, l6] st u bb σ Q ↔ qx sc D 252 202 [l0, l1, l2, l3, vi x, l5, l6] (vi x :: st) u bb σ Q := r_iload (k := 4) (by decide +kernel) rfl
theorem k252_202 : qx sc D 252 202 ls st u bb σ Q ↔ qx sc D 252 203 ls (vi 5 :: st) u bb σ Q := r_iconst (by decide +kernel)
theorem k252_203 : qx sc D 252 203 ls (vi b' :: vi a' :: st) u bb σ Q ↔ q_R (a' + b') ∧ qx sc D 252 204 ls (vi (a' + b') :: st) u bb σ Q := r_iadd (by decide +kernel)
theorem k252_204 : qx sc D 252 204 ls (vi i :: vr 1000000 :: st) u bb σ Q ↔ (0 ≤ i ∧ i < sc.1) ∧ qx sc D 252 205 ls (vi (sc.2 i.toNat).toInt :: st) u bb σ Q := r_scr (by decide +kernel)
theorem k252_205 (hu : u.1 + 0 ≤ 601024 ∧ u.2 + 0 ≤ 7293034) : qx sc (D + 1) 252 205 ls [vi x4, vi x3, vi x2, vi x1, vi x0, vr 136, vi x20] u bb σ Q ↔ qx sc D 150 0 [vr 136, vi x0, vi x1, vi x2, vi x3, vi x4, vn] [] (0, 0) bb σ (q_kn sc (D + 1) 252 208 ls [vi x20] (u.1 + 0, u.2 + 0) Q) := r_callvU (idx := 83) (n := 5) (m := 7) (by decide +kernel) hu rfl (Nat.le_of_ble_eq_true rfl) ⟨Nat.le_of_ble_eq_true rfl, Nat.le_of_ble_eq_true rfl, rfl⟩ rfl
theorem k252_208 : qx sc D 252 208 ls (vi b' :: vi a' :: st) u bb σ Q ↔ (a' = b' → qx sc D 252 1480 ls st u bb σ Q) ∧ (¬ (a' = b') → qx sc D 252 211 ls st u bb σ Q) := r_ic_eq (off := 1272) (t := 1480) (by decide +kernel)
theorem k252_211 : qx sc D 252 211 ls st u bb σ Q ↔ qx sc D 252 212 ls (vi 0 :: st) u bb σ Q := r_iconst (by decide +kernel)
theorem k252_212 (hu : u.1 + 0 ≤ 601024 ∧ u.2 + 0 ≤ 7293034) : qx sc D 252 212 ls [vi x] u bb σ Q ↔ (x = 0 ∨ x = 1) ∧ Q (.inl (some (vi x))) bb σ := r_retB ⟨(by decide +kernel), (by decide +kernel), fit252 hu⟩
theorem k252_213 : qx sc D 252 213 [l0, vr a, l2, l3, l4, l5, l6] st u bb σ Q ↔ qx sc D 252 214 [l0, vr a, l2, l3, l4, l5, l6] (vr a :: st) u bb σ Q := r_aload_n (k := 1) (by decide +kernel) rfl
theorem k252_214 : qx sc D 252 214 [vr a, l1, l2, l3, l4, l5, l6] st u bb σ Q ↔ qx sc D 252 215 [vr a, l1, l2, l3, l4, l5, l6] (vr a :: st) u bb σ Q := r_aload_n (k := 0) (by decide +kernel) rfl
theorem k252_215 : qx sc D 252 215 [l0, l1, l2, l3, vi x, l5, l6] st u bb σ Q ↔ qx sc D 252 217 [l0, l1, l2, l3, vi x, l5, l6] (vi x :: st) u bb σ Q := r_iload (k := 4) (by decide +kernel) rfl
theorem k252_217 : qx sc D 252 217 ls st u bb σ Q ↔ qx sc D 252 218 ls (vi 1 :: st) u bb σ Q := r_iconst (by decide +kernel)
theorem k252_218 : qx sc D 252 218 ls (vi b' :: vi a' :: st) u bb σ Q ↔ q_R (a' + b') ∧ qx sc D 252 219 ls (vi (a' + b') :: st) u bb σ Q := r_iadd (by decide +kernel)
theorem k252_219 : qx sc D 252 219 ls (vi i :: vr 1000000 :: st) u bb σ Q ↔ (0 ≤ i ∧ i < sc.1) ∧ qx sc D 252 220 ls (vi (sc.2 i.toNat).toInt :: st) u bb σ Q := r_scr (by decide +kernel)
theorem k252_220 (hu : u.1 + 0 ≤ 601024 ∧ u.2 + 0 ≤ 7293034) : qx sc (D + 1) 252 220 ls [vi x0, vr 0] u bb σ Q ↔ qx sc D 100 0 [vr 0, vi x0] [] (0, 0) bb σ (q_kn sc (D + 1) 252 223 ls [] (u.1 + 0, u.2 + 0) Q) := r_callvU (idx := 84) (n := 1) (m := 2) (by decide +kernel) hu rfl (Nat.le_of_ble_eq_true rfl) ⟨Nat.le_of_ble_eq_true rfl, Nat.le_of_ble_eq_true rfl, rfl⟩ rfl
theorem k252_223 : qx sc D 252 223 [l0, l1, vr a, l3, l4, l5, l6] st u bb σ Q ↔ qx sc D 252 224 [l0, l1, vr a, l3, l4, l5, l6] (vr a :: st) u bb σ Q := r_aload_n (k := 2) (by decide +kernel) rfl
theorem k252_224 : qx sc D 252 224 [vr a, l1, l2, l3, l4, l5, l6] st u bb σ Q ↔ qx sc D 252 225 [vr a, l1, l2, l3, l4, l5, l6] (vr a :: st) u bb σ Q := r_aload_n (k := 0) (by decide +kernel) rfl
theorem k252_225 : qx sc D 252 225 [l0, l1, l2, l3, vi x, l5, l6] st u bb σ Q ↔ qx sc D 252 227 [l0, l1, l2, l3, vi x, l5, l6] (vi x :: st) u bb σ Q := r_iload (k := 4) (by decide +kernel) rfl
theorem k252_227 : qx sc D 252 227 ls st u bb σ Q ↔ qx sc D 252 228 ls (vi 1 :: st) u bb σ Q := r_iconst (by decide +kernel)
theorem k252_228 : qx sc D 252 228 ls (vi b' :: vi a' :: st) u bb σ Q ↔ q_R (a' + b') ∧ qx sc D 252 229 ls (vi (a' + b') :: st) u bb σ Q := r_iadd (by decide +kernel)
theorem k252_229 : qx sc D 252 229 ls (vi i :: vr 1000000 :: st) u bb σ Q ↔ (0 ≤ i ∧ i < sc.1) ∧ qx sc D 252 230 ls (vi (sc.2 i.toNat).toInt :: st) u bb σ Q := r_scr (by decide +kernel)
theorem k252_230 (hu : u.1 + 0 ≤ 601024 ∧ u.2 + 0 ≤ 7293034) : qx sc (D + 1) 252 230 ls [vi x0, vr 136, vi x20] u bb σ Q ↔ qx sc D 145 0 [vr 136, vi x0] [] (0, 0) bb σ (q_kn sc (D + 1) 252 233 ls [vi x20] (u.1 + 0, u.2 + 0) Q) := r_callvU (idx := 88) (n := 1) (m := 2) (by decide +kernel) hu rfl (Nat.le_of_ble_eq_true rfl) ⟨Nat.le_of_ble_eq_true rfl, Nat.le_of_ble_eq_true rfl, rfl⟩ rfl
theorem k252_233 : qx sc D 252 233 ls (vi b' :: vi a' :: st) u bb σ Q ↔ (a' = b' → qx sc D 252 1480 ls st u bb σ Q) ∧ (¬ (a' = b') → qx sc D 252 236 ls st u bb σ Q) := r_ic_eq (off := 1247) (t := 1480) (by decide +kernel)
theorem k252_236 : qx sc D 252 236 ls st u bb σ Q ↔ qx sc D 252 237 ls (vi 0 :: st) u bb σ Q := r_iconst (by decide +kernel)
theorem k252_237 (hu : u.1 + 0 ≤ 601024 ∧ u.2 + 0 ≤ 7293034) : qx sc D 252 237 ls [vi x] u bb σ Q ↔ (x = 0 ∨ x = 1) ∧ Q (.inl (some (vi x))) bb σ := r_retB ⟨(by decide +kernel), (by decide +kernel), fit252 hu⟩
theorem k252_238 : qx sc D 252 238 [l0, vr a, l2, l3, l4, l5, l6] st u bb σ Q ↔ qx sc D 252 239 [l0, vr a, l2, l3, l4, l5, l6] (vr a :: st) u bb σ Q := r_aload_n (k := 1) (by decide +kernel) rfl
theorem k252_239 : qx sc D 252 239 [l0, l1, l2, vr a, l4, l5, l6] st u bb σ Q ↔ qx sc D 252 240 [l0, l1, l2, vr a, l4, l5, l6] (vr a :: st) u bb σ Q := r_aload_n (k := 3) (by decide +kernel) rfl
theorem k252_240 (hu : u.1 + 4 ≤ 601024 ∧ u.2 + 24 ≤ 7293034) : qx sc (D + 1) 252 240 ls [vr a1, vr a0] u bb σ Q ↔ qx sc D 242 0 [vr a0, vr a1, vn] [] (0, 0) bb σ (q_kn sc (D + 1) 252 243 ls [] (u.1 + 4, u.2 + 24) Q) := r_callsX (idx := 89) (n := 2) (m := 3) (by decide +kernel) hu rfl (Nat.le_of_ble_eq_true rfl) ⟨Nat.le_of_ble_eq_true rfl, Nat.le_of_ble_eq_true rfl, rfl⟩ rfl
theorem k252_243 : qx sc D 252 243 [l0, l1, l2, l3, l4, l5, l6] (vi x :: st) u bb σ Q ↔ qx sc D 252 245 [l0, l1, l2, l3, l4, vi x, l6] st u bb σ Q := r_istore (k := 5) (by decide +kernel) (Nat.le_of_ble_eq_true rfl)
theorem k252_245 : qx sc D 252 245 [l0, l1, vr a, l3, l4, l5, l6] st u bb σ Q ↔ qx sc D 252 246 [l0, l1, vr a, l3, l4, l5, l6] (vr a :: st) u bb σ Q := r_aload_n (k := 2) (by decide +kernel) rfl
theorem k252_246 (hu : u.1 + 0 ≤ 601024 ∧ u.2 + 0 ≤ 7293034) : qx sc (D + 1) 252 246 ls [vr 136] u bb σ Q ↔ qx sc D 203 0 [vr 136, vn, vn] [] (0, 0) bb σ (q_kn sc (D + 1) 252 249 ls [] (u.1 + 0, u.2 + 0) Q) := r_callvU (idx := 94) (n := 0) (m := 3) (by decide +kernel) hu rfl (Nat.le_of_ble_eq_true rfl) ⟨Nat.le_of_ble_eq_true rfl, Nat.le_of_ble_eq_true rfl, rfl⟩ rfl
theorem k252_249 : qx sc D 252 249 [l0, l1, l2, l3, l4, l5, l6] (vi x :: st) u bb σ Q ↔ qx sc D 252 251 [l0, l1, l2, l3, l4, l5, vi x] st u bb σ Q := r_istore (k := 6) (by decide +kernel) (Nat.le_of_ble_eq_true rfl)
theorem k252_251 : qx sc D 252 251 [l0, l1, vr a, l3, l4, l5, l6] st u bb σ Q ↔ qx sc D 252 252 [l0, l1, vr a, l3, l4, l5, l6] (vr a :: st) u bb σ Q := r_aload_n (k := 2) (by decide +kernel) rfl
theorem k252_252 (hu : u.1 + 0 ≤ 601024 ∧ u.2 + 0 ≤ 7293034) : qx sc (D + 1) 252 252 ls [vr 136] u bb σ Q ↔ qx sc D 223 0 [vr 136] [] (0, 0) bb σ (q_kn sc (D + 1) 252 255 ls [] (u.1 + 0, u.2 + 0) Q) := r_callvU (idx := 95) (n := 0) (m := 1) (by decide +kernel) hu rfl (Nat.le_of_ble_eq_true rfl) ⟨Nat.le_of_ble_eq_true rfl, Nat.le_of_ble_eq_true rfl, rfl⟩ rfl
theorem k252_255 : qx sc D 252 255 [l0, l1, l2, l3, l4, vi x, l6] st u bb σ Q ↔ qx sc D 252 257 [l0, l1, l2, l3, l4, vi x, l6] (vi x :: st) u bb σ Q := r_iload (k := 5) (by decide +kernel) rfl
theorem k252_257 : qx sc D 252 257 ls (vi b' :: vi a' :: st) u bb σ Q ↔ (a' = b' → qx sc D 252 262 ls st u bb σ Q) ∧ (¬ (a' = b') → qx sc D 252 260 ls st u bb σ Q) := r_ic_eq (off := 5) (t := 262) (by decide +kernel)
theorem k252_260 : qx sc D 252 260 ls st u bb σ Q ↔ qx sc D 252 261 ls (vi 0 :: st) u bb σ Q := r_iconst (by decide +kernel)
theorem k252_261 (hu : u.1 + 0 ≤ 601024 ∧ u.2 + 0 ≤ 7293034) : qx sc D 252 261 ls [vi x] u bb σ Q ↔ (x = 0 ∨ x = 1) ∧ Q (.inl (some (vi x))) bb σ := r_retB ⟨(by decide +kernel), (by decide +kernel), fit252 hu⟩
theorem k252_262 : qx sc D 252 262 [l0, l1, l2, l3, l4, vi x, l6] st u bb σ Q ↔ qx sc D 252 264 [l0, l1, l2, l3, l4, vi x, l6] (vi x :: st) u bb σ Q := r_iload (k := 5) (by decide +kernel) rfl
theorem k252_264 : qx sc D 252 264 ls (vi x :: st) u bb σ Q ↔ (x = 0 → qx sc D 252 267 ls st u bb σ Q) ∧ (¬ (x = 0) → qx sc D 252 279 ls st u bb σ Q) := r_if_ne (off := 15) (t := 279) (by decide +kernel)
theorem k252_267 : qx sc D 252 267 [l0, l1, l2, vr a, l4, l5, l6] st u bb σ Q ↔ qx sc D 252 268 [l0, l1, l2, vr a, l4, l5, l6] (vr a :: st) u bb σ Q := r_aload_n (k := 3) (by decide +kernel) rfl
theorem k252_268 : qx sc D 252 268 ls st u bb σ Q ↔ qx sc D 252 269 ls (vi 0 :: st) u bb σ Q := r_iconst (by decide +kernel)
theorem k252_269 : qx sc D 252 269 ls (vi i :: vr a :: st) u bb σ Q ↔ (q_ty a = 3 ∧ 0 ≤ i ∧ i < q_ln a) ∧ qx sc D 252 270 ls (vl (σ a i) :: st) u bb σ Q := r_lald (by decide +kernel)
theorem k252_270 : qx sc D 252 270 [l0, l1, l2, l3, l4, l5, vi x] st u bb σ Q ↔ qx sc D 252 272 [l0, l1, l2, l3, l4, l5, vi x] (vi x :: st) u bb σ Q := r_iload (k := 6) (by decide +kernel) rfl
theorem k252_272 : qx sc D 252 272 ls (vi a' :: st) u bb σ Q ↔ qx sc D 252 273 ls (vl a' :: st) u bb σ Q := r_i2l (by decide +kernel)
theorem k252_273 : qx sc D 252 273 ls (vl b' :: vl a' :: st) u bb σ Q ↔ qx sc D 252 274 ls (vi (if b' < a' then 1 else if a' = b' then 0 else -1) :: st) u bb σ Q := r_lcmp (by decide +kernel)
theorem k252_274 : qx sc D 252 274 ls (vi x :: st) u bb σ Q ↔ (x = 0 → qx sc D 252 279 ls st u bb σ Q) ∧ (¬ (x = 0) → qx sc D 252 277 ls st u bb σ Q) := r_if_eq (off := 5) (t := 279) (by decide +kernel)
theorem k252_277 : qx sc D 252 277 ls st u bb σ Q ↔ qx sc D 252 278 ls (vi 0 :: st) u bb σ Q := r_iconst (by decide +kernel)
theorem k252_278 (hu : u.1 + 0 ≤ 601024 ∧ u.2 + 0 ≤ 7293034) : qx sc D 252 278 ls [vi x] u bb σ Q ↔ (x = 0 ∨ x = 1) ∧ Q (.inl (some (vi x))) bb σ := r_retB ⟨(by decide +kernel), (by decide +kernel), fit252 hu⟩
theorem k252_279 : qx sc D 252 279 ls st u bb σ Q ↔ qx sc D 252 1480 ls st u bb σ Q := r_goto (off := 1201) (by decide +kernel)
theorem k252_282 : qx sc D 252 282 [l0, vr a, l2, l3, l4, l5, l6] st u bb σ Q ↔ qx sc D 252 283 [l0, vr a, l2, l3, l4, l5, l6] (vr a :: st) u bb σ Q := r_aload_n (k := 1) (by decide +kernel) rfl
theorem k252_283 (hu : u.1 + 0 ≤ 601024 ∧ u.2 + 0 ≤ 7293034) : qx sc (D + 1) 252 283 ls [vr 0] u bb σ Q ↔ qx sc D 101 0 [vr 0] [] (0, 0) bb σ (q_kn sc (D + 1) 252 286 ls [] (u.1 + 0, u.2 + 0) Q) := r_callvU (idx := 98) (n := 0) (m := 1) (by decide +kernel) hu rfl (Nat.le_of_ble_eq_true rfl) ⟨Nat.le_of_ble_eq_true rfl, Nat.le_of_ble_eq_true rfl, rfl⟩ rfl
theorem k252_286 : qx sc D 252 286 [l0, l1, vr a, l3, l4, l5, l6] st u bb σ Q ↔ qx sc D 252 287 [l0, l1, vr a, l3, l4, l5, l6] (vr a :: st) u bb σ Q := r_aload_n (k := 2) (by decide +kernel) rfl
theorem k252_287 (hu : u.1 + 0 ≤ 601024 ∧ u.2 + 0 ≤ 7293034) : qx sc (D + 1) 252 287 ls [vr 136, vi x20] u bb σ Q ↔ qx sc D 149 0 [vr 136] [] (0, 0) bb σ (q_kn sc (D + 1) 252 290 ls [vi x20] (u.1 + 0, u.2 + 0) Q) := r_callvU (idx := 101) (n := 0) (m := 1) (by decide +kernel) hu rfl (Nat.le_of_ble_eq_true rfl) ⟨Nat.le_of_ble_eq_true rfl, Nat.le_of_ble_eq_true rfl, rfl⟩ rfl
theorem k252_290 : qx sc D 252 290 ls (vi b' :: vi a' :: st) u bb σ Q ↔ (a' = b' → qx sc D 252 1480 ls st u bb σ Q) ∧ (¬ (a' = b') → qx sc D 252 293 ls st u bb σ Q) := r_ic_eq (off := 1190) (t := 1480) (by decide +kernel)
theorem k252_293 : qx sc D 252 293 ls st u bb σ Q ↔ qx sc D 252 294 ls (vi 0 :: st) u bb σ Q := r_iconst (by decide +kernel)
theorem k252_294 (hu : u.1 + 0 ≤ 601024 ∧ u.2 + 0 ≤ 7293034) : qx sc D 252 294 ls [vi x] u bb σ Q ↔ (x = 0 ∨ x = 1) ∧ Q (.inl (some (vi x))) bb σ := r_retB ⟨(by decide +kernel), (by decide +kernel), fit252 hu⟩
theorem k252_295 : qx sc D 252 295 [l0, vr a, l2, l3, l4, l5, l6] st u bb σ Q ↔ qx sc D 252 296 [l0, vr a, l2, l3, l4, l5, l6] (vr a :: st) u bb σ Q := r_aload_n (k := 1) (by decide +kernel) rfl
theorem k252_296 : qx sc D 252 296 [vr a, l1, l2, l3, l4, l5, l6] st u bb σ Q ↔ qx sc D 252 297 [vr a, l1, l2, l3, l4, l5, l6] (vr a :: st) u bb σ Q := r_aload_n (k := 0) (by decide +kernel) rfl
theorem k252_297 : qx sc D 252 297 [l0, l1, l2, l3, vi x, l5, l6] st u bb σ Q ↔ qx sc D 252 299 [l0, l1, l2, l3, vi x, l5, l6] (vi x :: st) u bb σ Q := r_iload (k := 4) (by decide +kernel) rfl
theorem k252_299 : qx sc D 252 299 ls st u bb σ Q ↔ qx sc D 252 300 ls (vi 1 :: st) u bb σ Q := r_iconst (by decide +kernel)
theorem k252_300 : qx sc D 252 300 ls (vi b' :: vi a' :: st) u bb σ Q ↔ q_R (a' + b') ∧ qx sc D 252 301 ls (vi (a' + b') :: st) u bb σ Q := r_iadd (by decide +kernel)
theorem k252_301 : qx sc D 252 301 ls (vi i :: vr 1000000 :: st) u bb σ Q ↔ (0 ≤ i ∧ i < sc.1) ∧ qx sc D 252 302 ls (vi (sc.2 i.toNat).toInt :: st) u bb σ Q := r_scr (by decide +kernel)
theorem k252_302 : qx sc D 252 302 [vr a, l1, l2, l3, l4, l5, l6] st u bb σ Q ↔ qx sc D 252 303 [vr a, l1, l2, l3, l4, l5, l6] (vr a :: st) u bb σ Q := r_aload_n (k := 0) (by decide +kernel) rfl
theorem k252_303 : qx sc D 252 303 [l0, l1, l2, l3, vi x, l5, l6] st u bb σ Q ↔ qx sc D 252 305 [l0, l1, l2, l3, vi x, l5, l6] (vi x :: st) u bb σ Q := r_iload (k := 4) (by decide +kernel) rfl
theorem k252_305 : qx sc D 252 305 ls st u bb σ Q ↔ qx sc D 252 306 ls (vi 2 :: st) u bb σ Q := r_iconst (by decide +kernel)
theorem k252_306 : qx sc D 252 306 ls (vi b' :: vi a' :: st) u bb σ Q ↔ q_R (a' + b') ∧ qx sc D 252 307 ls (vi (a' + b') :: st) u bb σ Q := r_iadd (by decide +kernel)
theorem k252_307 : qx sc D 252 307 ls (vi i :: vr 1000000 :: st) u bb σ Q ↔ (0 ≤ i ∧ i < sc.1) ∧ qx sc D 252 308 ls (vi (sc.2 i.toNat).toInt :: st) u bb σ Q := r_scr (by decide +kernel)
theorem k252_308 : qx sc D 252 308 [l0, l1, l2, vr a, l4, l5, l6] st u bb σ Q ↔ qx sc D 252 309 [l0, l1, l2, vr a, l4, l5, l6] (vr a :: st) u bb σ Q := r_aload_n (k := 3) (by decide +kernel) rfl
theorem k252_309 (hu : u.1 + 4 ≤ 601024 ∧ u.2 + 24 ≤ 7293034) : qx sc (D + 1) 252 309 ls [vr a3, vi x2, vi x1, vr a0] u bb σ Q ↔ qx sc D 246 0 [vr a0, vi x1, vi x2, vr a3, vn] [] (0, 0) bb σ (q_kn sc (D + 1) 252 312 ls [] (u.1 + 4, u.2 + 24) Q) := r_callsX (idx := 102) (n := 4) (m := 5) (by decide +kernel) hu rfl (Nat.le_of_ble_eq_true rfl) ⟨Nat.le_of_ble_eq_true rfl, Nat.le_of_ble_eq_true rfl, rfl⟩ rfl
theorem k252_312 : qx sc D 252 312 [l0, l1, l2, l3, l4, l5, l6] (vi x :: st) u bb σ Q ↔ qx sc D 252 314 [l0, l1, l2, l3, l4, vi x, l6] st u bb σ Q := r_istore (k := 5) (by decide +kernel) (Nat.le_of_ble_eq_true rfl)
theorem k252_314 : qx sc D 252 314 [l0, l1, vr a, l3, l4, l5, l6] st u bb σ Q ↔ qx sc D 252 315 [l0, l1, vr a, l3, l4, l5, l6] (vr a :: st) u bb σ Q := r_aload_n (k := 2) (by decide +kernel) rfl
theorem k252_315 : qx sc D 252 315 [vr a, l1, l2, l3, l4, l5, l6] st u bb σ Q ↔ qx sc D 252 316 [vr a, l1, l2, l3, l4, l5, l6] (vr a :: st) u bb σ Q := r_aload_n (k := 0) (by decide +kernel) rfl
theorem k252_316 : qx sc D 252 316 [l0, l1, l2, l3, vi x, l5, l6] st u bb σ Q ↔ qx sc D 252 318 [l0, l1, l2, l3, vi x, l5, l6] (vi x :: st) u bb σ Q := r_iload (k := 4) (by decide +kernel) rfl
theorem k252_318 : qx sc D 252 318 ls st u bb σ Q ↔ qx sc D 252 319 ls (vi 1 :: st) u bb σ Q := r_iconst (by decide +kernel)
theorem k252_319 : qx sc D 252 319 ls (vi b' :: vi a' :: st) u bb σ Q ↔ q_R (a' + b') ∧ qx sc D 252 320 ls (vi (a' + b') :: st) u bb σ Q := r_iadd (by decide +kernel)
theorem k252_320 : qx sc D 252 320 ls (vi i :: vr 1000000 :: st) u bb σ Q ↔ (0 ≤ i ∧ i < sc.1) ∧ qx sc D 252 321 ls (vi (sc.2 i.toNat).toInt :: st) u bb σ Q := r_scr (by decide +kernel)
theorem k252_321 : qx sc D 252 321 [vr a, l1, l2, l3, l4, l5, l6] st u bb σ Q ↔ qx sc D 252 322 [vr a, l1, l2, l3, l4, l5, l6] (vr a :: st) u bb σ Q := r_aload_n (k := 0) (by decide +kernel) rfl
theorem k252_322 : qx sc D 252 322 [l0, l1, l2, l3, vi x, l5, l6] st u bb σ Q ↔ qx sc D 252 324 [l0, l1, l2, l3, vi x, l5, l6] (vi x :: st) u bb σ Q := r_iload (k := 4) (by decide +kernel) rfl
theorem k252_324 : qx sc D 252 324 ls st u bb σ Q ↔ qx sc D 252 325 ls (vi 2 :: st) u bb σ Q := r_iconst (by decide +kernel)
theorem k252_325 : qx sc D 252 325 ls (vi b' :: vi a' :: st) u bb σ Q ↔ q_R (a' + b') ∧ qx sc D 252 326 ls (vi (a' + b') :: st) u bb σ Q := r_iadd (by decide +kernel)
theorem k252_326 : qx sc D 252 326 ls (vi i :: vr 1000000 :: st) u bb σ Q ↔ (0 ≤ i ∧ i < sc.1) ∧ qx sc D 252 327 ls (vi (sc.2 i.toNat).toInt :: st) u bb σ Q := r_scr (by decide +kernel)
theorem k252_327 (hu : u.1 + 0 ≤ 601024 ∧ u.2 + 0 ≤ 7293034) : qx sc (D + 1) 252 327 ls [vi x1, vi x0, vr 136] u bb σ Q ↔ qx sc D 216 0 [vr 136, vi x0, vi x1] [] (0, 0) bb σ (q_kn sc (D + 1) 252 330 ls [] (u.1 + 0, u.2 + 0) Q) := r_callvU (idx := 105) (n := 2) (m := 3) (by decide +kernel) hu rfl (Nat.le_of_ble_eq_true rfl) ⟨Nat.le_of_ble_eq_true rfl, Nat.le_of_ble_eq_true rfl, rfl⟩ rfl
theorem k252_330 : qx sc D 252 330 [l0, l1, l2, l3, l4, l5, l6] (vi x :: st) u bb σ Q ↔ qx sc D 252 332 [l0, l1, l2, l3, l4, l5, vi x] st u bb σ Q := r_istore (k := 6) (by decide +kernel) (Nat.le_of_ble_eq_true rfl)
theorem k252_332 : qx sc D 252 332 [l0, l1, vr a, l3, l4, l5, l6] st u bb σ Q ↔ qx sc D 252 333 [l0, l1, vr a, l3, l4, l5, l6] (vr a :: st) u bb σ Q := r_aload_n (k := 2) (by decide +kernel) rfl
theorem k252_333 (hu : u.1 + 0 ≤ 601024 ∧ u.2 + 0 ≤ 7293034) : qx sc (D + 1) 252 333 ls [vr 136] u bb σ Q ↔ qx sc D 223 0 [vr 136] [] (0, 0) bb σ (q_kn sc (D + 1) 252 336 ls [] (u.1 + 0, u.2 + 0) Q) := r_callvU (idx := 95) (n := 0) (m := 1) (by decide +kernel) hu rfl (Nat.le_of_ble_eq_true rfl) ⟨Nat.le_of_ble_eq_true rfl, Nat.le_of_ble_eq_true rfl, rfl⟩ rfl
theorem k252_336 : qx sc D 252 336 [l0, l1, l2, l3, l4, vi x, l6] st u bb σ Q ↔ qx sc D 252 338 [l0, l1, l2, l3, l4, vi x, l6] (vi x :: st) u bb σ Q := r_iload (k := 5) (by decide +kernel) rfl
theorem k252_338 : qx sc D 252 338 ls (vi b' :: vi a' :: st) u bb σ Q ↔ (a' = b' → qx sc D 252 343 ls st u bb σ Q) ∧ (¬ (a' = b') → qx sc D 252 341 ls st u bb σ Q) := r_ic_eq (off := 5) (t := 343) (by decide +kernel)
theorem k252_341 : qx sc D 252 341 ls st u bb σ Q ↔ qx sc D 252 342 ls (vi 0 :: st) u bb σ Q := r_iconst (by decide +kernel)
theorem k252_342 (hu : u.1 + 0 ≤ 601024 ∧ u.2 + 0 ≤ 7293034) : qx sc D 252 342 ls [vi x] u bb σ Q ↔ (x = 0 ∨ x = 1) ∧ Q (.inl (some (vi x))) bb σ := r_retB ⟨(by decide +kernel), (by decide +kernel), fit252 hu⟩
theorem k252_343 : qx sc D 252 343 [l0, l1, l2, l3, l4, vi x, l6] st u bb σ Q ↔ qx sc D 252 345 [l0, l1, l2, l3, l4, vi x, l6] (vi x :: st) u bb σ Q := r_iload (k := 5) (by decide +kernel) rfl
theorem k252_345 : qx sc D 252 345 ls (vi x :: st) u bb σ Q ↔ (x = 0 → qx sc D 252 348 ls st u bb σ Q) ∧ (¬ (x = 0) → qx sc D 252 360 ls st u bb σ Q) := r_if_ne (off := 15) (t := 360) (by decide +kernel)
theorem k252_348 : qx sc D 252 348 [l0, l1, l2, vr a, l4, l5, l6] st u bb σ Q ↔ qx sc D 252 349 [l0, l1, l2, vr a, l4, l5, l6] (vr a :: st) u bb σ Q := r_aload_n (k := 3) (by decide +kernel) rfl
theorem k252_349 : qx sc D 252 349 ls st u bb σ Q ↔ qx sc D 252 350 ls (vi 0 :: st) u bb σ Q := r_iconst (by decide +kernel)
theorem k252_350 : qx sc D 252 350 ls (vi i :: vr a :: st) u bb σ Q ↔ (q_ty a = 3 ∧ 0 ≤ i ∧ i < q_ln a) ∧ qx sc D 252 351 ls (vl (σ a i) :: st) u bb σ Q := r_lald (by decide +kernel)
theorem k252_351 : qx sc D 252 351 [l0, l1, l2, l3, l4, l5, vi x] st u bb σ Q ↔ qx sc D 252 353 [l0, l1, l2, l3, l4, l5, vi x] (vi x :: st) u bb σ Q := r_iload (k := 6) (by decide +kernel) rfl
theorem k252_353 : qx sc D 252 353 ls (vi a' :: st) u bb σ Q ↔ qx sc D 252 354 ls (vl a' :: st) u bb σ Q := r_i2l (by decide +kernel)
theorem k252_354 : qx sc D 252 354 ls (vl b' :: vl a' :: st) u bb σ Q ↔ qx sc D 252 355 ls (vi (if b' < a' then 1 else if a' = b' then 0 else -1) :: st) u bb σ Q := r_lcmp (by decide +kernel)
theorem k252_355 : qx sc D 252 355 ls (vi x :: st) u bb σ Q ↔ (x = 0 → qx sc D 252 360 ls st u bb σ Q) ∧ (¬ (x = 0) → qx sc D 252 358 ls st u bb σ Q) := r_if_eq (off := 5) (t := 360) (by decide +kernel)
theorem k252_358 : qx sc D 252 358 ls st u bb σ Q ↔ qx sc D 252 359 ls (vi 0 :: st) u bb σ Q := r_iconst (by decide +kernel)
theorem k252_359 (hu : u.1 + 0 ≤ 601024 ∧ u.2 + 0 ≤ 7293034) : qx sc D 252 359 ls [vi x] u bb σ Q ↔ (x = 0 ∨ x = 1) ∧ Q (.inl (some (vi x))) bb σ := r_retB ⟨(by decide +kernel), (by decide +kernel), fit252 hu⟩
theorem k252_360 : qx sc D 252 360 ls st u bb σ Q ↔ qx sc D 252 1480 ls st u bb σ Q := r_goto (off := 1120) (by decide +kernel)
theorem k252_363 : qx sc D 252 363 [l0, vr a, l2, l3, l4, l5, l6] st u bb σ Q ↔ qx sc D 252 364 [l0, vr a, l2, l3, l4, l5, l6] (vr a :: st) u bb σ Q := r_aload_n (k := 1) (by decide +kernel) rfl
theorem k252_364 : qx sc D 252 364 [vr a, l1, l2, l3, l4, l5, l6] st u bb σ Q ↔ qx sc D 252 365 [vr a, l1, l2, l3, l4, l5, l6] (vr a :: st) u bb σ Q := r_aload_n (k := 0) (by decide +kernel) rfl
theorem k252_365 : qx sc D 252 365 [l0, l1, l2, l3, vi x, l5, l6] st u bb σ Q ↔ qx sc D 252 367 [l0, l1, l2, l3, vi x, l5, l6] (vi x :: st) u bb σ Q := r_iload (k := 4) (by decide +kernel) rfl
theorem k252_367 : qx sc D 252 367 ls st u bb σ Q ↔ qx sc D 252 368 ls (vi 1 :: st) u bb σ Q := r_iconst (by decide +kernel)
theorem k252_368 : qx sc D 252 368 ls (vi b' :: vi a' :: st) u bb σ Q ↔ q_R (a' + b') ∧ qx sc D 252 369 ls (vi (a' + b') :: st) u bb σ Q := r_iadd (by decide +kernel)
theorem k252_369 : qx sc D 252 369 ls (vi i :: vr 1000000 :: st) u bb σ Q ↔ (0 ≤ i ∧ i < sc.1) ∧ qx sc D 252 370 ls (vi (sc.2 i.toNat).toInt :: st) u bb σ Q := r_scr (by decide +kernel)
theorem k252_370 : qx sc D 252 370 [vr a, l1, l2, l3, l4, l5, l6] st u bb σ Q ↔ qx sc D 252 371 [vr a, l1, l2, l3, l4, l5, l6] (vr a :: st) u bb σ Q := r_aload_n (k := 0) (by decide +kernel) rfl
theorem k252_371 : qx sc D 252 371 [l0, l1, l2, l3, vi x, l5, l6] st u bb σ Q ↔ qx sc D 252 373 [l0, l1, l2, l3, vi x, l5, l6] (vi x :: st) u bb σ Q := r_iload (k := 4) (by decide +kernel) rfl
theorem k252_373 : qx sc D 252 373 ls st u bb σ Q ↔ qx sc D 252 374 ls (vi 2 :: st) u bb σ Q := r_iconst (by decide +kernel)
theorem k252_374 : qx sc D 252 374 ls (vi b' :: vi a' :: st) u bb σ Q ↔ q_R (a' + b') ∧ qx sc D 252 375 ls (vi (a' + b') :: st) u bb σ Q := r_iadd (by decide +kernel)
theorem k252_375 : qx sc D 252 375 ls (vi i :: vr 1000000 :: st) u bb σ Q ↔ (0 ≤ i ∧ i < sc.1) ∧ qx sc D 252 376 ls (vi (sc.2 i.toNat).toInt :: st) u bb σ Q := r_scr (by decide +kernel)
theorem k252_376 : qx sc D 252 376 [l0, l1, l2, vr a, l4, l5, l6] st u bb σ Q ↔ qx sc D 252 377 [l0, l1, l2, vr a, l4, l5, l6] (vr a :: st) u bb σ Q := r_aload_n (k := 3) (by decide +kernel) rfl
theorem k252_377 (hu : u.1 + 4 ≤ 601024 ∧ u.2 + 24 ≤ 7293034) : qx sc (D + 1) 252 377 ls [vr a3, vi x2, vi x1, vr a0] u bb σ Q ↔ qx sc D 247 0 [vr a0, vi x1, vi x2, vr a3, vn] [] (0, 0) bb σ (q_kn sc (D + 1) 252 380 ls [] (u.1 + 4, u.2 + 24) Q) := r_callsX (idx := 106) (n := 4) (m := 5) (by decide +kernel) hu rfl (Nat.le_of_ble_eq_true rfl) ⟨Nat.le_of_ble_eq_true rfl, Nat.le_of_ble_eq_true rfl, rfl⟩ rfl
theorem k252_380 : qx sc D 252 380 [l0, l1, l2, l3, l4, l5, l6] (vi x :: st) u bb σ Q ↔ qx sc D 252 382 [l0, l1, l2, l3, l4, vi x, l6] st u bb σ Q := r_istore (k := 5) (by decide +kernel) (Nat.le_of_ble_eq_true rfl)
theorem k252_382 : qx sc D 252 382 [l0, l1, vr a, l3, l4, l5, l6] st u bb σ Q ↔ qx sc D 252 383 [l0, l1, vr a, l3, l4, l5, l6] (vr a :: st) u bb σ Q := r_aload_n (k := 2) (by decide +kernel) rfl
theorem k252_383 : qx sc D 252 383 [vr a, l1, l2, l3, l4, l5, l6] st u bb σ Q ↔ qx sc D 252 384 [vr a, l1, l2, l3, l4, l5, l6] (vr a :: st) u bb σ Q := r_aload_n (k := 0) (by decide +kernel) rfl
theorem k252_384 : qx sc D 252 384 [l0, l1, l2, l3, vi x, l5, l6] st u bb σ Q ↔ qx sc D 252 386 [l0, l1, l2, l3, vi x, l5, l6] (vi x :: st) u bb σ Q := r_iload (k := 4) (by decide +kernel) rfl
theorem k252_386 : qx sc D 252 386 ls st u bb σ Q ↔ qx sc D 252 387 ls (vi 1 :: st) u bb σ Q := r_iconst (by decide +kernel)
theorem k252_387 : qx sc D 252 387 ls (vi b' :: vi a' :: st) u bb σ Q ↔ q_R (a' + b') ∧ qx sc D 252 388 ls (vi (a' + b') :: st) u bb σ Q := r_iadd (by decide +kernel)
theorem k252_388 : qx sc D 252 388 ls (vi i :: vr 1000000 :: st) u bb σ Q ↔ (0 ≤ i ∧ i < sc.1) ∧ qx sc D 252 389 ls (vi (sc.2 i.toNat).toInt :: st) u bb σ Q := r_scr (by decide +kernel)
theorem k252_389 : qx sc D 252 389 [vr a, l1, l2, l3, l4, l5, l6] st u bb σ Q ↔ qx sc D 252 390 [vr a, l1, l2, l3, l4, l5, l6] (vr a :: st) u bb σ Q := r_aload_n (k := 0) (by decide +kernel) rfl
theorem k252_390 : qx sc D 252 390 [l0, l1, l2, l3, vi x, l5, l6] st u bb σ Q ↔ qx sc D 252 392 [l0, l1, l2, l3, vi x, l5, l6] (vi x :: st) u bb σ Q := r_iload (k := 4) (by decide +kernel) rfl
theorem k252_392 : qx sc D 252 392 ls st u bb σ Q ↔ qx sc D 252 393 ls (vi 2 :: st) u bb σ Q := r_iconst (by decide +kernel)
theorem k252_393 : qx sc D 252 393 ls (vi b' :: vi a' :: st) u bb σ Q ↔ q_R (a' + b') ∧ qx sc D 252 394 ls (vi (a' + b') :: st) u bb σ Q := r_iadd (by decide +kernel)
theorem k252_394 : qx sc D 252 394 ls (vi i :: vr 1000000 :: st) u bb σ Q ↔ (0 ≤ i ∧ i < sc.1) ∧ qx sc D 252 395 ls (vi (sc.2 i.toNat).toInt :: st) u bb σ Q := r_scr (by decide +kernel)
theorem k252_395 (hu : u.1 + 0 ≤ 601024 ∧ u.2 + 0 ≤ 7293034) : qx sc (D + 1) 252 395 ls [vi x1, vi x0, vr 136] u bb σ Q ↔ qx sc D 229 0 [vr 136, vi x0, vi x1] [] (0, 0) bb σ (q_kn sc (D + 1) 252 398 ls [] (u.1 + 0, u.2 + 0) Q) := r_callvU (idx := 108) (n := 2) (m := 3) (by decide +kernel) hu rfl (Nat.le_of_ble_eq_true rfl) ⟨Nat.le_of_ble_eq_true rfl, Nat.le_of_ble_eq_true rfl, rfl⟩ rfl
theorem k252_398 : qx sc D 252 398 [l0, l1, l2, l3, l4, l5, l6] (vi x :: st) u bb σ Q ↔ qx sc D 252 400 [l0, l1, l2, l3, l4, l5, vi x] st u bb σ Q := r_istore (k := 6) (by decide +kernel) (Nat.le_of_ble_eq_true rfl)
theorem k252_400 : qx sc D 252 400 [l0, l1, vr a, l3, l4, l5, l6] st u bb σ Q ↔ qx sc D 252 401 [l0, l1, vr a, l3, l4, l5, l6] (vr a :: st) u bb σ Q := r_aload_n (k := 2) (by decide +kernel) rfl
theorem k252_401 (hu : u.1 + 0 ≤ 601024 ∧ u.2 + 0 ≤ 7293034) : qx sc (D + 1) 252 401 ls [vr 136] u bb σ Q ↔ qx sc D 223 0 [vr 136] [] (0, 0) bb σ (q_kn sc (D + 1) 252 404 ls [] (u.1 + 0, u.2 + 0) Q) := r_callvU (idx := 95) (n := 0) (m := 1) (by decide +kernel) hu rfl (Nat.le_of_ble_eq_true rfl) ⟨Nat.le_of_ble_eq_true rfl, Nat.le_of_ble_eq_true rfl, rfl⟩ rfl
theorem k252_404 : qx sc D 252 404 [l0, l1, l2, l3, l4, vi x, l6] st u bb σ Q ↔ qx sc D 252 406 [l0, l1, l2, l3, l4, vi x, l6] (vi x :: st) u bb σ Q := r_iload (k := 5) (by decide +kernel) rfl
theorem k252_406 : qx sc D 252 406 ls (vi b' :: vi a' :: st) u bb σ Q ↔ (a' = b' → qx sc D 252 411 ls st u bb σ Q) ∧ (¬ (a' = b') → qx sc D 252 409 ls st u bb σ Q) := r_ic_eq (off := 5) (t := 411) (by decide +kernel)
theorem k252_409 : qx sc D 252 409 ls st u bb σ Q ↔ qx sc D 252 410 ls (vi 0 :: st) u bb σ Q := r_iconst (by decide +kernel)
theorem k252_410 (hu : u.1 + 0 ≤ 601024 ∧ u.2 + 0 ≤ 7293034) : qx sc D 252 410 ls [vi x] u bb σ Q ↔ (x = 0 ∨ x = 1) ∧ Q (.inl (some (vi x))) bb σ := r_retB ⟨(by decide +kernel), (by decide +kernel), fit252 hu⟩
theorem k252_411 : qx sc D 252 411 [l0, l1, l2, l3, l4, vi x, l6] st u bb σ Q ↔ qx sc D 252 413 [l0, l1, l2, l3, l4, vi x, l6] (vi x :: st) u bb σ Q := r_iload (k := 5) (by decide +kernel) rfl
theorem k252_413 : qx sc D 252 413 ls (vi x :: st) u bb σ Q ↔ (x = 0 → qx sc D 252 416 ls st u bb σ Q) ∧ (¬ (x = 0) → qx sc D 252 428 ls st u bb σ Q) := r_if_ne (off := 15) (t := 428) (by decide +kernel)
theorem k252_416 : qx sc D 252 416 [l0, l1, l2, vr a, l4, l5, l6] st u bb σ Q ↔ qx sc D 252 417 [l0, l1, l2, vr a, l4, l5, l6] (vr a :: st) u bb σ Q := r_aload_n (k := 3) (by decide +kernel) rfl
theorem k252_417 : qx sc D 252 417 ls st u bb σ Q ↔ qx sc D 252 418 ls (vi 0 :: st) u bb σ Q := r_iconst (by decide +kernel)
theorem k252_418 : qx sc D 252 418 ls (vi i :: vr a :: st) u bb σ Q ↔ (q_ty a = 3 ∧ 0 ≤ i ∧ i < q_ln a) ∧ qx sc D 252 419 ls (vl (σ a i) :: st) u bb σ Q := r_lald (by decide +kernel)
theorem k252_419 : qx sc D 252 419 [l0, l1, l2, l3, l4, l5, vi x] st u bb σ Q ↔ qx sc D 252 421 [l0, l1, l2, l3, l4, l5, vi x] (vi x :: st) u bb σ Q := r_iload (k := 6) (by decide +kernel) rfl
theorem k252_421 : qx sc D 252 421 ls (vi a' :: st) u bb σ Q ↔ qx sc D 252 422 ls (vl a' :: st) u bb σ Q := r_i2l (by decide +kernel)
theorem k252_422 : qx sc D 252 422 ls (vl b' :: vl a' :: st) u bb σ Q ↔ qx sc D 252 423 ls (vi (if b' < a' then 1 else if a' = b' then 0 else -1) :: st) u bb σ Q := r_lcmp (by decide +kernel)
theorem k252_423 : qx sc D 252 423 ls (vi x :: st) u bb σ Q ↔ (x = 0 → qx sc D 252 428 ls st u bb σ Q) ∧ (¬ (x = 0) → qx sc D 252 426 ls st u bb σ Q) := r_if_eq (off := 5) (t := 428) (by decide +kernel)
theorem k252_426 : qx sc D 252 426 ls st u bb σ Q ↔ qx sc D 252 427 ls (vi 0 :: st) u bb σ Q := r_iconst (by decide +kernel)
theorem k252_427 (hu : u.1 + 0 ≤ 601024 ∧ u.2 + 0 ≤ 7293034) : qx sc D 252 427 ls [vi x] u bb σ Q ↔ (x = 0 ∨ x = 1) ∧ Q (.inl (some (vi x))) bb σ := r_retB ⟨(by decide +kernel), (by decide +kernel), fit252 hu⟩
theorem k252_428 : qx sc D 252 428 ls st u bb σ Q ↔ qx sc D 252 1480 ls st u bb σ Q := r_goto (off := 1052) (by decide +kernel)
theorem k252_431 : qx sc D 252 431 [l0, vr a, l2, l3, l4, l5, l6] st u bb σ Q ↔ qx sc D 252 432 [l0, vr a, l2, l3, l4, l5, l6] (vr a :: st) u bb σ Q := r_aload_n (k := 1) (by decide +kernel) rfl
theorem k252_432 : qx sc D 252 432 [vr a, l1, l2, l3, l4, l5, l6] st u bb σ Q ↔ qx sc D 252 433 [vr a, l1, l2, l3, l4, l5, l6] (vr a :: st) u bb σ Q := r_aload_n (k := 0) (by decide +kernel) rfl
theorem k252_433 : qx sc D 252 433 [l0, l1, l2, l3, vi x, l5, l6] st u bb σ Q ↔ qx sc D 252 435 [l0, l1, l2, l3, vi x, l5, l6] (vi x :: st) u bb σ Q := r_iload (k := 4) (by decide +kernel) rfl
theorem k252_435 : qx sc D 252 435 ls st u bb σ Q ↔ qx sc D 252 436 ls (vi 1 :: st) u bb σ Q := r_iconst (by decide +kernel)
theorem k252_436 : qx sc D 252 436 ls (vi b' :: vi a' :: st) u bb σ Q ↔ q_R (a' + b') ∧ qx sc D 252 437 ls (vi (a' + b') :: st) u bb σ Q := r_iadd (by decide +kernel)
theorem k252_437 : qx sc D 252 437 ls (vi i :: vr 1000000 :: st) u bb σ Q ↔ (0 ≤ i ∧ i < sc.1) ∧ qx sc D 252 438 ls (vi (sc.2 i.toNat).toInt :: st) u bb σ Q := r_scr (by decide +kernel)
theorem k252_438 : qx sc D 252 438 [vr a, l1, l2, l3, l4, l5, l6] st u bb σ Q ↔ qx sc D 252 439 [vr a, l1, l2, l3, l4, l5, l6] (vr a :: st) u bb σ Q := r_aload_n (k := 0) (by decide +kernel) rfl
theorem k252_439 : qx sc D 252 439 [l0, l1, l2, l3, vi x, l5, l6] st u bb σ Q ↔ qx sc D 252 441 [l0, l1, l2, l3, vi x, l5, l6] (vi x :: st) u bb σ Q := r_iload (k := 4) (by decide +kernel) rfl
theorem k252_441 : qx sc D 252 441 ls st u bb σ Q ↔ qx sc D 252 442 ls (vi 2 :: st) u bb σ Q := r_iconst (by decide +kernel)
theorem k252_442 : qx sc D 252 442 ls (vi b' :: vi a' :: st) u bb σ Q ↔ q_R (a' + b') ∧ qx sc D 252 443 ls (vi (a' + b') :: st) u bb σ Q := r_iadd (by decide +kernel)
theorem k252_443 : qx sc D 252 443 ls (vi i :: vr 1000000 :: st) u bb σ Q ↔ (0 ≤ i ∧ i < sc.1) ∧ qx sc D 252 444 ls (vi (sc.2 i.toNat).toInt :: st) u bb σ Q := r_scr (by decide +kernel)
theorem k252_444 : qx sc D 252 444 [l0, l1, l2, vr a, l4, l5, l6] st u bb σ Q ↔ qx sc D 252 445 [l0, l1, l2, vr a, l4, l5, l6] (vr a :: st) u bb σ Q := r_aload_n (k := 3) (by decide +kernel) rfl
theorem k252_445 (hu : u.1 + 4 ≤ 601024 ∧ u.2 + 24 ≤ 7293034) : qx sc (D + 1) 252 445 ls [vr a3, vi x2, vi x1, vr a0] u bb σ Q ↔ qx sc D 232 0 [vr a0, vi x1, vi x2, vr a3, vn] [] (0, 0) bb σ (q_kn sc (D + 1) 252 448 ls [] (u.1 + 4, u.2 + 24) Q) := r_callsX (idx := 109) (n := 4) (m := 5) (by decide +kernel) hu rfl (Nat.le_of_ble_eq_true rfl) ⟨Nat.le_of_ble_eq_true rfl, Nat.le_of_ble_eq_true rfl, rfl⟩ rfl
theorem k252_448 : qx sc D 252 448 [l0, l1, l2, l3, l4, l5, l6] (vi x :: st) u bb σ Q ↔ qx sc D 252 450 [l0, l1, l2, l3, l4, vi x, l6] st u bb σ Q := r_istore (k := 5) (by decide +kernel) (Nat.le_of_ble_eq_true rfl)
theorem k252_450 : qx sc D 252 450 [l0, l1, vr a, l3, l4, l5, l6] st u bb σ Q ↔ qx sc D 252 451 [l0, l1, vr a, l3, l4, l5, l6] (vr a :: st) u bb σ Q := r_aload_n (k := 2) (by decide +kernel) rfl
theorem k252_451 : qx sc D 252 451 [vr a, l1, l2, l3, l4, l5, l6] st u bb σ Q ↔ qx sc D 252 452 [vr a, l1, l2, l3, l4, l5, l6] (vr a :: st) u bb σ Q := r_aload_n (k := 0) (by decide +kernel) rfl
theorem k252_452 : qx sc D 252 452 [l0, l1, l2, l3, vi x, l5, l6] st u bb σ Q ↔ qx sc D 252 454 [l0, l1, l2, l3, vi x, l5, l6] (vi x :: st) u bb σ Q := r_iload (k := 4) (by decide +kernel) rfl
theorem k252_454 : qx sc D 252 454 ls st u bb σ Q ↔ qx sc D 252 455 ls (vi 1 :: st) u bb σ Q := r_iconst (by decide +kernel)
theorem k252_455 : qx sc D 252 455 ls (vi b' :: vi a' :: st) u bb σ Q ↔ q_R (a' + b') ∧ qx sc D 252 456 ls (vi (a' + b') :: st) u bb σ Q := r_iadd (by decide +kernel)
theorem k252_456 : qx sc D 252 456 ls (vi i :: vr 1000000 :: st) u bb σ Q ↔ (0 ≤ i ∧ i < sc.1) ∧ qx sc D 252 457 ls (vi (sc.2 i.toNat).toInt :: st) u bb σ Q := r_scr (by decide +kernel)
theorem k252_457 : qx sc D 252 457 [vr a, l1, l2, l3, l4, l5, l6] st u bb σ Q ↔ qx sc D 252 458 [vr a, l1, l2, l3, l4, l5, l6] (vr a :: st) u bb σ Q := r_aload_n (k := 0) (by decide +kernel) rfl
theorem k252_458 : qx sc D 252 458 [l0, l1, l2, l3, vi x, l5, l6] st u bb σ Q ↔ qx sc D 252 460 [l0, l1, l2, l3, vi x, l5, l6] (vi x :: st) u bb σ Q := r_iload (k := 4) (by decide +kernel) rfl
theorem k252_460 : qx sc D 252 460 ls st u bb σ Q ↔ qx sc D 252 461 ls (vi 2 :: st) u bb σ Q := r_iconst (by decide +kernel)
theorem k252_461 : qx sc D 252 461 ls (vi b' :: vi a' :: st) u bb σ Q ↔ q_R (a' + b') ∧ qx sc D 252 462 ls (vi (a' + b') :: st) u bb σ Q := r_iadd (by decide +kernel)
theorem k252_462 : qx sc D 252 462 ls (vi i :: vr 1000000 :: st) u bb σ Q ↔ (0 ≤ i ∧ i < sc.1) ∧ qx sc D 252 463 ls (vi (sc.2 i.toNat).toInt :: st) u bb σ Q := r_scr (by decide +kernel)
theorem k252_463 (hu : u.1 + 0 ≤ 601024 ∧ u.2 + 0 ≤ 7293034) : qx sc (D + 1) 252 463 ls [vi x1, vi x0, vr 136] u bb σ Q ↔ qx sc D 126 0 [vr 136, vi x0, vi x1] [] (0, 0) bb σ (q_kn sc (D + 1) 252 466 ls [] (u.1 + 0, u.2 + 0) Q) := r_callvU (idx := 111) (n := 2) (m := 3) (by decide +kernel) hu rfl (Nat.le_of_ble_eq_true rfl) ⟨Nat.le_of_ble_eq_true rfl, Nat.le_of_ble_eq_true rfl, rfl⟩ rfl
theorem k252_466 : qx sc D 252 466 [l0, l1, l2, l3, l4, l5, l6] (vi x :: st) u bb σ Q ↔ qx sc D 252 468 [l0, l1, l2, l3, l4, l5, vi x] st u bb σ Q := r_istore (k := 6) (by decide +kernel) (Nat.le_of_ble_eq_true rfl)
theorem k252_468 : qx sc D 252 468 [l0, l1, vr a, l3, l4, l5, l6] st u bb σ Q ↔ qx sc D 252 469 [l0, l1, vr a, l3, l4, l5, l6] (vr a :: st) u bb σ Q := r_aload_n (k := 2) (by decide +kernel) rfl
theorem k252_469 (hu : u.1 + 0 ≤ 601024 ∧ u.2 + 0 ≤ 7293034) : qx sc (D + 1) 252 469 ls [vr 136] u bb σ Q ↔ qx sc D 223 0 [vr 136] [] (0, 0) bb σ (q_kn sc (D + 1) 252 472 ls [] (u.1 + 0, u.2 + 0) Q) := r_callvU (idx := 95) (n := 0) (m := 1) (by decide +kernel) hu rfl (Nat.le_of_ble_eq_true rfl) ⟨Nat.le_of_ble_eq_true rfl, Nat.le_of_ble_eq_true rfl, rfl⟩ rfl
theorem k252_472 : qx sc D 252 472 [l0, l1, l2, l3, l4, vi x, l6] st u bb σ Q ↔ qx sc D 252 474 [l0, l1, l2, l3, l4, vi x, l6] (vi x :: st) u bb σ Q := r_iload (k := 5) (by decide +kernel) rfl
theorem k252_474 : qx sc D 252 474 ls (vi b' :: vi a' :: st) u bb σ Q ↔ (a' = b' → qx sc D 252 479 ls st u bb σ Q) ∧ (¬ (a' = b') → qx sc D 252 477 ls st u bb σ Q) := r_ic_eq (off := 5) (t := 479) (by decide +kernel)
theorem k252_477 : qx sc D 252 477 ls st u bb σ Q ↔ qx sc D 252 478 ls (vi 0 :: st) u bb σ Q := r_iconst (by decide +kernel)
theorem k252_478 (hu : u.1 + 0 ≤ 601024 ∧ u.2 + 0 ≤ 7293034) : qx sc D 252 478 ls [vi x] u bb σ Q ↔ (x = 0 ∨ x = 1) ∧ Q (.inl (some (vi x))) bb σ := r_retB ⟨(by decide +kernel), (by decide +kernel), fit252 hu⟩
theorem k252_479 : qx sc D 252 479 [l0, l1, l2, l3, l4, vi x, l6] st u bb σ Q ↔ qx sc D 252 481 [l0, l1, l2, l3, l4, vi x, l6] (vi x :: st) u bb σ Q := r_iload (k := 5) (by decide +kernel) rfl
theorem k252_481 : qx sc D 252 481 ls (vi x :: st) u bb σ Q ↔ (x = 0 → qx sc D 252 484 ls st u bb σ Q) ∧ (¬ (x = 0) → qx sc D 252 496 ls st u bb σ Q) := r_if_ne (off := 15) (t := 496) (by decide +kernel)
theorem k252_484 : qx sc D 252 484 [l0, l1, l2, vr a, l4, l5, l6] st u bb σ Q ↔ qx sc D 252 485 [l0, l1, l2, vr a, l4, l5, l6] (vr a :: st) u bb σ Q := r_aload_n (k := 3) (by decide +kernel) rfl
theorem k252_485 : qx sc D 252 485 ls st u bb σ Q ↔ qx sc D 252 486 ls (vi 0 :: st) u bb σ Q := r_iconst (by decide +kernel)
theorem k252_486 : qx sc D 252 486 ls (vi i :: vr a :: st) u bb σ Q ↔ (q_ty a = 3 ∧ 0 ≤ i ∧ i < q_ln a) ∧ qx sc D 252 487 ls (vl (σ a i) :: st) u bb σ Q := r_lald (by decide +kernel)
theorem k252_487 : qx sc D 252 487 [l0, l1, l2, l3, l4, l5, vi x] st u bb σ Q ↔ qx sc D 252 489 [l0, l1, l2, l3, l4, l5, vi x] (vi x :: st) u bb σ Q := r_iload (k := 6) (by decide +kernel) rfl
theorem k252_489 : qx sc D 252 489 ls (vi a' :: st) u bb σ Q ↔ qx sc D 252 490 ls (vl a' :: st) u bb σ Q := r_i2l (by decide +kernel)
theorem k252_490 : qx sc D 252 490 ls (vl b' :: vl a' :: st) u bb σ Q ↔ qx sc D 252 491 ls (vi (if b' < a' then 1 else if a' = b' then 0 else -1) :: st) u bb σ Q := r_lcmp (by decide +kernel)
theorem k252_491 : qx sc D 252 491 ls (vi x :: st) u bb σ Q ↔ (x = 0 → qx sc D 252 496 ls st u bb σ Q) ∧ (¬ (x = 0) → qx sc D 252 494 ls st u bb σ Q) := r_if_eq (off := 5) (t := 496) (by decide +kernel)
theorem k252_494 : qx sc D 252 494 ls st u bb σ Q ↔ qx sc D 252 495 ls (vi 0 :: st) u bb σ Q := r_iconst (by decide +kernel)
theorem k252_495 (hu : u.1 + 0 ≤ 601024 ∧ u.2 + 0 ≤ 7293034) : qx sc D 252 495 ls [vi x] u bb σ Q ↔ (x = 0 ∨ x = 1) ∧ Q (.inl (some (vi x))) bb σ := r_retB ⟨(by decide +kernel), (by decide +kernel), fit252 hu⟩
theorem k252_496 : qx sc D 252 496 ls st u bb σ Q ↔ qx sc D 252 1480 ls st u bb σ Q := r_goto (off := 984) (by decide +kernel)
theorem k252_499 : qx sc D 252 499 [l0, vr a, l2, l3, l4, l5, l6] st u bb σ Q ↔ qx sc D 252 500 [l0, vr a, l2, l3, l4, l5, l6] (vr a :: st) u bb σ Q := r_aload_n (k := 1) (by decide +kernel) rfl
theorem k252_500 : qx sc D 252 500 [vr a, l1, l2, l3, l4, l5, l6] st u bb σ Q ↔ qx sc D 252 501 [vr a, l1, l2, l3, l4, l5, l6] (vr a :: st) u bb σ Q := r_aload_n (k := 0) (by decide +kernel) rfl
theorem k252_501 : qx sc D 252 501 [l0, l1, l2, l3, vi x, l5, l6] st u bb σ Q ↔ qx sc D 252 503 [l0, l1, l2, l3, vi x, l5, l6] (vi x :: st) u bb σ Q := r_iload (k := 4) (by decide +kernel) rfl
theorem k252_503 : qx sc D 252 503 ls st u bb σ Q ↔ qx sc D 252 504 ls (vi 1 :: st) u bb σ Q := r_iconst (by decide +kernel)
theorem k252_504 : qx sc D 252 504 ls (vi b' :: vi a' :: st) u bb σ Q ↔ q_R (a' + b') ∧ qx sc D 252 505 ls (vi (a' + b') :: st) u bb σ Q := r_iadd (by decide +kernel)
theorem k252_505 : qx sc D 252 505 ls (vi i :: vr 1000000 :: st) u bb σ Q ↔ (0 ≤ i ∧ i < sc.1) ∧ qx sc D 252 506 ls (vi (sc.2 i.toNat).toInt :: st) u bb σ Q := r_scr (by decide +kernel)
theorem k252_506 : qx sc D 252 506 [l0, l1, l2, vr a, l4, l5, l6] st u bb σ Q ↔ qx sc D 252 507 [l0, l1, l2, vr a, l4, l5, l6] (vr a :: st) u bb σ Q := r_aload_n (k := 3) (by decide +kernel) rfl
theorem k252_507 (hu : u.1 + 4 ≤ 601024 ∧ u.2 + 24 ≤ 7293034) : qx sc (D + 1) 252 507 ls [vr a2, vi x1, vr a0] u bb σ Q ↔ qx sc D 233 0 [vr a0, vi x1, vr a2, vn] [] (0, 0) bb σ (q_kn sc (D + 1) 252 510 ls [] (u.1 + 4, u.2 + 24) Q) := r_callsX (idx := 112) (n := 3) (m := 4) (by decide +kernel) hu rfl (Nat.le_of_ble_eq_true rfl) ⟨Nat.le_of_ble_eq_true rfl, Nat.le_of_ble_eq_true rfl, rfl⟩ rfl
theorem k252_510 : qx sc D 252 510 [l0, l1, l2, l3, l4, l5, l6] (vi x :: st) u bb σ Q ↔ qx sc D 252 512 [l0, l1, l2, l3, l4, vi x, l6] st u bb σ Q := r_istore (k := 5) (by decide +kernel) (Nat.le_of_ble_eq_true rfl)
theorem k252_512 : qx sc D 252 512 [l0, l1, vr a, l3, l4, l5, l6] st u bb σ Q ↔ qx sc D 252 513 [l0, l1, vr a, l3, l4, l5, l6] (vr a :: st) u bb σ Q := r_aload_n (k := 2) (by decide +kernel) rfl
theorem k252_513 : qx sc D 252 513 [vr a, l1, l2, l3, l4, l5, l6] st u bb σ Q ↔ qx sc D 252 514 [vr a, l1, l2, l3, l4, l5, l6] (vr a :: st) u bb σ Q := r_aload_n (k := 0) (by decide +kernel) rfl
theorem k252_514 : qx sc D 252 514 [l0, l1, l2, l3, vi x, l5, l6] st u bb σ Q ↔ qx sc D 252 516 [l0, l1, l2, l3, vi x, l5, l6] (vi x :: st) u bb σ Q := r_iload (k := 4) (by decide +kernel) rfl
theorem k252_516 : qx sc D 252 516 ls st u bb σ Q ↔ qx sc D 252 517 ls (vi 1 :: st) u bb σ Q := r_iconst (by decide +kernel)
theorem k252_517 : qx sc D 252 517 ls (vi b' :: vi a' :: st) u bb σ Q ↔ q_R (a' + b') ∧ qx sc D 252 518 ls (vi (a' + b') :: st) u bb σ Q := r_iadd (by decide +kernel)
theorem k252_518 : qx sc D 252 518 ls (vi i :: vr 1000000 :: st) u bb σ Q ↔ (0 ≤ i ∧ i < sc.1) ∧ qx sc D 252 519 ls (vi (sc.2 i.toNat).toInt :: st) u bb σ Q := r_scr (by decide +kernel)
theorem k252_519 (hu : u.1 + 0 ≤ 601024 ∧ u.2 + 0 ≤ 7293034) : qx sc (D + 1) 252 519 ls [vi x0, vr 136] u bb σ Q ↔ qx sc D 129 0 [vr 136, vi x0] [] (0, 0) bb σ (q_kn sc (D + 1) 252 522 ls [] (u.1 + 0, u.2 + 0) Q) := r_callvU (idx := 115) (n := 1) (m := 2) (by decide +kernel) hu rfl (Nat.le_of_ble_eq_true rfl) ⟨Nat.le_of_ble_eq_true rfl, Nat.le_of_ble_eq_true rfl, rfl⟩ rfl
theorem k252_522 : qx sc D 252 522 [l0, l1, l2, l3, l4, l5, l6] (vi x :: st) u bb σ Q ↔ qx sc D 252 524 [l0, l1, l2, l3, l4, l5, vi x] st u bb σ Q := r_istore (k := 6) (by decide +kernel) (Nat.le_of_ble_eq_true rfl)
theorem k252_524 : qx sc D 252 524 [l0, l1, vr a, l3, l4, l5, l6] st u bb σ Q ↔ qx sc D 252 525 [l0, l1, vr a, l3, l4, l5, l6] (vr a :: st) u bb σ Q := r_aload_n (k := 2) (by decide +kernel) rfl
theorem k252_525 (hu : u.1 + 0 ≤ 601024 ∧ u.2 + 0 ≤ 7293034) : qx sc (D + 1) 252 525 ls [vr 136] u bb σ Q ↔ qx sc D 223 0 [vr 136] [] (0, 0) bb σ (q_kn sc (D + 1) 252 528 ls [] (u.1 + 0, u.2 + 0) Q) := r_callvU (idx := 95) (n := 0) (m := 1) (by decide +kernel) hu rfl (Nat.le_of_ble_eq_true rfl) ⟨Nat.le_of_ble_eq_true rfl, Nat.le_of_ble_eq_true rfl, rfl⟩ rfl
theorem k252_528 : qx sc D 252 528 [l0, l1, l2, l3, l4, vi x, l6] st u bb σ Q ↔ qx sc D 252 530 [l0, l1, l2, l3, l4, vi x, l6] (vi x :: st) u bb σ Q := r_iload (k := 5) (by decide +kernel) rfl
theorem k252_530 : qx sc D 252 530 ls (vi b' :: vi a' :: st) u bb σ Q ↔ (a' = b' → qx sc D 252 535 ls st u bb σ Q) ∧ (¬ (a' = b') → qx sc D 252 533 ls st u bb σ Q) := r_ic_eq (off := 5) (t := 535) (by decide +kernel)
theorem k252_533 : qx sc D 252 533 ls st u bb σ Q ↔ qx sc D 252 534 ls (vi 0 :: st) u bb σ Q := r_iconst (by decide +kernel)
theorem k252_534 (hu : u.1 + 0 ≤ 601024 ∧ u.2 + 0 ≤ 7293034) : qx sc D 252 534 ls [vi x] u bb σ Q ↔ (x = 0 ∨ x = 1) ∧ Q (.inl (some (vi x))) bb σ := r_retB ⟨(by decide +kernel), (by decide +kernel), fit252 hu⟩
theorem k252_535 : qx sc D 252 535 [l0, l1, l2, l3, l4, vi x, l6] st u bb σ Q ↔ qx sc D 252 537 [l0, l1, l2, l3, l4, vi x, l6] (vi x :: st) u bb σ Q := r_iload (k := 5) (by decide +kernel) rfl
theorem k252_537 : qx sc D 252 537 ls (vi x :: st) u bb σ Q ↔ (x = 0 → qx sc D 252 540 ls st u bb σ Q) ∧ (¬ (x = 0) → qx sc D 252 552 ls st u bb σ Q) := r_if_ne (off := 15) (t := 552) (by decide +kernel)
theorem k252_540 : qx sc D 252 540 [l0, l1, l2, vr a, l4, l5, l6] st u bb σ Q ↔ qx sc D 252 541 [l0, l1, l2, vr a, l4, l5, l6] (vr a :: st) u bb σ Q := r_aload_n (k := 3) (by decide +kernel) rfl
theorem k252_541 : qx sc D 252 541 ls st u bb σ Q ↔ qx sc D 252 542 ls (vi 0 :: st) u bb σ Q := r_iconst (by decide +kernel)
theorem k252_542 : qx sc D 252 542 ls (vi i :: vr a :: st) u bb σ Q ↔ (q_ty a = 3 ∧ 0 ≤ i ∧ i < q_ln a) ∧ qx sc D 252 543 ls (vl (σ a i) :: st) u bb σ Q := r_lald (by decide +kernel)
theorem k252_543 : qx sc D 252 543 [l0, l1, l2, l3, l4, l5, vi x] st u bb σ Q ↔ qx sc D 252 545 [l0, l1, l2, l3, l4, l5, vi x] (vi x :: st) u bb σ Q := r_iload (k := 6) (by decide +kernel) rfl
theorem k252_545 : qx sc D 252 545 ls (vi a' :: st) u bb σ Q ↔ qx sc D 252 546 ls (vl a' :: st) u bb σ Q := r_i2l (by decide +kernel)
theorem k252_546 : qx sc D 252 546 ls (vl b' :: vl a' :: st) u bb σ Q ↔ qx sc D 252 547 ls (vi (if b' < a' then 1 else if a' = b' then 0 else -1) :: st) u bb σ Q := r_lcmp (by decide +kernel)
theorem k252_547 : qx sc D 252 547 ls (vi x :: st) u bb σ Q ↔ (x = 0 → qx sc D 252 552 ls st u bb σ Q) ∧ (¬ (x = 0) → qx sc D 252 550 ls st u bb σ Q) := r_if_eq (off := 5) (t := 552) (by decide +kernel)
theorem k252_550 : qx sc D 252 550 ls st u bb σ Q ↔ qx sc D 252 551 ls (vi 0 :: st) u bb σ Q := r_iconst (by decide +kernel)
theorem k252_551 (hu : u.1 + 0 ≤ 601024 ∧ u.2 + 0 ≤ 7293034) : qx sc D 252 551 ls [vi x] u bb σ Q ↔ (x = 0 ∨ x = 1) ∧ Q (.inl (some (vi x))) bb σ := r_retB ⟨(by decide +kernel), (by decide +kernel), fit252 hu⟩
theorem k252_552 : qx sc D 252 552 ls st u bb σ Q ↔ qx sc D 252 1480 ls st u bb σ Q := r_goto (off := 928) (by decide +kernel)
theorem k252_555 : qx sc D 252 555 [l0, vr a, l2, l3, l4, l5, l6] st u bb σ Q ↔ qx sc D 252 556 [l0, vr a, l2, l3, l4, l5, l6] (vr a :: st) u bb σ Q := r_aload_n (k := 1) (by decide +kernel) rfl
theorem k252_556 : qx sc D 252 556 [vr a, l1, l2, l3, l4, l5, l6] st u bb σ Q ↔ qx sc D 252 557 [vr a, l1, l2, l3, l4, l5, l6] (vr a :: st) u bb σ Q := r_aload_n (k := 0) (by decide +kernel) rfl
theorem k252_557 : qx sc D 252 557 [l0, l1, l2, l3, vi x, l5, l6] st u bb σ Q ↔ qx sc D 252 559 [l0, l1, l2, l3, vi x, l5, l6] (vi x :: st) u bb σ Q := r_iload (k := 4) (by decide +kernel) rfl
theorem k252_559 : qx sc D 252 559 ls st u bb σ Q ↔ qx sc D 252 560 ls (vi 1 :: st) u bb σ Q := r_iconst (by decide +kernel)
theorem k252_560 : qx sc D 252 560 ls (vi b' :: vi a' :: st) u bb σ Q ↔ q_R (a' + b') ∧ qx sc D 252 561 ls (vi (a' + b') :: st) u bb σ Q := r_iadd (by decide +kernel)
theorem k252_561 : qx sc D 252 561 ls (vi i :: vr 1000000 :: st) u bb σ Q ↔ (0 ≤ i ∧ i < sc.1) ∧ qx sc D 252 562 ls (vi (sc.2 i.toNat).toInt :: st) u bb σ Q := r_scr (by decide +kernel)
theorem k252_562 : qx sc D 252 562 [vr a, l1, l2, l3, l4, l5, l6] st u bb σ Q ↔ qx sc D 252 563 [vr a, l1, l2, l3, l4, l5, l6] (vr a :: st) u bb σ Q := r_aload_n (k := 0) (by decide +kernel) rfl
theorem k252_563 : qx sc D 252 563 [l0, l1, l2, l3, vi x, l5, l6] st u bb σ Q ↔ qx sc D 252 565 [l0, l1, l2, l3, vi x, l5, l6] (vi x :: st) u bb σ Q := r_iload (k := 4) (by decide +kernel) rfl
theorem k252_565 : qx sc D 252 565 ls st u bb σ Q ↔ qx sc D 252 566 ls (vi 2 :: st) u bb σ Q := r_iconst (by decide +kernel)
theorem k252_566 : qx sc D 252 566 ls (vi b' :: vi a' :: st) u bb σ Q ↔ q_R (a' + b') ∧ qx sc D 252 567 ls (vi (a' + b') :: st) u bb σ Q := r_iadd (by decide +kernel)
theorem k252_567 : qx sc D 252 567 ls (vi i :: vr 1000000 :: st) u bb σ Q ↔ (0 ≤ i ∧ i < sc.1) ∧ qx sc D 252 568 ls (vi (sc.2 i.toNat).toInt :: st) u bb σ Q := r_scr (by decide +kernel)
theorem k252_568 : qx sc D 252 568 [l0, l1, l2, vr a, l4, l5, l6] st u bb σ Q ↔ qx sc D 252 569 [l0, l1, l2, vr a, l4, l5, l6] (vr a :: st) u bb σ Q := r_aload_n (k := 3) (by decide +kernel) rfl
theorem k252_569 (hu : u.1 + 4 ≤ 601024 ∧ u.2 + 24 ≤ 7293034) : qx sc (D + 1) 252 569 ls [vr a3, vi x2, vi x1, vr a0] u bb σ Q ↔ qx sc D 235 0 [vr a0, vi x1, vi x2, vr a3, vn] [] (0, 0) bb σ (q_kn sc (D + 1) 252 572 ls [] (u.1 + 4, u.2 + 24) Q) := r_callsX (idx := 116) (n := 4) (m := 5) (by decide +kernel) hu rfl (Nat.le_of_ble_eq_true rfl) ⟨Nat.le_of_ble_eq_true rfl, Nat.le_of_ble_eq_true rfl, rfl⟩ rfl
theorem k252_572 : qx sc D 252 572 [l0, l1, l2, l3, l4, l5, l6] (vi x :: st) u bb σ Q ↔ qx sc D 252 574 [l0, l1, l2, l3, l4, vi x, l6] st u bb σ Q := r_istore (k := 5) (by decide +kernel) (Nat.le_of_ble_eq_true rfl)
theorem k252_574 : qx sc D 252 574 [l0, l1, vr a, l3, l4, l5, l6] st u bb σ Q ↔ qx sc D 252 575 [l0, l1, vr a, l3, l4, l5, l6] (vr a :: st) u bb σ Q := r_aload_n (k := 2) (by decide +kernel) rfl
theorem k252_575 : qx sc D 252 575 [vr a, l1, l2, l3, l4, l5, l6] st u bb σ Q ↔ qx sc D 252 576 [vr a, l1, l2, l3, l4, l5, l6] (vr a :: st) u bb σ Q := r_aload_n (k := 0) (by decide +kernel) rfl
theorem k252_576 : qx sc D 252 576 [l0, l1, l2, l3, vi x, l5, l6] st u bb σ Q ↔ qx sc D 252 578 [l0, l1, l2, l3, vi x, l5, l6] (vi x :: st) u bb σ Q := r_iload (k := 4) (by decide +kernel) rfl
theorem k252_578 : qx sc D 252 578 ls st u bb σ Q ↔ qx sc D 252 579 ls (vi 1 :: st) u bb σ Q := r_iconst (by decide +kernel)
theorem k252_579 : qx sc D 252 579 ls (vi b' :: vi a' :: st) u bb σ Q ↔ q_R (a' + b') ∧ qx sc D 252 580 ls (vi (a' + b') :: st) u bb σ Q := r_iadd (by decide +kernel)
theorem k252_580 : qx sc D 252 580 ls (vi i :: vr 1000000 :: st) u bb σ Q ↔ (0 ≤ i ∧ i < sc.1) ∧ qx sc D 252 581 ls (vi (sc.2 i.toNat).toInt :: st) u bb σ Q := r_scr (by decide +kernel)
theorem k252_581 : qx sc D 252 581 [vr a, l1, l2, l3, l4, l5, l6] st u bb σ Q ↔ qx sc D 252 582 [vr a, l1, l2, l3, l4, l5, l6] (vr a :: st) u bb σ Q := r_aload_n (k := 0) (by decide +kernel) rfl
theorem k252_582 : qx sc D 252 582 [l0, l1, l2, l3, vi x, l5, l6] st u bb σ Q ↔ qx sc D 252 584 [l0, l1, l2, l3, vi x, l5, l6] (vi x :: st) u bb σ Q := r_iload (k := 4) (by decide +kernel) rfl
theorem k252_584 : qx sc D 252 584 ls st u bb σ Q ↔ qx sc D 252 585 ls (vi 2 :: st) u bb σ Q := r_iconst (by decide +kernel)
theorem k252_585 : qx sc D 252 585 ls (vi b' :: vi a' :: st) u bb σ Q ↔ q_R (a' + b') ∧ qx sc D 252 586 ls (vi (a' + b') :: st) u bb σ Q := r_iadd (by decide +kernel)
theorem k252_586 : qx sc D 252 586 ls (vi i :: vr 1000000 :: st) u bb σ Q ↔ (0 ≤ i ∧ i < sc.1) ∧ qx sc D 252 587 ls (vi (sc.2 i.toNat).toInt :: st) u bb σ Q := r_scr (by decide +kernel)
theorem k252_587 (hu : u.1 + 0 ≤ 601024 ∧ u.2 + 0 ≤ 7293034) : qx sc (D + 1) 252 587 ls [vi x1, vi x0, vr 136] u bb σ Q ↔ qx sc D 137 0 [vr 136, vi x0, vi x1] [] (0, 0) bb σ (q_kn sc (D + 1) 252 590 ls [] (u.1 + 0, u.2 + 0) Q) := r_callvU (idx := 118) (n := 2) (m := 3) (by decide +kernel) hu rfl (Nat.le_of_ble_eq_true rfl) ⟨Nat.le_of_ble_eq_true rfl, Nat.le_of_ble_eq_true rfl, rfl⟩ rfl
theorem k252_590 : qx sc D 252 590 [l0, l1, l2, l3, l4, l5, l6] (vi x :: st) u bb σ Q ↔ qx sc D 252 592 [l0, l1, l2, l3, l4, l5, vi x] st u bb σ Q := r_istore (k := 6) (by decide +kernel) (Nat.le_of_ble_eq_true rfl)
theorem k252_592 : qx sc D 252 592 [l0, l1, vr a, l3, l4, l5, l6] st u bb σ Q ↔ qx sc D 252 593 [l0, l1, vr a, l3, l4, l5, l6] (vr a :: st) u bb σ Q := r_aload_n (k := 2) (by decide +kernel) rfl
theorem k252_593 (hu : u.1 + 0 ≤ 601024 ∧ u.2 + 0 ≤ 7293034) : qx sc (D + 1) 252 593 ls [vr 136] u bb σ Q ↔ qx sc D 223 0 [vr 136] [] (0, 0) bb σ (q_kn sc (D + 1) 252 596 ls [] (u.1 + 0, u.2 + 0) Q) := r_callvU (idx := 95) (n := 0) (m := 1) (by decide +kernel) hu rfl (Nat.le_of_ble_eq_true rfl) ⟨Nat.le_of_ble_eq_true rfl, Nat.le_of_ble_eq_true rfl, rfl⟩ rfl
theorem k252_596 : qx sc D 252 596 [l0, l1, l2, l3, l4, vi x, l6] st u bb σ Q ↔ qx sc D 252 598 [l0, l1, l2, l3, l4, vi x, l6] (vi x :: st) u bb σ Q := r_iload (k := 5) (by decide +kernel) rfl
theorem k252_598 : qx sc D 252 598 ls (vi b' :: vi a' :: st) u bb σ Q ↔ (a' = b' → qx sc D 252 603 ls st u bb σ Q) ∧ (¬ (a' = b') → qx sc D 252 601 ls st u bb σ Q) := r_ic_eq (off := 5) (t := 603) (by decide +kernel)
theorem k252_601 : qx sc D 252 601 ls st u bb σ Q ↔ qx sc D 252 602 ls (vi 0 :: st) u bb σ Q := r_iconst (by decide +kernel)
theorem k252_602 (hu : u.1 + 0 ≤ 601024 ∧ u.2 + 0 ≤ 7293034) : qx sc D 252 602 ls [vi x] u bb σ Q ↔ (x = 0 ∨ x = 1) ∧ Q (.inl (some (vi x))) bb σ := r_retB ⟨(by decide +kernel), (by decide +kernel), fit252 hu⟩
theorem k252_603 : qx sc D 252 603 [l0, l1, l2, l3, l4, vi x, l6] st u bb σ Q ↔ qx sc D 252 605 [l0, l1, l2, l3, l4, vi x, l6] (vi x :: st) u bb σ Q := r_iload (k := 5) (by decide +kernel) rfl
theorem k252_605 : qx sc D 252 605 ls (vi x :: st) u bb σ Q ↔ (x = 0 → qx sc D 252 608 ls st u bb σ Q) ∧ (¬ (x = 0) → qx sc D 252 620 ls st u bb σ Q) := r_if_ne (off := 15) (t := 620) (by decide +kernel)
theorem k252_608 : qx sc D 252 608 [l0, l1, l2, vr a, l4, l5, l6] st u bb σ Q ↔ qx sc D 252 609 [l0, l1, l2, vr a, l4, l5, l6] (vr a :: st) u bb σ Q := r_aload_n (k := 3) (by decide +kernel) rfl
theorem k252_609 : qx sc D 252 609 ls st u bb σ Q ↔ qx sc D 252 610 ls (vi 0 :: st) u bb σ Q := r_iconst (by decide +kernel)
theorem k252_610 : qx sc D 252 610 ls (vi i :: vr a :: st) u bb σ Q ↔ (q_ty a = 3 ∧ 0 ≤ i ∧ i < q_ln a) ∧ qx sc D 252 611 ls (vl (σ a i) :: st) u bb σ Q := r_lald (by decide +kernel)
theorem k252_611 : qx sc D 252 611 [l0, l1, l2, l3, l4, l5, vi x] st u bb σ Q ↔ qx sc D 252 613 [l0, l1, l2, l3, l4, l5, vi x] (vi x :: st) u bb σ Q := r_iload (k := 6) (by decide +kernel) rfl
theorem k252_613 : qx sc D 252 613 ls (vi a' :: st) u bb σ Q ↔ qx sc D 252 614 ls (vl a' :: st) u bb σ Q := r_i2l (by decide +kernel)
theorem k252_614 : qx sc D 252 614 ls (vl b' :: vl a' :: st) u bb σ Q ↔ qx sc D 252 615 ls (vi (if b' < a' then 1 else if a' = b' then 0 else -1) :: st) u bb σ Q := r_lcmp (by decide +kernel)
theorem k252_615 : qx sc D 252 615 ls (vi x :: st) u bb σ Q ↔ (x = 0 → qx sc D 252 620 ls st u bb σ Q) ∧ (¬ (x = 0) → qx sc D 252 618 ls st u bb σ Q) := r_if_eq (off := 5) (t := 620) (by decide +kernel)
theorem k252_618 : qx sc D 252 618 ls st u bb σ Q ↔ qx sc D 252 619 ls (vi 0 :: st) u bb σ Q := r_iconst (by decide +kernel)
theorem k252_619 (hu : u.1 + 0 ≤ 601024 ∧ u.2 + 0 ≤ 7293034) : qx sc D 252 619 ls [vi x] u bb σ Q ↔ (x = 0 ∨ x = 1) ∧ Q (.inl (some (vi x))) bb σ := r_retB ⟨(by decide +kernel), (by decide +kernel), fit252 hu⟩
theorem k252_620 : qx sc D 252 620 ls st u bb σ Q ↔ qx sc D 252 1480 ls st u bb σ Q := r_goto (off := 860) (by decide +kernel)
theorem k252_623 : qx sc D 252 623 [l0, vr a, l2, l3, l4, l5, l6] st u bb σ Q ↔ qx sc D 252 624 [l0, vr a, l2, l3, l4, l5, l6] (vr a :: st) u bb σ Q := r_aload_n (k := 1) (by decide +kernel) rfl
theorem k252_624 : qx sc D 252 624 [vr a, l1, l2, l3, l4, l5, l6] st u bb σ Q ↔ qx sc D 252 625 [vr a, l1, l2, l3, l4, l5, l6] (vr a :: st) u bb σ Q := r_aload_n (k := 0) (by decide +kernel) rfl
theorem k252_625 : qx sc D 252 625 [l0, l1, l2, l3, vi x, l5, l6] st u bb σ Q ↔ qx sc D 252 627 [l0, l1, l2, l3, vi x, l5, l6] (vi x :: st) u bb σ Q := r_iload (k := 4) (by decide +kernel) rfl
theorem k252_627 : qx sc D 252 627 ls st u bb σ Q ↔ qx sc D 252 628 ls (vi 1 :: st) u bb σ Q := r_iconst (by decide +kernel)
theorem k252_628 : qx sc D 252 628 ls (vi b' :: vi a' :: st) u bb σ Q ↔ q_R (a' + b') ∧ qx sc D 252 629 ls (vi (a' + b') :: st) u bb σ Q := r_iadd (by decide +kernel)
theorem k252_629 : qx sc D 252 629 ls (vi i :: vr 1000000 :: st) u bb σ Q ↔ (0 ≤ i ∧ i < sc.1) ∧ qx sc D 252 630 ls (vi (sc.2 i.toNat).toInt :: st) u bb σ Q := r_scr (by decide +kernel)
theorem k252_630 : qx sc D 252 630 [vr a, l1, l2, l3, l4, l5, l6] st u bb σ Q ↔ qx sc D 252 631 [vr a, l1, l2, l3, l4, l5, l6] (vr a :: st) u bb σ Q := r_aload_n (k := 0) (by decide +kernel) rfl
theorem k252_631 : qx sc D 252 631 [l0, l1, l2, l3, vi x, l5, l6] st u bb σ Q ↔ qx sc D 252 633 [l0, l1, l2, l3, vi x, l5, l6] (vi x :: st) u bb σ Q := r_iload (k := 4) (by decide +kernel) rfl
theorem k252_633 : qx sc D 252 633 ls st u bb σ Q ↔ qx sc D 252 634 ls (vi 2 :: st) u bb σ Q := r_iconst (by decide +kernel)
theorem k252_634 : qx sc D 252 634 ls (vi b' :: vi a' :: st) u bb σ Q ↔ q_R (a' + b') ∧ qx sc D 252 635 ls (vi (a' + b') :: st) u bb σ Q := r_iadd (by decide +kernel)
theorem k252_635 : qx sc D 252 635 ls (vi i :: vr 1000000 :: st) u bb σ Q ↔ (0 ≤ i ∧ i < sc.1) ∧ qx sc D 252 636 ls (vi (sc.2 i.toNat).toInt :: st) u bb σ Q := r_scr (by decide +kernel)
theorem k252_636 : qx sc D 252 636 ls (vi x :: st) u bb σ Q ↔ (x = 0 → qx sc D 252 643 ls st u bb σ Q) ∧ (¬ (x = 0) → qx sc D 252 639 ls st u bb σ Q) := r_if_eq (off := 7) (t := 643) (by decide +kernel)
theorem k252_639 : qx sc D 252 639 ls st u bb σ Q ↔ qx sc D 252 640 ls (vi 1 :: st) u bb σ Q := r_iconst (by decide +kernel)
theorem k252_640 : qx sc D 252 640 ls st u bb σ Q ↔ qx sc D 252 644 ls st u bb σ Q := r_goto (off := 4) (by decide +kernel)
theorem k252_643 : qx sc D 252 643 ls st u bb σ Q ↔ qx sc D 252 644 ls (vi 0 :: st) u bb σ Q := r_iconst (by decide +kernel)
theorem k252_644 : qx sc D 252 644 [vr a, l1, l2, l3, l4, l5, l6] st u bb σ Q ↔ qx sc D 252 645 [vr a, l1, l2, l3, l4, l5, l6] (vr a :: st) u bb σ Q := r_aload_n (k := 0) (by decide +kernel) rfl
theorem k252_645 : qx sc D 252 645 [l0, l1, l2, l3, vi x, l5, l6] st u bb σ Q ↔ qx sc D 252 647 [l0, l1, l2, l3, vi x, l5, l6] (vi x :: st) u bb σ Q := r_iload (k := 4) (by decide +kernel) rfl
theorem k252_647 : qx sc D 252 647 ls st u bb σ Q ↔ qx sc D 252 648 ls (vi 3 :: st) u bb σ Q := r_iconst (by decide +kernel)
theorem k252_648 : qx sc D 252 648 ls (vi b' :: vi a' :: st) u bb σ Q ↔ q_R (a' + b') ∧ qx sc D 252 649 ls (vi (a' + b') :: st) u bb σ Q := r_iadd (by decide +kernel)
theorem k252_649 : qx sc D 252 649 ls (vi i :: vr 1000000 :: st) u bb σ Q ↔ (0 ≤ i ∧ i < sc.1) ∧ qx sc D 252 650 ls (vi (sc.2 i.toNat).toInt :: st) u bb σ Q := r_scr (by decide +kernel)
theorem k252_650 : qx sc D 252 650 [l0, l1, l2, vr a, l4, l5, l6] st u bb σ Q ↔ qx sc D 252 651 [l0, l1, l2, vr a, l4, l5, l6] (vr a :: st) u bb σ Q := r_aload_n (k := 3) (by decide +kernel) rfl
theorem k252_651 (hu : u.1 + 4 ≤ 601024 ∧ u.2 + 24 ≤ 7293034) : qx sc (D + 1) 252 651 ls [vr a4, vi x3, vi x2, vi x1, vr a0] u bb σ Q ↔ qx sc D 234 0 [vr a0, vi x1, vi x2, vi x3, vr a4, vn] [] (0, 0) bb σ (q_kn sc (D + 1) 252 654 ls [] (u.1 + 4, u.2 + 24) Q) := r_callsX (idx := 119) (n := 5) (m := 6) (by decide +kernel) hu rfl (Nat.le_of_ble_eq_true rfl) ⟨Nat.le_of_ble_eq_true rfl, Nat.le_of_ble_eq_true rfl, rfl⟩ rfl
theorem k252_654 : qx sc D 252 654 [l0, l1, l2, l3, l4, l5, l6] (vi x :: st) u bb σ Q ↔ qx sc D 252 656 [l0, l1, l2, l3, l4, vi x, l6] st u bb σ Q := r_istore (k := 5) (by decide +kernel) (Nat.le_of_ble_eq_true rfl)
theorem k252_656 : qx sc D 252 656 [l0, l1, vr a, l3, l4, l5, l6] st u bb σ Q ↔ qx sc D 252 657 [l0, l1, vr a, l3, l4, l5, l6] (vr a :: st) u bb σ Q := r_aload_n (k := 2) (by decide +kernel) rfl
theorem k252_657 : qx sc D 252 657 [vr a, l1, l2, l3, l4, l5, l6] st u bb σ Q ↔ qx sc D 252 658 [vr a, l1, l2, l3, l4, l5, l6] (vr a :: st) u bb σ Q := r_aload_n (k := 0) (by decide +kernel) rfl
theorem k252_658 : qx sc D 252 658 [l0, l1, l2, l3, vi x, l5, l6] st u bb σ Q ↔ qx sc D 252 660 [l0, l1, l2, l3, vi x, l5, l6] (vi x :: st) u bb σ Q := r_iload (k := 4) (by decide +kernel) rfl
theorem k252_660 : qx sc D 252 660 ls st u bb σ Q ↔ qx sc D 252 661 ls (vi 1 :: st) u bb σ Q := r_iconst (by decide +kernel)
theorem k252_661 : qx sc D 252 661 ls (vi b' :: vi a' :: st) u bb σ Q ↔ q_R (a' + b') ∧ qx sc D 252 662 ls (vi (a' + b') :: st) u bb σ Q := r_iadd (by decide +kernel)
theorem k252_662 : qx sc D 252 662 ls (vi i :: vr 1000000 :: st) u bb σ Q ↔ (0 ≤ i ∧ i < sc.1) ∧ qx sc D 252 663 ls (vi (sc.2 i.toNat).toInt :: st) u bb σ Q := r_scr (by decide +kernel)
theorem k252_663 : qx sc D 252 663 [vr a, l1, l2, l3, l4, l5, l6] st u bb σ Q ↔ qx sc D 252 664 [vr a, l1, l2, l3, l4, l5, l6] (vr a :: st) u bb σ Q := r_aload_n (k := 0) (by decide +kernel) rfl
theorem k252_664 : qx sc D 252 664 [l0, l1, l2, l3, vi x, l5, l6] st u bb σ Q ↔ qx sc D 252 666 [l0, l1, l2, l3, vi x, l5, l6] (vi x :: st) u bb σ Q := r_iload (k := 4) (by decide +kernel) rfl
theorem k252_666 : qx sc D 252 666 ls st u bb σ Q ↔ qx sc D 252 667 ls (vi 2 :: st) u bb σ Q := r_iconst (by decide +kernel)
theorem k252_667 : qx sc D 252 667 ls (vi b' :: vi a' :: st) u bb σ Q ↔ q_R (a' + b') ∧ qx sc D 252 668 ls (vi (a' + b') :: st) u bb σ Q := r_iadd (by decide +kernel)
theorem k252_668 : qx sc D 252 668 ls (vi i :: vr 1000000 :: st) u bb σ Q ↔ (0 ≤ i ∧ i < sc.1) ∧ qx sc D 252 669 ls (vi (sc.2 i.toNat).toInt :: st) u bb σ Q := r_scr (by decide +kernel)
theorem k252_669 : qx sc D 252 669 ls (vi x :: st) u bb σ Q ↔ (x = 0 → qx sc D 252 676 ls st u bb σ Q) ∧ (¬ (x = 0) → qx sc D 252 672 ls st u bb σ Q) := r_if_eq (off := 7) (t := 676) (by decide +kernel)
theorem k252_672 : qx sc D 252 672 ls st u bb σ Q ↔ qx sc D 252 673 ls (vi 1 :: st) u bb σ Q := r_iconst (by decide +kernel)
theorem k252_673 : qx sc D 252 673 ls st u bb σ Q ↔ qx sc D 252 677 ls st u bb σ Q := r_goto (off := 4) (by decide +kernel)
theorem k252_676 : qx sc D 252 676 ls st u bb σ Q ↔ qx sc D 252 677 ls (vi 0 :: st) u bb σ Q := r_iconst (by decide +kernel)
theorem k252_677 : qx sc D 252 677 [vr a, l1, l2, l3, l4, l5, l6] st u bb σ Q ↔ qx sc D 252 678 [vr a, l1, l2, l3, l4, l5, l6] (vr a :: st) u bb σ Q := r_aload_n (k := 0) (by decide +kernel) rfl
theorem k252_678 : qx sc D 252 678 [l0, l1, l2, l3, vi x, l5, l6] st u bb σ Q ↔ qx sc D 252 680 [l0, l1, l2, l3, vi x, l5, l6] (vi x :: st) u bb σ Q := r_iload (k := 4) (by decide +kernel) rfl
theorem k252_680 : qx sc D 252 680 ls st u bb σ Q ↔ qx sc D 252 681 ls (vi 3 :: st) u bb σ Q := r_iconst (by decide +kernel)
theorem k252_681 : qx sc D 252 681 ls (vi b' :: vi a' :: st) u bb σ Q ↔ q_R (a' + b') ∧ qx sc D 252 682 ls (vi (a' + b') :: st) u bb σ Q := r_iadd (by decide +kernel)
theorem k252_682 : qx sc D 252 682 ls (vi i :: vr 1000000 :: st) u bb σ Q ↔ (0 ≤ i ∧ i < sc.1) ∧ qx sc D 252 683 ls (vi (sc.2 i.toNat).toInt :: st) u bb σ Q := r_scr (by decide +kernel)
theorem k252_683 (hu : u.1 + 0 ≤ 601024 ∧ u.2 + 0 ≤ 7293034) : qx sc (D + 1) 252 683 ls [vi x2, vi x1, vi x0, vr 136] u bb σ Q ↔ qx sc D 136 0 [vr 136, vi x0, vi x1, vi x2] [] (0, 0) bb σ (q_kn sc (D + 1) 252 686 ls [] (u.1 + 0, u.2 + 0) Q) := r_callvU (idx := 122) (n := 3) (m := 4) (by decide +kernel) hu rfl (Nat.le_of_ble_eq_true rfl) ⟨Nat.le_of_ble_eq_true rfl, Nat.le_of_ble_eq_true rfl, rfl⟩ rfl
theorem k252_686 : qx sc D 252 686 [l0, l1, l2, l3, l4, l5, l6] (vi x :: st) u bb σ Q ↔ qx sc D 252 688 [l0, l1, l2, l3, l4, l5, vi x] st u bb σ Q := r_istore (k := 6) (by decide +kernel) (Nat.le_of_ble_eq_true rfl)
theorem k252_688 : qx sc D 252 688 [l0, l1, vr a, l3, l4, l5, l6] st u bb σ Q ↔ qx sc D 252 689 [l0, l1, vr a, l3, l4, l5, l6] (vr a :: st) u bb σ Q := r_aload_n (k := 2) (by decide +kernel) rfl
theorem k252_689 (hu : u.1 + 0 ≤ 601024 ∧ u.2 + 0 ≤ 7293034) : qx sc (D + 1) 252 689 ls [vr 136] u bb σ Q ↔ qx sc D 223 0 [vr 136] [] (0, 0) bb σ (q_kn sc (D + 1) 252 692 ls [] (u.1 + 0, u.2 + 0) Q) := r_callvU (idx := 95) (n := 0) (m := 1) (by decide +kernel) hu rfl (Nat.le_of_ble_eq_true rfl) ⟨Nat.le_of_ble_eq_true rfl, Nat.le_of_ble_eq_true rfl, rfl⟩ rfl
theorem k252_692 : qx sc D 252 692 [l0, l1, l2, l3, l4, vi x, l6] st u bb σ Q ↔ qx sc D 252 694 [l0, l1, l2, l3, l4, vi x, l6] (vi x :: st) u bb σ Q := r_iload (k := 5) (by decide +kernel) rfl
theorem k252_694 : qx sc D 252 694 ls (vi b' :: vi a' :: st) u bb σ Q ↔ (a' = b' → qx sc D 252 699 ls st u bb σ Q) ∧ (¬ (a' = b') → qx sc D 252 697 ls st u bb σ Q) := r_ic_eq (off := 5) (t := 699) (by decide +kernel)
theorem k252_697 : qx sc D 252 697 ls st u bb σ Q ↔ qx sc D 252 698 ls (vi 0 :: st) u bb σ Q := r_iconst (by decide +kernel)
theorem k252_698 (hu : u.1 + 0 ≤ 601024 ∧ u.2 + 0 ≤ 7293034) : qx sc D 252 698 ls [vi x] u bb σ Q ↔ (x = 0 ∨ x = 1) ∧ Q (.inl (some (vi x))) bb σ := r_retB ⟨(by decide +kernel), (by decide +kernel), fit252 hu⟩
theorem k252_699 : qx sc D 252 699 [l0, l1, l2, l3, l4, vi x, l6] st u bb σ Q ↔ qx sc D 252 701 [l0, l1, l2, l3, l4, vi x, l6] (vi x :: st) u bb σ Q := r_iload (k := 5) (by decide +kernel) rfl
theorem k252_701 : qx sc D 252 701 ls (vi x :: st) u bb σ Q ↔ (x = 0 → qx sc D 252 704 ls st u bb σ Q) ∧ (¬ (x = 0) → qx sc D 252 716 ls st u bb σ Q) := r_if_ne (off := 15) (t := 716) (by decide +kernel)
theorem k252_704 : qx sc D 252 704 [l0, l1, l2, vr a, l4, l5, l6] st u bb σ Q ↔ qx sc D 252 705 [l0, l1, l2, vr a, l4, l5, l6] (vr a :: st) u bb σ Q := r_aload_n (k := 3) (by decide +kernel) rfl
theorem k252_705 : qx sc D 252 705 ls st u bb σ Q ↔ qx sc D 252 706 ls (vi 0 :: st) u bb σ Q := r_iconst (by decide +kernel)
theorem k252_706 : qx sc D 252 706 ls (vi i :: vr a :: st) u bb σ Q ↔ (q_ty a = 3 ∧ 0 ≤ i ∧ i < q_ln a) ∧ qx sc D 252 707 ls (vl (σ a i) :: st) u bb σ Q := r_lald (by decide +kernel)
theorem k252_707 : qx sc D 252 707 [l0, l1, l2, l3, l4, l5, vi x] st u bb σ Q ↔ qx sc D 252 709 [l0, l1, l2, l3, l4, l5, vi x] (vi x :: st) u bb σ Q := r_iload (k := 6) (by decide +kernel) rfl
theorem k252_709 : qx sc D 252 709 ls (vi a' :: st) u bb σ Q ↔ qx sc D 252 710 ls (vl a' :: st) u bb σ Q := r_i2l (by decide +kernel)
theorem k252_710 : qx sc D 252 710 ls (vl b' :: vl a' :: st) u bb σ Q ↔ qx sc D 252 711 ls (vi (if b' < a' then 1 else if a' = b' then 0 else -1) :: st) u bb σ Q := r_lcmp (by decide +kernel)
theorem k252_711 : qx sc D 252 711 ls (vi x :: st) u bb σ Q ↔ (x = 0 → qx sc D 252 716 ls st u bb σ Q) ∧ (¬ (x = 0) → qx sc D 252 714 ls st u bb σ Q) := r_if_eq (off := 5) (t := 716) (by decide +kernel)
theorem k252_714 : qx sc D 252 714 ls st u bb σ Q ↔ qx sc D 252 715 ls (vi 0 :: st) u bb σ Q := r_iconst (by decide +kernel)
theorem k252_715 (hu : u.1 + 0 ≤ 601024 ∧ u.2 + 0 ≤ 7293034) : qx sc D 252 715 ls [vi x] u bb σ Q ↔ (x = 0 ∨ x = 1) ∧ Q (.inl (some (vi x))) bb σ := r_retB ⟨(by decide +kernel), (by decide +kernel), fit252 hu⟩
theorem k252_716 : qx sc D 252 716 ls st u bb σ Q ↔ qx sc D 252 1480 ls st u bb σ Q := r_goto (off := 764) (by decide +kernel)
theorem k252_719 : qx sc D 252 719 [l0, vr a, l2, l3, l4, l5, l6] st u bb σ Q ↔ qx sc D 252 720 [l0, vr a, l2, l3, l4, l5, l6] (vr a :: st) u bb σ Q := r_aload_n (k := 1) (by decide +kernel) rfl
theorem k252_720 : qx sc D 252 720 [vr a, l1, l2, l3, l4, l5, l6] st u bb σ Q ↔ qx sc D 252 721 [vr a, l1, l2, l3, l4, l5, l6] (vr a :: st) u bb σ Q := r_aload_n (k := 0) (by decide +kernel) rfl
theorem k252_721 : qx sc D 252 721 [l0, l1, l2, l3, vi x, l5, l6] st u bb σ Q ↔ qx sc D 252 723 [l0, l1, l2, l3, vi x, l5, l6] (vi x :: st) u bb σ Q := r_iload (k := 4) (by decide +kernel) rfl
theorem k252_723 : qx sc D 252 723 ls st u bb σ Q ↔ qx sc D 252 724 ls (vi 1 :: st) u bb σ Q := r_iconst (by decide +kernel)
theorem k252_724 : qx sc D 252 724 ls (vi b' :: vi a' :: st) u bb σ Q ↔ q_R (a' + b') ∧ qx sc D 252 725 ls (vi (a' + b') :: st) u bb σ Q := r_iadd (by decide +kernel)
theorem k252_725 : qx sc D 252 725 ls (vi i :: vr 1000000 :: st) u bb σ Q ↔ (0 ≤ i ∧ i < sc.1) ∧ qx sc D 252 726 ls (vi (sc.2 i.toNat).toInt :: st) u bb σ Q := r_scr (by decide +kernel)
theorem k252_726 : qx sc D 252 726 [vr a, l1, l2, l3, l4, l5, l6] st u bb σ Q ↔ qx sc D 252 727 [vr a, l1, l2, l3, l4, l5, l6] (vr a :: st) u bb σ Q := r_aload_n (k := 0) (by decide +kernel) rfl
theorem k252_727 : qx sc D 252 727 [l0, l1, l2, l3, vi x, l5, l6] st u bb σ Q ↔ qx sc D 252 729 [l0, l1, l2, l3, vi x, l5, l6] (vi x :: st) u bb σ Q := r_iload (k := 4) (by decide +kernel) rfl
theorem k252_729 : qx sc D 252 729 ls st u bb σ Q ↔ qx sc D 252 730 ls (vi 2 :: st) u bb σ Q := r_iconst (by decide +kernel)
theorem k252_730 : qx sc D 252 730 ls (vi b' :: vi a' :: st) u bb σ Q ↔ q_R (a' + b') ∧ qx sc D 252 731 ls (vi (a' + b') :: st) u bb σ Q := r_iadd (by decide +kernel)
theorem k252_731 : qx sc D 252 731 ls (vi i :: vr 1000000 :: st) u bb σ Q ↔ (0 ≤ i ∧ i < sc.1) ∧ qx sc D 252 732 ls (vi (sc.2 i.toNat).toInt :: st) u bb σ Q := r_scr (by decide +kernel)
theorem k252_732 : qx sc D 252 732 ls (vi x :: st) u bb σ Q ↔ (x = 0 → qx sc D 252 739 ls st u bb σ Q) ∧ (¬ (x = 0) → qx sc D 252 735 ls st u bb σ Q) := r_if_eq (off := 7) (t := 739) (by decide +kernel)
theorem k252_735 : qx sc D 252 735 ls st u bb σ Q ↔ qx sc D 252 736 ls (vi 1 :: st) u bb σ Q := r_iconst (by decide +kernel)
theorem k252_736 : qx sc D 252 736 ls st u bb σ Q ↔ qx sc D 252 740 ls st u bb σ Q := r_goto (off := 4) (by decide +kernel)
theorem k252_739 : qx sc D 252 739 ls st u bb σ Q ↔ qx sc D 252 740 ls (vi 0 :: st) u bb σ Q := r_iconst (by decide +kernel)
theorem k252_740 : qx sc D 252 740 [l0, l1, l2, vr a, l4, l5, l6] st u bb σ Q ↔ qx sc D 252 741 [l0, l1, l2, vr a, l4, l5, l6] (vr a :: st) u bb σ Q := r_aload_n (k := 3) (by decide +kernel) rfl
theorem k252_741 (hu : u.1 + 4 ≤ 601024 ∧ u.2 + 24 ≤ 7293034) : qx sc (D + 1) 252 741 ls [vr a3, vi x2, vi x1, vr a0] u bb σ Q ↔ qx sc D 245 0 [vr a0, vi x1, vi x2, vr a3, vn] [] (0, 0) bb σ (q_kn sc (D + 1) 252 744 ls [] (u.1 + 4, u.2 + 24) Q) := r_callsX (idx := 123) (n := 4) (m := 5) (by decide +kernel) hu rfl (Nat.le_of_ble_eq_true rfl) ⟨Nat.le_of_ble_eq_true rfl, Nat.le_of_ble_eq_true rfl, rfl⟩ rfl
theorem k252_744 : qx sc D 252 744 [l0, l1, l2, l3, l4, l5, l6] (vi x :: st) u bb σ Q ↔ qx sc D 252 746 [l0, l1, l2, l3, l4, vi x, l6] st u bb σ Q := r_istore (k := 5) (by decide +kernel) (Nat.le_of_ble_eq_true rfl)
theorem k252_746 : qx sc D 252 746 [l0, l1, vr a, l3, l4, l5, l6] st u bb σ Q ↔ qx sc D 252 747 [l0, l1, vr a, l3, l4, l5, l6] (vr a :: st) u bb σ Q := r_aload_n (k := 2) (by decide +kernel) rfl
theorem k252_747 : qx sc D 252 747 [vr a, l1, l2, l3, l4, l5, l6] st u bb σ Q ↔ qx sc D 252 748 [vr a, l1, l2, l3, l4, l5, l6] (vr a :: st) u bb σ Q := r_aload_n (k := 0) (by decide +kernel) rfl
theorem k252_748 : qx sc D 252 748 [l0, l1, l2, l3, vi x, l5, l6] st u bb σ Q ↔ qx sc D 252 750 [l0, l1, l2, l3, vi x, l5, l6] (vi x :: st) u bb σ Q := r_iload (k := 4) (by decide +kernel) rfl
theorem k252_750 : qx sc D 252 750 ls st u bb σ Q ↔ qx sc D 252 751 ls (vi 1 :: st) u bb σ Q := r_iconst (by decide +kernel)
theorem k252_751 : qx sc D 252 751 ls (vi b' :: vi a' :: st) u bb σ Q ↔ q_R (a' + b') ∧ qx sc D 252 752 ls (vi (a' + b') :: st) u bb σ Q := r_iadd (by decide +kernel)
theorem k252_752 : qx sc D 252 752 ls (vi i :: vr 1000000 :: st) u bb σ Q ↔ (0 ≤ i ∧ i < sc.1) ∧ qx sc D 252 753 ls (vi (sc.2 i.toNat).toInt :: st) u bb σ Q := r_scr (by decide +kernel)
theorem k252_753 : qx sc D 252 753 [vr a, l1, l2, l3, l4, l5, l6] st u bb σ Q ↔ qx sc D 252 754 [vr a, l1, l2, l3, l4, l5, l6] (vr a :: st) u bb σ Q := r_aload_n (k := 0) (by decide +kernel) rfl
theorem k252_754 : qx sc D 252 754 [l0, l1, l2, l3, vi x, l5, l6] st u bb σ Q ↔ qx sc D 252 756 [l0, l1, l2, l3, vi x, l5, l6] (vi x :: st) u bb σ Q := r_iload (k := 4) (by decide +kernel) rfl
theorem k252_756 : qx sc D 252 756 ls st u bb σ Q ↔ qx sc D 252 757 ls (vi 2 :: st) u bb σ Q := r_iconst (by decide +kernel)
theorem k252_757 : qx sc D 252 757 ls (vi b' :: vi a' :: st) u bb σ Q ↔ q_R (a' + b') ∧ qx sc D 252 758 ls (vi (a' + b') :: st) u bb σ Q := r_iadd (by decide +kernel)
theorem k252_758 : qx sc D 252 758 ls (vi i :: vr 1000000 :: st) u bb σ Q ↔ (0 ≤ i ∧ i < sc.1) ∧ qx sc D 252 759 ls (vi (sc.2 i.toNat).toInt :: st) u bb σ Q := r_scr (by decide +kernel)
theorem k252_759 : qx sc D 252 759 ls (vi x :: st) u bb σ Q ↔ (x = 0 → qx sc D 252 766 ls st u bb σ Q) ∧ (¬ (x = 0) → qx sc D 252 762 ls st u bb σ Q) := r_if_eq (off := 7) (t := 766) (by decide +kernel)
theorem k252_762 : qx sc D 252 762 ls st u bb σ Q ↔ qx sc D 252 763 ls (vi 1 :: st) u bb σ Q := r_iconst (by decide +kernel)
theorem k252_763 : qx sc D 252 763 ls st u bb σ Q ↔ qx sc D 252 767 ls st u bb σ Q := r_goto (off := 4) (by decide +kernel)
theorem k252_766 : qx sc D 252 766 ls st u bb σ Q ↔ qx sc D 252 767 ls (vi 0 :: st) u bb σ Q := r_iconst (by decide +kernel)
theorem k252_767 (hu : u.1 + 0 ≤ 601024 ∧ u.2 + 0 ≤ 7293034) : qx sc (D + 1) 252 767 ls [vi x1, vi x0, vr 136] u bb σ Q ↔ qx sc D 215 0 [vr 136, vi x0, vi x1] [] (0, 0) bb σ (q_kn sc (D + 1) 252 770 ls [] (u.1 + 0, u.2 + 0) Q) := r_callvU (idx := 126) (n := 2) (m := 3) (by decide +kernel) hu rfl (Nat.le_of_ble_eq_true rfl) ⟨Nat.le_of_ble_eq_true rfl, Nat.le_of_ble_eq_true rfl, rfl⟩ rfl
theorem k252_770 : qx sc D 252 770 [l0, l1, l2, l3, l4, l5, l6] (vi x :: st) u bb σ Q ↔ qx sc D 252 772 [l0, l1, l2, l3, l4, l5, vi x] st u bb σ Q := r_istore (k := 6) (by decide +kernel) (Nat.le_of_ble_eq_true rfl)
theorem k252_772 : qx sc D 252 772 [l0, l1, vr a, l3, l4, l5, l6] st u bb σ Q ↔ qx sc D 252 773 [l0, l1, vr a, l3, l4, l5, l6] (vr a :: st) u bb σ Q := r_aload_n (k := 2) (by decide +kernel) rfl
theorem k252_773 (hu : u.1 + 0 ≤ 601024 ∧ u.2 + 0 ≤ 7293034) : qx sc (D + 1) 252 773 ls [vr 136] u bb σ Q ↔ qx sc D 223 0 [vr 136] [] (0, 0) bb σ (q_kn sc (D + 1) 252 776 ls [] (u.1 + 0, u.2 + 0) Q) := r_callvU (idx := 95) (n := 0) (m := 1) (by decide +kernel) hu rfl (Nat.le_of_ble_eq_true rfl) ⟨Nat.le_of_ble_eq_true rfl, Nat.le_of_ble_eq_true rfl, rfl⟩ rfl
theorem k252_776 : qx sc D 252 776 [l0, l1, l2, l3, l4, vi x, l6] st u bb σ Q ↔ qx sc D 252 778 [l0, l1, l2, l3, l4, vi x, l6] (vi x :: st) u bb σ Q := r_iload (k := 5) (by decide +kernel) rfl
theorem k252_778 : qx sc D 252 778 ls (vi b' :: vi a' :: st) u bb σ Q ↔ (a' = b' → qx sc D 252 783 ls st u bb σ Q) ∧ (¬ (a' = b') → qx sc D 252 781 ls st u bb σ Q) := r_ic_eq (off := 5) (t := 783) (by decide +kernel)
theorem k252_781 : qx sc D 252 781 ls st u bb σ Q ↔ qx sc D 252 782 ls (vi 0 :: st) u bb σ Q := r_iconst (by decide +kernel)
theorem k252_782 (hu : u.1 + 0 ≤ 601024 ∧ u.2 + 0 ≤ 7293034) : qx sc D 252 782 ls [vi x] u bb σ Q ↔ (x = 0 ∨ x = 1) ∧ Q (.inl (some (vi x))) bb σ := r_retB ⟨(by decide +kernel), (by decide +kernel), fit252 hu⟩
theorem k252_783 : qx sc D 252 783 [l0, l1, l2, l3, l4, vi x, l6] st u bb σ Q ↔ qx sc D 252 785 [l0, l1, l2, l3, l4, vi x, l6] (vi x :: st) u bb σ Q := r_iload (k := 5) (by decide +kernel) rfl
theorem k252_785 : qx sc D 252 785 ls (vi x :: st) u bb σ Q ↔ (x = 0 → qx sc D 252 788 ls st u bb σ Q) ∧ (¬ (x = 0) → qx sc D 252 800 ls st u bb σ Q) := r_if_ne (off := 15) (t := 800) (by decide +kernel)
theorem k252_788 : qx sc D 252 788 [l0, l1, l2, vr a, l4, l5, l6] st u bb σ Q ↔ qx sc D 252 789 [l0, l1, l2, vr a, l4, l5, l6] (vr a :: st) u bb σ Q := r_aload_n (k := 3) (by decide +kernel) rfl
theorem k252_789 : qx sc D 252 789 ls st u bb σ Q ↔ qx sc D 252 790 ls (vi 0 :: st) u bb σ Q := r_iconst (by decide +kernel)
theorem k252_790 : qx sc D 252 790 ls (vi i :: vr a :: st) u bb σ Q ↔ (q_ty a = 3 ∧ 0 ≤ i ∧ i < q_ln a) ∧ qx sc D 252 791 ls (vl (σ a i) :: st) u bb σ Q := r_lald (by decide +kernel)
theorem k252_791 : qx sc D 252 791 [l0, l1, l2, l3, l4, l5, vi x] st u bb σ Q ↔ qx sc D 252 793 [l0, l1, l2, l3, l4, l5, vi x] (vi x :: st) u bb σ Q := r_iload (k := 6) (by decide +kernel) rfl
theorem k252_793 : qx sc D 252 793 ls (vi a' :: st) u bb σ Q ↔ qx sc D 252 794 ls (vl a' :: st) u bb σ Q := r_i2l (by decide +kernel)
theorem k252_794 : qx sc D 252 794 ls (vl b' :: vl a' :: st) u bb σ Q ↔ qx sc D 252 795 ls (vi (if b' < a' then 1 else if a' = b' then 0 else -1) :: st) u bb σ Q := r_lcmp (by decide +kernel)
theorem k252_795 : qx sc D 252 795 ls (vi x :: st) u bb σ Q ↔ (x = 0 → qx sc D 252 800 ls st u bb σ Q) ∧ (¬ (x = 0) → qx sc D 252 798 ls st u bb σ Q) := r_if_eq (off := 5) (t := 800) (by decide +kernel)
theorem k252_798 : qx sc D 252 798 ls st u bb σ Q ↔ qx sc D 252 799 ls (vi 0 :: st) u bb σ Q := r_iconst (by decide +kernel)
theorem k252_799 (hu : u.1 + 0 ≤ 601024 ∧ u.2 + 0 ≤ 7293034) : qx sc D 252 799 ls [vi x] u bb σ Q ↔ (x = 0 ∨ x = 1) ∧ Q (.inl (some (vi x))) bb σ := r_retB ⟨(by decide +kernel), (by decide +kernel), fit252 hu⟩
theorem k252_800 : qx sc D 252 800 ls st u bb σ Q ↔ qx sc D 252 1480 ls st u bb σ Q := r_goto (off := 680) (by decide +kernel)
theorem k252_803 : qx sc D 252 803 [l0, vr a, l2, l3, l4, l5, l6] st u bb σ Q ↔ qx sc D 252 804 [l0, vr a, l2, l3, l4, l5, l6] (vr a :: st) u bb σ Q := r_aload_n (k := 1) (by decide +kernel) rfl
theorem k252_804 : qx sc D 252 804 [vr a, l1, l2, l3, l4, l5, l6] st u bb σ Q ↔ qx sc D 252 805 [vr a, l1, l2, l3, l4, l5, l6] (vr a :: st) u bb σ Q := r_aload_n (k := 0) (by decide +kernel) rfl
theorem k252_805 : qx sc D 252 805 [l0, l1, l2, l3, vi x, l5, l6] st u bb σ Q ↔ qx sc D 252 807 [l0, l1, l2, l3, vi x, l5, l6] (vi x :: st) u bb σ Q := r_iload (k := 4) (by decide +kernel) rfl
theorem k252_807 : qx sc D 252 807 ls st u bb σ Q ↔ qx sc D 252 808 ls (vi 1 :: st) u bb σ Q := r_iconst (by decide +kernel)
theorem k252_808 : qx sc D 252 808 ls (vi b' :: vi a' :: st) u bb σ Q ↔ q_R (a' + b') ∧ qx sc D 252 809 ls (vi (a' + b') :: st) u bb σ Q := r_iadd (by decide +kernel)
theorem k252_809 : qx sc D 252 809 ls (vi i :: vr 1000000 :: st) u bb σ Q ↔ (0 ≤ i ∧ i < sc.1) ∧ qx sc D 252 810 ls (vi (sc.2 i.toNat).toInt :: st) u bb σ Q := r_scr (by decide +kernel)
theorem k252_810 : qx sc D 252 810 [vr a, l1, l2, l3, l4, l5, l6] st u bb σ Q ↔ qx sc D 252 811 [vr a, l1, l2, l3, l4, l5, l6] (vr a :: st) u bb σ Q := r_aload_n (k := 0) (by decide +kernel) rfl
theorem k252_811 : qx sc D 252 811 [l0, l1, l2, l3, vi x, l5, l6] st u bb σ Q ↔ qx sc D 252 813 [l0, l1, l2, l3, vi x, l5, l6] (vi x :: st) u bb σ Q := r_iload (k := 4) (by decide +kernel) rfl
theorem k252_813 : qx sc D 252 813 ls st u bb σ Q ↔ qx sc D 252 814 ls (vi 2 :: st) u bb σ Q := r_iconst (by decide +kernel)
theorem k252_814 : qx sc D 252 814 ls (vi b' :: vi a' :: st) u bb σ Q ↔ q_R (a' + b') ∧ qx sc D 252 815 ls (vi (a' + b') :: st) u bb σ Q := r_iadd (by decide +kernel)
theorem k252_815 : qx sc D 252 815 ls (vi i :: vr 1000000 :: st) u bb σ Q ↔ (0 ≤ i ∧ i < sc.1) ∧ qx sc D 252 816 ls (vi (sc.2 i.toNat).toInt :: st) u bb σ Q := r_scr (by decide +kernel)
theorem k252_816 : qx sc D 252 816 [l0, l1, l2, vr a, l4, l5, l6] st u bb σ Q ↔ qx sc D 252 817 [l0, l1, l2, vr a, l4, l5, l6] (vr a :: st) u bb σ Q := r_aload_n (k := 3) (by decide +kernel) rfl
theorem k252_817 (hu : u.1 + 4 ≤ 601024 ∧ u.2 + 24 ≤ 7293034) : qx sc (D + 1) 252 817 ls [vr a3, vi x2, vi x1, vr a0] u bb σ Q ↔ qx sc D 239 0 [vr a0, vi x1, vi x2, vr a3, vn] [] (0, 0) bb σ (q_kn sc (D + 1) 252 820 ls [] (u.1 + 4, u.2 + 24) Q) := r_callsX (idx := 127) (n := 4) (m := 5) (by decide +kernel) hu rfl (Nat.le_of_ble_eq_true rfl) ⟨Nat.le_of_ble_eq_true rfl, Nat.le_of_ble_eq_true rfl, rfl⟩ rfl
theorem k252_820 : qx sc D 252 820 [l0, l1, l2, l3, l4, l5, l6] (vi x :: st) u bb σ Q ↔ qx sc D 252 822 [l0, l1, l2, l3, l4, vi x, l6] st u bb σ Q := r_istore (k := 5) (by decide +kernel) (Nat.le_of_ble_eq_true rfl)
theorem k252_822 : qx sc D 252 822 [l0, l1, vr a, l3, l4, l5, l6] st u bb σ Q ↔ qx sc D 252 823 [l0, l1, vr a, l3, l4, l5, l6] (vr a :: st) u bb σ Q := r_aload_n (k := 2) (by decide +kernel) rfl
theorem k252_823 : qx sc D 252 823 [vr a, l1, l2, l3, l4, l5, l6] st u bb σ Q ↔ qx sc D 252 824 [vr a, l1, l2, l3, l4, l5, l6] (vr a :: st) u bb σ Q := r_aload_n (k := 0) (by decide +kernel) rfl
theorem k252_824 : qx sc D 252 824 [l0, l1, l2, l3, vi x, l5, l6] st u bb σ Q ↔ qx sc D 252 826 [l0, l1, l2, l3, vi x, l5, l6] (vi x :: st) u bb σ Q := r_iload (k := 4) (by decide +kernel) rfl
theorem k252_826 : qx sc D 252 826 ls st u bb σ Q ↔ qx sc D 252 827 ls (vi 1 :: st) u bb σ Q := r_iconst (by decide +kernel)
theorem k252_827 : qx sc D 252 827 ls (vi b' :: vi a' :: st) u bb σ Q ↔ q_R (a' + b') ∧ qx sc D 252 828 ls (vi (a' + b') :: st) u bb σ Q := r_iadd (by decide +kernel)
theorem k252_828 : qx sc D 252 828 ls (vi i :: vr 1000000 :: st) u bb σ Q ↔ (0 ≤ i ∧ i < sc.1) ∧ qx sc D 252 829 ls (vi (sc.2 i.toNat).toInt :: st) u bb σ Q := r_scr (by decide +kernel)
theorem k252_829 : qx sc D 252 829 [vr a, l1, l2, l3, l4, l5, l6] st u bb σ Q ↔ qx sc D 252 830 [vr a, l1, l2, l3, l4, l5, l6] (vr a :: st) u bb σ Q := r_aload_n (k := 0) (by decide +kernel) rfl
theorem k252_830 : qx sc D 252 830 [l0, l1, l2, l3, vi x, l5, l6] st u bb σ Q ↔ qx sc D 252 832 [l0, l1, l2, l3, vi x, l5, l6] (vi x :: st) u bb σ Q := r_iload (k := 4) (by decide +kernel) rfl
theorem k252_832 : qx sc D 252 832 ls st u bb σ Q ↔ qx sc D 252 833 ls (vi 2 :: st) u bb σ Q := r_iconst (by decide +kernel)
theorem k252_833 : qx sc D 252 833 ls (vi b' :: vi a' :: st) u bb σ Q ↔ q_R (a' + b') ∧ qx sc D 252 834 ls (vi (a' + b') :: st) u bb σ Q := r_iadd (by decide +kernel)
theorem k252_834 : qx sc D 252 834 ls (vi i :: vr 1000000 :: st) u bb σ Q ↔ (0 ≤ i ∧ i < sc.1) ∧ qx sc D 252 835 ls (vi (sc.2 i.toNat).toInt :: st) u bb σ Q := r_scr (by decide +kernel)
theorem k252_835 (hu : u.1 + 0 ≤ 601024 ∧ u.2 + 0 ≤ 7293034) : qx sc (D + 1) 252 835 ls [vi x1, vi x0, vr 136] u bb σ Q ↔ qx sc D 178 0 [vr 136, vi x0, vi x1] [] (0, 0) bb σ (q_kn sc (D + 1) 252 838 ls [] (u.1 + 0, u.2 + 0) Q) := r_callvU (idx := 129) (n := 2) (m := 3) (by decide +kernel) hu rfl (Nat.le_of_ble_eq_true rfl) ⟨Nat.le_of_ble_eq_true rfl, Nat.le_of_ble_eq_true rfl, rfl⟩ rfl
theorem k252_838 : qx sc D 252 838 [l0, l1, l2, l3, l4, l5, l6] (vi x :: st) u bb σ Q ↔ qx sc D 252 840 [l0, l1, l2, l3, l4, l5, vi x] st u bb σ Q := r_istore (k := 6) (by decide +kernel) (Nat.le_of_ble_eq_true rfl)
theorem k252_840 : qx sc D 252 840 [l0, l1, vr a, l3, l4, l5, l6] st u bb σ Q ↔ qx sc D 252 841 [l0, l1, vr a, l3, l4, l5, l6] (vr a :: st) u bb σ Q := r_aload_n (k := 2) (by decide +kernel) rfl
theorem k252_841 (hu : u.1 + 0 ≤ 601024 ∧ u.2 + 0 ≤ 7293034) : qx sc (D + 1) 252 841 ls [vr 136] u bb σ Q ↔ qx sc D 223 0 [vr 136] [] (0, 0) bb σ (q_kn sc (D + 1) 252 844 ls [] (u.1 + 0, u.2 + 0) Q) := r_callvU (idx := 95) (n := 0) (m := 1) (by decide +kernel) hu rfl (Nat.le_of_ble_eq_true rfl) ⟨Nat.le_of_ble_eq_true rfl, Nat.le_of_ble_eq_true rfl, rfl⟩ rfl
theorem k252_844 : qx sc D 252 844 [l0, l1, l2, l3, l4, vi x, l6] st u bb σ Q ↔ qx sc D 252 846 [l0, l1, l2, l3, l4, vi x, l6] (vi x :: st) u bb σ Q := r_iload (k := 5) (by decide +kernel) rfl
theorem k252_846 : qx sc D 252 846 ls (vi b' :: vi a' :: st) u bb σ Q ↔ (a' = b' → qx sc D 252 851 ls st u bb σ Q) ∧ (¬ (a' = b') → qx sc D 252 849 ls st u bb σ Q) := r_ic_eq (off := 5) (t := 851) (by decide +kernel)
theorem k252_849 : qx sc D 252 849 ls st u bb σ Q ↔ qx sc D 252 850 ls (vi 0 :: st) u bb σ Q := r_iconst (by decide +kernel)
theorem k252_850 (hu : u.1 + 0 ≤ 601024 ∧ u.2 + 0 ≤ 7293034) : qx sc D 252 850 ls [vi x] u bb σ Q ↔ (x = 0 ∨ x = 1) ∧ Q (.inl (some (vi x))) bb σ := r_retB ⟨(by decide +kernel), (by decide +kernel), fit252 hu⟩
theorem k252_851 : qx sc D 252 851 [l0, l1, l2, l3, l4, vi x, l6] st u bb σ Q ↔ qx sc D 252 853 [l0, l1, l2, l3, l4, vi x, l6] (vi x :: st) u bb σ Q := r_iload (k := 5) (by decide +kernel) rfl
theorem k252_853 : qx sc D 252 853 ls (vi x :: st) u bb σ Q ↔ (x = 0 → qx sc D 252 856 ls st u bb σ Q) ∧ (¬ (x = 0) → qx sc D 252 868 ls st u bb σ Q) := r_if_ne (off := 15) (t := 868) (by decide +kernel)
theorem k252_856 : qx sc D 252 856 [l0, l1, l2, vr a, l4, l5, l6] st u bb σ Q ↔ qx sc D 252 857 [l0, l1, l2, vr a, l4, l5, l6] (vr a :: st) u bb σ Q := r_aload_n (k := 3) (by decide +kernel) rfl
theorem k252_857 : qx sc D 252 857 ls st u bb σ Q ↔ qx sc D 252 858 ls (vi 0 :: st) u bb σ Q := r_iconst (by decide +kernel)
theorem k252_858 : qx sc D 252 858 ls (vi i :: vr a :: st) u bb σ Q ↔ (q_ty a = 3 ∧ 0 ≤ i ∧ i < q_ln a) ∧ qx sc D 252 859 ls (vl (σ a i) :: st) u bb σ Q := r_lald (by decide +kernel)
theorem k252_859 : qx sc D 252 859 [l0, l1, l2, l3, l4, l5, vi x] st u bb σ Q ↔ qx sc D 252 861 [l0, l1, l2, l3, l4, l5, vi x] (vi x :: st) u bb σ Q := r_iload (k := 6) (by decide +kernel) rfl
theorem k252_861 : qx sc D 252 861 ls (vi a' :: st) u bb σ Q ↔ qx sc D 252 862 ls (vl a' :: st) u bb σ Q := r_i2l (by decide +kernel)
theorem k252_862 : qx sc D 252 862 ls (vl b' :: vl a' :: st) u bb σ Q ↔ qx sc D 252 863 ls (vi (if b' < a' then 1 else if a' = b' then 0 else -1) :: st) u bb σ Q := r_lcmp (by decide +kernel)
theorem k252_863 : qx sc D 252 863 ls (vi x :: st) u bb σ Q ↔ (x = 0 → qx sc D 252 868 ls st u bb σ Q) ∧ (¬ (x = 0) → qx sc D 252 866 ls st u bb σ Q) := r_if_eq (off := 5) (t := 868) (by decide +kernel)
theorem k252_866 : qx sc D 252 866 ls st u bb σ Q ↔ qx sc D 252 867 ls (vi 0 :: st) u bb σ Q := r_iconst (by decide +kernel)
theorem k252_867 (hu : u.1 + 0 ≤ 601024 ∧ u.2 + 0 ≤ 7293034) : qx sc D 252 867 ls [vi x] u bb σ Q ↔ (x = 0 ∨ x = 1) ∧ Q (.inl (some (vi x))) bb σ := r_retB ⟨(by decide +kernel), (by decide +kernel), fit252 hu⟩
theorem k252_868 : qx sc D 252 868 ls st u bb σ Q ↔ qx sc D 252 1480 ls st u bb σ Q := r_goto (off := 612) (by decide +kernel)
theorem k252_871 : qx sc D 252 871 [l0, vr a, l2, l3, l4, l5, l6] st u bb σ Q ↔ qx sc D 252 872 [l0, vr a, l2, l3, l4, l5, l6] (vr a :: st) u bb σ Q := r_aload_n (k := 1) (by decide +kernel) rfl
theorem k252_872 : qx sc D 252 872 [vr a, l1, l2, l3, l4, l5, l6] st u bb σ Q ↔ qx sc D 252 873 [vr a, l1, l2, l3, l4, l5, l6] (vr a :: st) u bb σ Q := r_aload_n (k := 0) (by decide +kernel) rfl
theorem k252_873 : qx sc D 252 873 [l0, l1, l2, l3, vi x, l5, l6] st u bb σ Q ↔ qx sc D 252 875 [l0, l1, l2, l3, vi x, l5, l6] (vi x :: st) u bb σ Q := r_iload (k := 4) (by decide +kernel) rfl
theorem k252_875 : qx sc D 252 875 ls st u bb σ Q ↔ qx sc D 252 876 ls (vi 1 :: st) u bb σ Q := r_iconst (by decide +kernel)
theorem k252_876 : qx sc D 252 876 ls (vi b' :: vi a' :: st) u bb σ Q ↔ q_R (a' + b') ∧ qx sc D 252 877 ls (vi (a' + b') :: st) u bb σ Q := r_iadd (by decide +kernel)
theorem k252_877 : qx sc D 252 877 ls (vi i :: vr 1000000 :: st) u bb σ Q ↔ (0 ≤ i ∧ i < sc.1) ∧ qx sc D 252 878 ls (vi (sc.2 i.toNat).toInt :: st) u bb σ Q := r_scr (by decide +kernel)
theorem k252_878 : qx sc D 252 878 [l0, l1, l2, vr a, l4, l5, l6] st u bb σ Q ↔ qx sc D 252 879 [l0, l1, l2, vr a, l4, l5, l6] (vr a :: st) u bb σ Q := r_aload_n (k := 3) (by decide +kernel) rfl
theorem k252_879 (hu : u.1 + 4 ≤ 601024 ∧ u.2 + 24 ≤ 7293034) : qx sc (D + 1) 252 879 ls [vr a2, vi x1, vr a0] u bb σ Q ↔ qx sc D 236 0 [vr a0, vi x1, vr a2, vn] [] (0, 0) bb σ (q_kn sc (D + 1) 252 882 ls [] (u.1 + 4, u.2 + 24) Q) := r_callsX (idx := 130) (n := 3) (m := 4) (by decide +kernel) hu rfl (Nat.le_of_ble_eq_true rfl) ⟨Nat.le_of_ble_eq_true rfl, Nat.le_of_ble_eq_true rfl, rfl⟩ rfl
theorem k252_882 : qx sc D 252 882 [l0, l1, l2, l3, l4, l5, l6] (vi x :: st) u bb σ Q ↔ qx sc D 252 884 [l0, l1, l2, l3, l4, vi x, l6] st u bb σ Q := r_istore (k := 5) (by decide +kernel) (Nat.le_of_ble_eq_true rfl)
theorem k252_884 : qx sc D 252 884 [l0, l1, vr a, l3, l4, l5, l6] st u bb σ Q ↔ qx sc D 252 885 [l0, l1, vr a, l3, l4, l5, l6] (vr a :: st) u bb σ Q := r_aload_n (k := 2) (by decide +kernel) rfl
theorem k252_885 : qx sc D 252 885 [vr a, l1, l2, l3, l4, l5, l6] st u bb σ Q ↔ qx sc D 252 886 [vr a, l1, l2, l3, l4, l5, l6] (vr a :: st) u bb σ Q := r_aload_n (k := 0) (by decide +kernel) rfl
theorem k252_886 : qx sc D 252 886 [l0, l1, l2, l3, vi x, l5, l6] st u bb σ Q ↔ qx sc D 252 888 [l0, l1, l2, l3, vi x, l5, l6] (vi x :: st) u bb σ Q := r_iload (k := 4) (by decide +kernel) rfl
theorem k252_888 : qx sc D 252 888 ls st u bb σ Q ↔ qx sc D 252 889 ls (vi 1 :: st) u bb σ Q := r_iconst (by decide +kernel)
theorem k252_889 : qx sc D 252 889 ls (vi b' :: vi a' :: st) u bb σ Q ↔ q_R (a' + b') ∧ qx sc D 252 890 ls (vi (a' + b') :: st) u bb σ Q := r_iadd (by decide +kernel)
theorem k252_890 : qx sc D 252 890 ls (vi i :: vr 1000000 :: st) u bb σ Q ↔ (0 ≤ i ∧ i < sc.1) ∧ qx sc D 252 891 ls (vi (sc.2 i.toNat).toInt :: st) u bb σ Q := r_scr (by decide +kernel)
theorem k252_891 (hu : u.1 + 0 ≤ 601024 ∧ u.2 + 0 ≤ 7293034) : qx sc (D + 1) 252 891 ls [vi x0, vr 136] u bb σ Q ↔ qx sc D 153 0 [vr 136, vi x0, vn, vn] [] (0, 0) bb σ (q_kn sc (D + 1) 252 894 ls [] (u.1 + 0, u.2 + 0) Q) := r_callvU (idx := 132) (n := 1) (m := 4) (by decide +kernel) hu rfl (Nat.le_of_ble_eq_true rfl) ⟨Nat.le_of_ble_eq_true rfl, Nat.le_of_ble_eq_true rfl, rfl⟩ rfl
theorem k252_894 : qx sc D 252 894 [l0, l1, l2, l3, l4, l5, l6] (vi x :: st) u bb σ Q ↔ qx sc D 252 896 [l0, l1, l2, l3, l4, l5, vi x] st u bb σ Q := r_istore (k := 6) (by decide +kernel) (Nat.le_of_ble_eq_true rfl)
theorem k252_896 : qx sc D 252 896 [l0, l1, vr a, l3, l4, l5, l6] st u bb σ Q ↔ qx sc D 252 897 [l0, l1, vr a, l3, l4, l5, l6] (vr a :: st) u bb σ Q := r_aload_n (k := 2) (by decide +kernel) rfl
theorem k252_897 (hu : u.1 + 0 ≤ 601024 ∧ u.2 + 0 ≤ 7293034) : qx sc (D + 1) 252 897 ls [vr 136] u bb σ Q ↔ qx sc D 223 0 [vr 136] [] (0, 0) bb σ (q_kn sc (D + 1) 252 900 ls [] (u.1 + 0, u.2 + 0) Q) := r_callvU (idx := 95) (n := 0) (m := 1) (by decide +kernel) hu rfl (Nat.le_of_ble_eq_true rfl) ⟨Nat.le_of_ble_eq_true rfl, Nat.le_of_ble_eq_true rfl, rfl⟩ rfl
theorem k252_900 : qx sc D 252 900 [l0, l1, l2, l3, l4, vi x, l6] st u bb σ Q ↔ qx sc D 252 902 [l0, l1, l2, l3, l4, vi x, l6] (vi x :: st) u bb σ Q := r_iload (k := 5) (by decide +kernel) rfl
theorem k252_902 : qx sc D 252 902 ls (vi b' :: vi a' :: st) u bb σ Q ↔ (a' = b' → qx sc D 252 907 ls st u bb σ Q) ∧ (¬ (a' = b') → qx sc D 252 905 ls st u bb σ Q) := r_ic_eq (off := 5) (t := 907) (by decide +kernel)
theorem k252_905 : qx sc D 252 905 ls st u bb σ Q ↔ qx sc D 252 906 ls (vi 0 :: st) u bb σ Q := r_iconst (by decide +kernel)
theorem k252_906 (hu : u.1 + 0 ≤ 601024 ∧ u.2 + 0 ≤ 7293034) : qx sc D 252 906 ls [vi x] u bb σ Q ↔ (x = 0 ∨ x = 1) ∧ Q (.inl (some (vi x))) bb σ := r_retB ⟨(by decide +kernel), (by decide +kernel), fit252 hu⟩
theorem k252_907 : qx sc D 252 907 [l0, l1, l2, l3, l4, vi x, l6] st u bb σ Q ↔ qx sc D 252 909 [l0, l1, l2, l3, l4, vi x, l6] (vi x :: st) u bb σ Q := r_iload (k := 5) (by decide +kernel) rfl
theorem k252_909 : qx sc D 252 909 ls (vi x :: st) u bb σ Q ↔ (x = 0 → qx sc D 252 912 ls st u bb σ Q) ∧ (¬ (x = 0) → qx sc D 252 924 ls st u bb σ Q) := r_if_ne (off := 15) (t := 924) (by decide +kernel)
theorem k252_912 : qx sc D 252 912 [l0, l1, l2, vr a, l4, l5, l6] st u bb σ Q ↔ qx sc D 252 913 [l0, l1, l2, vr a, l4, l5, l6] (vr a :: st) u bb σ Q := r_aload_n (k := 3) (by decide +kernel) rfl
theorem k252_913 : qx sc D 252 913 ls st u bb σ Q ↔ qx sc D 252 914 ls (vi 0 :: st) u bb σ Q := r_iconst (by decide +kernel)
theorem k252_914 : qx sc D 252 914 ls (vi i :: vr a :: st) u bb σ Q ↔ (q_ty a = 3 ∧ 0 ≤ i ∧ i < q_ln a) ∧ qx sc D 252 915 ls (vl (σ a i) :: st) u bb σ Q := r_lald (by decide +kernel)
theorem k252_915 : qx sc D 252 915 [l0, l1, l2, l3, l4, l5, vi x] st u bb σ Q ↔ qx sc D 252 917 [l0, l1, l2, l3, l4, l5, vi x] (vi x :: st) u bb σ Q := r_iload (k := 6) (by decide +kernel) rfl
theorem k252_917 : qx sc D 252 917 ls (vi a' :: st) u bb σ Q ↔ qx sc D 252 918 ls (vl a' :: st) u bb σ Q := r_i2l (by decide +kernel)
theorem k252_918 : qx sc D 252 918 ls (vl b' :: vl a' :: st) u bb σ Q ↔ qx sc D 252 919 ls (vi (if b' < a' then 1 else if a' = b' then 0 else -1) :: st) u bb σ Q := r_lcmp (by decide +kernel)
theorem k252_919 : qx sc D 252 919 ls (vi x :: st) u bb σ Q ↔ (x = 0 → qx sc D 252 924 ls st u bb σ Q) ∧ (¬ (x = 0) → qx sc D 252 922 ls st u bb σ Q) := r_if_eq (off := 5) (t := 924) (by decide +kernel)
theorem k252_922 : qx sc D 252 922 ls st u bb σ Q ↔ qx sc D 252 923 ls (vi 0 :: st) u bb σ Q := r_iconst (by decide +kernel)
theorem k252_923 (hu : u.1 + 0 ≤ 601024 ∧ u.2 + 0 ≤ 7293034) : qx sc D 252 923 ls [vi x] u bb σ Q ↔ (x = 0 ∨ x = 1) ∧ Q (.inl (some (vi x))) bb σ := r_retB ⟨(by decide +kernel), (by decide +kernel), fit252 hu⟩
theorem k252_924 : qx sc D 252 924 ls st u bb σ Q ↔ qx sc D 252 1480 ls st u bb σ Q := r_goto (off := 556) (by decide +kernel)
theorem k252_927 : qx sc D 252 927 [l0, vr a, l2, l3, l4, l5, l6] st u bb σ Q ↔ qx sc D 252 928 [l0, vr a, l2, l3, l4, l5, l6] (vr a :: st) u bb σ Q := r_aload_n (k := 1) (by decide +kernel) rfl
theorem k252_928 : qx sc D 252 928 [vr a, l1, l2, l3, l4, l5, l6] st u bb σ Q ↔ qx sc D 252 929 [vr a, l1, l2, l3, l4, l5, l6] (vr a :: st) u bb σ Q := r_aload_n (k := 0) (by decide +kernel) rfl
theorem k252_929 : qx sc D 252 929 [l0, l1, l2, l3, vi x, l5, l6] st u bb σ Q ↔ qx sc D 252 931 [l0, l1, l2, l3, vi x, l5, l6] (vi x :: st) u bb σ Q := r_iload (k := 4) (by decide +kernel) rfl
theorem k252_931 : qx sc D 252 931 ls st u bb σ Q ↔ qx sc D 252 932 ls (vi 1 :: st) u bb σ Q := r_iconst (by decide +kernel)
theorem k252_932 : qx sc D 252 932 ls (vi b' :: vi a' :: st) u bb σ Q ↔ q_R (a' + b') ∧ qx sc D 252 933 ls (vi (a' + b') :: st) u bb σ Q := r_iadd (by decide +kernel)
theorem k252_933 : qx sc D 252 933 ls (vi i :: vr 1000000 :: st) u bb σ Q ↔ (0 ≤ i ∧ i < sc.1) ∧ qx sc D 252 934 ls (vi (sc.2 i.toNat).toInt :: st) u bb σ Q := r_scr (by decide +kernel)
theorem k252_934 : qx sc D 252 934 [vr a, l1, l2, l3, l4, l5, l6] st u bb σ Q ↔ qx sc D 252 935 [vr a, l1, l2, l3, l4, l5, l6] (vr a :: st) u bb σ Q := r_aload_n (k := 0) (by decide +kernel) rfl
theorem k252_935 : qx sc D 252 935 [l0, l1, l2, l3, vi x, l5, l6] st u bb σ Q ↔ qx sc D 252 937 [l0, l1, l2, l3, vi x, l5, l6] (vi x :: st) u bb σ Q := r_iload (k := 4) (by decide +kernel) rfl
theorem k252_937 : qx sc D 252 937 ls st u bb σ Q ↔ qx sc D 252 938 ls (vi 2 :: st) u bb σ Q := r_iconst (by decide +kernel)
theorem k252_938 : qx sc D 252 938 ls (vi b' :: vi a' :: st) u bb σ Q ↔ q_R (a' + b') ∧ qx sc D 252 939 ls (vi (a' + b') :: st) u bb σ Q := r_iadd (by decide +kernel)
theorem k252_939 : qx sc D 252 939 ls (vi i :: vr 1000000 :: st) u bb σ Q ↔ (0 ≤ i ∧ i < sc.1) ∧ qx sc D 252 940 ls (vi (sc.2 i.toNat).toInt :: st) u bb σ Q := r_scr (by decide +kernel)
theorem k252_940 : qx sc D 252 940 [l0, l1, l2, vr a, l4, l5, l6] st u bb σ Q ↔ qx sc D 252 941 [l0, l1, l2, vr a, l4, l5, l6] (vr a :: st) u bb σ Q := r_aload_n (k := 3) (by decide +kernel) rfl
theorem k252_941 (hu : u.1 + 4 ≤ 601024 ∧ u.2 + 24 ≤ 7293034) : qx sc (D + 1) 252 941 ls [vr a3, vi x2, vi x1, vr a0] u bb σ Q ↔ qx sc D 238 0 [vr a0, vi x1, vi x2, vr a3, vn] [] (0, 0) bb σ (q_kn sc (D + 1) 252 944 ls [] (u.1 + 4, u.2 + 24) Q) := r_callsX (idx := 133) (n := 4) (m := 5) (by decide +kernel) hu rfl (Nat.le_of_ble_eq_true rfl) ⟨Nat.le_of_ble_eq_true rfl, Nat.le_of_ble_eq_true rfl, rfl⟩ rfl
theorem k252_944 : qx sc D 252 944 [l0, l1, l2, l3, l4, l5, l6] (vi x :: st) u bb σ Q ↔ qx sc D 252 946 [l0, l1, l2, l3, l4, vi x, l6] st u bb σ Q := r_istore (k := 5) (by decide +kernel) (Nat.le_of_ble_eq_true rfl)
theorem k252_946 : qx sc D 252 946 [l0, l1, vr a, l3, l4, l5, l6] st u bb σ Q ↔ qx sc D 252 947 [l0, l1, vr a, l3, l4, l5, l6] (vr a :: st) u bb σ Q := r_aload_n (k := 2) (by decide +kernel) rfl
theorem k252_947 : qx sc D 252 947 [vr a, l1, l2, l3, l4, l5, l6] st u bb σ Q ↔ qx sc D 252 948 [vr a, l1, l2, l3, l4, l5, l6] (vr a :: st) u bb σ Q := r_aload_n (k := 0) (by decide +kernel) rfl
theorem k252_948 : qx sc D 252 948 [l0, l1, l2, l3, vi x, l5, l6] st u bb σ Q ↔ qx sc D 252 950 [l0, l1, l2, l3, vi x, l5, l6] (vi x :: st) u bb σ Q := r_iload (k := 4) (by decide +kernel) rfl
theorem k252_950 : qx sc D 252 950 ls st u bb σ Q ↔ qx sc D 252 951 ls (vi 1 :: st) u bb σ Q := r_iconst (by decide +kernel)
theorem k252_951 : qx sc D 252 951 ls (vi b' :: vi a' :: st) u bb σ Q ↔ q_R (a' + b') ∧ qx sc D 252 952 ls (vi (a' + b') :: st) u bb σ Q := r_iadd (by decide +kernel)
theorem k252_952 : qx sc D 252 952 ls (vi i :: vr 1000000 :: st) u bb σ Q ↔ (0 ≤ i ∧ i < sc.1) ∧ qx sc D 252 953 ls (vi (sc.2 i.toNat).toInt :: st) u bb σ Q := r_scr (by decide +kernel)
theorem k252_953 : qx sc D 252 953 [vr a, l1, l2, l3, l4, l5, l6] st u bb σ Q ↔ qx sc D 252 954 [vr a, l1, l2, l3, l4, l5, l6] (vr a :: st) u bb σ Q := r_aload_n (k := 0) (by decide +kernel) rfl
theorem k252_954 : qx sc D 252 954 [l0, l1, l2, l3, vi x, l5, l6] st u bb σ Q ↔ qx sc D 252 956 [l0, l1, l2, l3, vi x, l5, l6] (vi x :: st) u bb σ Q := r_iload (k := 4) (by decide +kernel) rfl
theorem k252_956 : qx sc D 252 956 ls st u bb σ Q ↔ qx sc D 252 957 ls (vi 2 :: st) u bb σ Q := r_iconst (by decide +kernel)
theorem k252_957 : qx sc D 252 957 ls (vi b' :: vi a' :: st) u bb σ Q ↔ q_R (a' + b') ∧ qx sc D 252 958 ls (vi (a' + b') :: st) u bb σ Q := r_iadd (by decide +kernel)
theorem k252_958 : qx sc D 252 958 ls (vi i :: vr 1000000 :: st) u bb σ Q ↔ (0 ≤ i ∧ i < sc.1) ∧ qx sc D 252 959 ls (vi (sc.2 i.toNat).toInt :: st) u bb σ Q := r_scr (by decide +kernel)
theorem k252_959 (hu : u.1 + 0 ≤ 601024 ∧ u.2 + 0 ≤ 7293034) : qx sc (D + 1) 252 959 ls [vi x1, vi x0, vr 136] u bb σ Q ↔ qx sc D 175 0 [vr 136, vi x0, vi x1, vn] [] (0, 0) bb σ (q_kn sc (D + 1) 252 962 ls [] (u.1 + 0, u.2 + 0) Q) := r_callvU (idx := 135) (n := 2) (m := 4) (by decide +kernel) hu rfl (Nat.le_of_ble_eq_true rfl) ⟨Nat.le_of_ble_eq_true rfl, Nat.le_of_ble_eq_true rfl, rfl⟩ rfl
theorem k252_962 : qx sc D 252 962 [l0, l1, l2, l3, l4, l5, l6] (vi x :: st) u bb σ Q ↔ qx sc D 252 964 [l0, l1, l2, l3, l4, l5, vi x] st u bb σ Q := r_istore (k := 6) (by decide +kernel) (Nat.le_of_ble_eq_true rfl)
theorem k252_964 : qx sc D 252 964 [l0, l1, vr a, l3, l4, l5, l6] st u bb σ Q ↔ qx sc D 252 965 [l0, l1, vr a, l3, l4, l5, l6] (vr a :: st) u bb σ Q := r_aload_n (k := 2) (by decide +kernel) rfl
theorem k252_965 (hu : u.1 + 0 ≤ 601024 ∧ u.2 + 0 ≤ 7293034) : qx sc (D + 1) 252 965 ls [vr 136] u bb σ Q ↔ qx sc D 223 0 [vr 136] [] (0, 0) bb σ (q_kn sc (D + 1) 252 968 ls [] (u.1 + 0, u.2 + 0) Q) := r_callvU (idx := 95) (n := 0) (m := 1) (by decide +kernel) hu rfl (Nat.le_of_ble_eq_true rfl) ⟨Nat.le_of_ble_eq_true rfl, Nat.le_of_ble_eq_true rfl, rfl⟩ rfl
theorem k252_968 : qx sc D 252 968 [l0, l1, l2, l3, l4, vi x, l6] st u bb σ Q ↔ qx sc D 252 970 [l0, l1, l2, l3, l4, vi x, l6] (vi x :: st) u bb σ Q := r_iload (k := 5) (by decide +kernel) rfl
theorem k252_970 : qx sc D 252 970 ls (vi b' :: vi a' :: st) u bb σ Q ↔ (a' = b' → qx sc D 252 975 ls st u bb σ Q) ∧ (¬ (a' = b') → qx sc D 252 973 ls st u bb σ Q) := r_ic_eq (off := 5) (t := 975) (by decide +kernel)
theorem k252_973 : qx sc D 252 973 ls st u bb σ Q ↔ qx sc D 252 974 ls (vi 0 :: st) u bb σ Q := r_iconst (by decide +kernel)
theorem k252_974 (hu : u.1 + 0 ≤ 601024 ∧ u.2 + 0 ≤ 7293034) : qx sc D 252 974 ls [vi x] u bb σ Q ↔ (x = 0 ∨ x = 1) ∧ Q (.inl (some (vi x))) bb σ := r_retB ⟨(by decide +kernel), (by decide +kernel), fit252 hu⟩
theorem k252_975 : qx sc D 252 975 [l0, l1, l2, l3, l4, vi x, l6] st u bb σ Q ↔ qx sc D 252 977 [l0, l1, l2, l3, l4, vi x, l6] (vi x :: st) u bb σ Q := r_iload (k := 5) (by decide +kernel) rfl
theorem k252_977 : qx sc D 252 977 ls (vi x :: st) u bb σ Q ↔ (x = 0 → qx sc D 252 980 ls st u bb σ Q) ∧ (¬ (x = 0) → qx sc D 252 992 ls st u bb σ Q) := r_if_ne (off := 15) (t := 992) (by decide +kernel)
theorem k252_980 : qx sc D 252 980 [l0, l1, l2, vr a, l4, l5, l6] st u bb σ Q ↔ qx sc D 252 981 [l0, l1, l2, vr a, l4, l5, l6] (vr a :: st) u bb σ Q := r_aload_n (k := 3) (by decide +kernel) rfl
theorem k252_981 : qx sc D 252 981 ls st u bb σ Q ↔ qx sc D 252 982 ls (vi 0 :: st) u bb σ Q := r_iconst (by decide +kernel)
theorem k252_982 : qx sc D 252 982 ls (vi i :: vr a :: st) u bb σ Q ↔ (q_ty a = 3 ∧ 0 ≤ i ∧ i < q_ln a) ∧ qx sc D 252 983 ls (vl (σ a i) :: st) u bb σ Q := r_lald (by decide +kernel)
theorem k252_983 : qx sc D 252 983 [l0, l1, l2, l3, l4, l5, vi x] st u bb σ Q ↔ qx sc D 252 985 [l0, l1, l2, l3, l4, l5, vi x] (vi x :: st) u bb σ Q := r_iload (k := 6) (by decide +kernel) rfl
theorem k252_985 : qx sc D 252 985 ls (vi a' :: st) u bb σ Q ↔ qx sc D 252 986 ls (vl a' :: st) u bb σ Q := r_i2l (by decide +kernel)
theorem k252_986 : qx sc D 252 986 ls (vl b' :: vl a' :: st) u bb σ Q ↔ qx sc D 252 987 ls (vi (if b' < a' then 1 else if a' = b' then 0 else -1) :: st) u bb σ Q := r_lcmp (by decide +kernel)
theorem k252_987 : qx sc D 252 987 ls (vi x :: st) u bb σ Q ↔ (x = 0 → qx sc D 252 992 ls st u bb σ Q) ∧ (¬ (x = 0) → qx sc D 252 990 ls st u bb σ Q) := r_if_eq (off := 5) (t := 992) (by decide +kernel)
theorem k252_990 : qx sc D 252 990 ls st u bb σ Q ↔ qx sc D 252 991 ls (vi 0 :: st) u bb σ Q := r_iconst (by decide +kernel)
theorem k252_991 (hu : u.1 + 0 ≤ 601024 ∧ u.2 + 0 ≤ 7293034) : qx sc D 252 991 ls [vi x] u bb σ Q ↔ (x = 0 ∨ x = 1) ∧ Q (.inl (some (vi x))) bb σ := r_retB ⟨(by decide +kernel), (by decide +kernel), fit252 hu⟩
theorem k252_992 : qx sc D 252 992 ls st u bb σ Q ↔ qx sc D 252 1480 ls st u bb σ Q := r_goto (off := 488) (by decide +kernel)
theorem k252_995 : qx sc D 252 995 [l0, vr a, l2, l3, l4, l5, l6] st u bb σ Q ↔ qx sc D 252 996 [l0, vr a, l2, l3, l4, l5, l6] (vr a :: st) u bb σ Q := r_aload_n (k := 1) (by decide +kernel) rfl
theorem k252_996 : qx sc D 252 996 [vr a, l1, l2, l3, l4, l5, l6] st u bb σ Q ↔ qx sc D 252 997 [vr a, l1, l2, l3, l4, l5, l6] (vr a :: st) u bb σ Q := r_aload_n (k := 0) (by decide +kernel) rfl
theorem k252_997 : qx sc D 252 997 [l0, l1, l2, l3, vi x, l5, l6] st u bb σ Q ↔ qx sc D 252 999 [l0, l1, l2, l3, vi x, l5, l6] (vi x :: st) u bb σ Q := r_iload (k := 4) (by decide +kernel) rfl
theorem k252_999 : qx sc D 252 999 ls st u bb σ Q ↔ qx sc D 252 1000 ls (vi 1 :: st) u bb σ Q := r_iconst (by decide +kernel)
theorem k252_1000 : qx sc D 252 1000 ls (vi b' :: vi a' :: st) u bb σ Q ↔ q_R (a' + b') ∧ qx sc D 252 1001 ls (vi (a' + b') :: st) u bb σ Q := r_iadd (by decide +kernel)
theorem k252_1001 : qx sc D 252 1001 ls (vi i :: vr 1000000 :: st) u bb σ Q ↔ (0 ≤ i ∧ i < sc.1) ∧ qx sc D 252 1002 ls (vi (sc.2 i.toNat).toInt :: st) u bb σ Q := r_scr (by decide +kernel)
theorem k252_1002 : qx sc D 252 1002 [vr a, l1, l2, l3, l4, l5, l6] st u bb σ Q ↔ qx sc D 252 1003 [vr a, l1, l2, l3, l4, l5, l6] (vr a :: st) u bb σ Q := r_aload_n (k := 0) (by decide +kernel) rfl
theorem k252_1003 : qx sc D 252 1003 [l0, l1, l2, l3, vi x, l5, l6] st u bb σ Q ↔ qx sc D 252 1005 [l0, l1, l2, l3, vi x, l5, l6] (vi x :: st) u bb σ Q := r_iload (k := 4) (by decide +kernel) rfl
theorem k252_1005 : qx sc D 252 1005 ls st u bb σ Q ↔ qx sc D 252 1006 ls (vi 2 :: st) u bb σ Q := r_iconst (by decide +kernel)
theorem k252_1006 : qx sc D 252 1006 ls (vi b' :: vi a' :: st) u bb σ Q ↔ q_R (a' + b') ∧ qx sc D 252 1007 ls (vi (a' + b') :: st) u bb σ Q := r_iadd (by decide +kernel)
theorem k252_1007 : qx sc D 252 1007 ls (vi i :: vr 1000000 :: st) u bb σ Q ↔ (0 ≤ i ∧ i < sc.1) ∧ qx sc D 252 1008 ls (vi (sc.2 i.toNat).toInt :: st) u bb σ Q := r_scr (by decide +kernel)
theorem k252_1008 : qx sc D 252 1008 [l0, l1, l2, vr a, l4, l5, l6] st u bb σ Q ↔ qx sc D 252 1009 [l0, l1, l2, vr a, l4, l5, l6] (vr a :: st) u bb σ Q := r_aload_n (k := 3) (by decide +kernel) rfl
theorem k252_1009 (hu : u.1 + 4 ≤ 601024 ∧ u.2 + 24 ≤ 7293034) : qx sc (D + 1) 252 1009 ls [vr a3, vi x2, vi x1, vr a0] u bb σ Q ↔ qx sc D 237 0 [vr a0, vi x1, vi x2, vr a3, vn] [] (0, 0) bb σ (q_kn sc (D + 1) 252 1012 ls [] (u.1 + 4, u.2 + 24) Q) := r_callsX (idx := 136) (n := 4) (m := 5) (by decide +kernel) hu rfl (Nat.le_of_ble_eq_true rfl) ⟨Nat.le_of_ble_eq_true rfl, Nat.le_of_ble_eq_true rfl, rfl⟩ rfl
theorem k252_1012 : qx sc D 252 1012 [l0, l1, l2, l3, l4, l5, l6] (vi x :: st) u bb σ Q ↔ qx sc D 252 1014 [l0, l1, l2, l3, l4, vi x, l6] st u bb σ Q := r_istore (k := 5) (by decide +kernel) (Nat.le_of_ble_eq_true rfl)
theorem k252_1014 : qx sc D 252 1014 [l0, l1, vr a, l3, l4, l5, l6] st u bb σ Q ↔ qx sc D 252 1015 [l0, l1, vr a, l3, l4, l5, l6] (vr a :: st) u bb σ Q := r_aload_n (k := 2) (by decide +kernel) rfl
theorem k252_1015 : qx sc D 252 1015 [vr a, l1, l2, l3, l4, l5, l6] st u bb σ Q ↔ qx sc D 252 1016 [vr a, l1, l2, l3, l4, l5, l6] (vr a :: st) u bb σ Q := r_aload_n (k := 0) (by decide +kernel) rfl
theorem k252_1016 : qx sc D 252 1016 [l0, l1, l2, l3, vi x, l5, l6] st u bb σ Q ↔ qx sc D 252 1018 [l0, l1, l2, l3, vi x, l5, l6] (vi x :: st) u bb σ Q := r_iload (k := 4) (by decide +kernel) rfl
theorem k252_1018 : qx sc D 252 1018 ls st u bb σ Q ↔ qx sc D 252 1019 ls (vi 1 :: st) u bb σ Q := r_iconst (by decide +kernel)
theorem k252_1019 : qx sc D 252 1019 ls (vi b' :: vi a' :: st) u bb σ Q ↔ q_R (a' + b') ∧ qx sc D 252 1020 ls (vi (a' + b') :: st) u bb σ Q := r_iadd (by decide +kernel)
theorem k252_1020 : qx sc D 252 1020 ls (vi i :: vr 1000000 :: st) u bb σ Q ↔ (0 ≤ i ∧ i < sc.1) ∧ qx sc D 252 1021 ls (vi (sc.2 i.toNat).toInt :: st) u bb σ Q := r_scr (by decide +kernel)
theorem k252_1021 : qx sc D 252 1021 [vr a, l1, l2, l3, l4, l5, l6] st u bb σ Q ↔ qx sc D 252 1022 [vr a, l1, l2, l3, l4, l5, l6] (vr a :: st) u bb σ Q := r_aload_n (k := 0) (by decide +kernel) rfl
theorem k252_1022 : qx sc D 252 1022 [l0, l1, l2, l3, vi x, l5, l6] st u bb σ Q ↔ qx sc D 252 1024 [l0, l1, l2, l3, vi x, l5, l6] (vi x :: st) u bb σ Q := r_iload (k := 4) (by decide +kernel) rfl
theorem k252_1024 : qx sc D 252 1024 ls st u bb σ Q ↔ qx sc D 252 1025 ls (vi 2 :: st) u bb σ Q := r_iconst (by decide +kernel)
theorem k252_1025 : qx sc D 252 1025 ls (vi b' :: vi a' :: st) u bb σ Q ↔ q_R (a' + b') ∧ qx sc D 252 1026 ls (vi (a' + b') :: st) u bb σ Q := r_iadd (by decide +kernel)
theorem k252_1026 : qx sc D 252 1026 ls (vi i :: vr 1000000 :: st) u bb σ Q ↔ (0 ≤ i ∧ i < sc.1) ∧ qx sc D 252 1027 ls (vi (sc.2 i.toNat).toInt :: st) u bb σ Q := r_scr (by decide +kernel)
theorem k252_1027 (hu : u.1 + 0 ≤ 601024 ∧ u.2 + 0 ≤ 7293034) : qx sc (D + 1) 252 1027 ls [vi x1, vi x0, vr 136] u bb σ Q ↔ qx sc D 158 0 [vr 136, vi x0, vi x1, vn] [] (0, 0) bb σ (q_kn sc (D + 1) 252 1030 ls [] (u.1 + 0, u.2 + 0) Q) := r_callvU (idx := 138) (n := 2) (m := 4) (by decide +kernel) hu rfl (Nat.le_of_ble_eq_true rfl) ⟨Nat.le_of_ble_eq_true rfl, Nat.le_of_ble_eq_true rfl, rfl⟩ rfl
theorem k252_1030 : qx sc D 252 1030 [l0, l1, l2, l3, l4, l5, l6] (vi x :: st) u bb σ Q ↔ qx sc D 252 1032 [l0, l1, l2, l3, l4, l5, vi x] st u bb σ Q := r_istore (k := 6) (by decide +kernel) (Nat.le_of_ble_eq_true rfl)
theorem k252_1032 : qx sc D 252 1032 [l0, l1, vr a, l3, l4, l5, l6] st u bb σ Q ↔ qx sc D 252 1033 [l0, l1, vr a, l3, l4, l5, l6] (vr a :: st) u bb σ Q := r_aload_n (k := 2) (by decide +kernel) rfl
theorem k252_1033 (hu : u.1 + 0 ≤ 601024 ∧ u.2 + 0 ≤ 7293034) : qx sc (D + 1) 252 1033 ls [vr 136] u bb σ Q ↔ qx sc D 223 0 [vr 136] [] (0, 0) bb σ (q_kn sc (D + 1) 252 1036 ls [] (u.1 + 0, u.2 + 0) Q) := r_callvU (idx := 95) (n := 0) (m := 1) (by decide +kernel) hu rfl (Nat.le_of_ble_eq_true rfl) ⟨Nat.le_of_ble_eq_true rfl, Nat.le_of_ble_eq_true rfl, rfl⟩ rfl
theorem k252_1036 : qx sc D 252 1036 [l0, l1, l2, l3, l4, vi x, l6] st u bb σ Q ↔ qx sc D 252 1038 [l0, l1, l2, l3, l4, vi x, l6] (vi x :: st) u bb σ Q := r_iload (k := 5) (by decide +kernel) rfl
theorem k252_1038 : qx sc D 252 1038 ls (vi b' :: vi a' :: st) u bb σ Q ↔ (a' = b' → qx sc D 252 1043 ls st u bb σ Q) ∧ (¬ (a' = b') → qx sc D 252 1041 ls st u bb σ Q) := r_ic_eq (off := 5) (t := 1043) (by decide +kernel)
theorem k252_1041 : qx sc D 252 1041 ls st u bb σ Q ↔ qx sc D 252 1042 ls (vi 0 :: st) u bb σ Q := r_iconst (by decide +kernel)
theorem k252_1042 (hu : u.1 + 0 ≤ 601024 ∧ u.2 + 0 ≤ 7293034) : qx sc D 252 1042 ls [vi x] u bb σ Q ↔ (x = 0 ∨ x = 1) ∧ Q (.inl (some (vi x))) bb σ := r_retB ⟨(by decide +kernel), (by decide +kernel), fit252 hu⟩
theorem k252_1043 : qx sc D 252 1043 [l0, l1, l2, l3, l4, vi x, l6] st u bb σ Q ↔ qx sc D 252 1045 [l0, l1, l2, l3, l4, vi x, l6] (vi x :: st) u bb σ Q := r_iload (k := 5) (by decide +kernel) rfl
theorem k252_1045 : qx sc D 252 1045 ls (vi x :: st) u bb σ Q ↔ (x = 0 → qx sc D 252 1048 ls st u bb σ Q) ∧ (¬ (x = 0) → qx sc D 252 1060 ls st u bb σ Q) := r_if_ne (off := 15) (t := 1060) (by decide +kernel)
theorem k252_1048 : qx sc D 252 1048 [l0, l1, l2, vr a, l4, l5, l6] st u bb σ Q ↔ qx sc D 252 1049 [l0, l1, l2, vr a, l4, l5, l6] (vr a :: st) u bb σ Q := r_aload_n (k := 3) (by decide +kernel) rfl
theorem k252_1049 : qx sc D 252 1049 ls st u bb σ Q ↔ qx sc D 252 1050 ls (vi 0 :: st) u bb σ Q := r_iconst (by decide +kernel)
theorem k252_1050 : qx sc D 252 1050 ls (vi i :: vr a :: st) u bb σ Q ↔ (q_ty a = 3 ∧ 0 ≤ i ∧ i < q_ln a) ∧ qx sc D 252 1051 ls (vl (σ a i) :: st) u bb σ Q := r_lald (by decide +kernel)
theorem k252_1051 : qx sc D 252 1051 [l0, l1, l2, l3, l4, l5, vi x] st u bb σ Q ↔ qx sc D 252 1053 [l0, l1, l2, l3, l4, l5, vi x] (vi x :: st) u bb σ Q := r_iload (k := 6) (by decide +kernel) rfl
theorem k252_1053 : qx sc D 252 1053 ls (vi a' :: st) u bb σ Q ↔ qx sc D 252 1054 ls (vl a' :: st) u bb σ Q := r_i2l (by decide +kernel)
theorem k252_1054 : qx sc D 252 1054 ls (vl b' :: vl a' :: st) u bb σ Q ↔ qx sc D 252 1055 ls (vi (if b' < a' then 1 else if a' = b' then 0 else -1) :: st) u bb σ Q := r_lcmp (by decide +kernel)
theorem k252_1055 : qx sc D 252 1055 ls (vi x :: st) u bb σ Q ↔ (x = 0 → qx sc D 252 1060 ls st u bb σ Q) ∧ (¬ (x = 0) → qx sc D 252 1058 ls st u bb σ Q) := r_if_eq (off := 5) (t := 1060) (by decide +kernel)
theorem k252_1058 : qx sc D 252 1058 ls st u bb σ Q ↔ qx sc D 252 1059 ls (vi 0 :: st) u bb σ Q := r_iconst (by decide +kernel)
theorem k252_1059 (hu : u.1 + 0 ≤ 601024 ∧ u.2 + 0 ≤ 7293034) : qx sc D 252 1059 ls [vi x] u bb σ Q ↔ (x = 0 ∨ x = 1) ∧ Q (.inl (some (vi x))) bb σ := r_retB ⟨(by decide +kernel), (by decide +kernel), fit252 hu⟩
theorem k252_1060 : qx sc D 252 1060 ls st u bb σ Q ↔ qx sc D 252 1480 ls st u bb σ Q := r_goto (off := 420) (by decide +kernel)
theorem k252_1063 : qx sc D 252 1063 [l0, vr a, l2, l3, l4, l5, l6] st u bb σ Q ↔ qx sc D 252 1064 [l0, vr a, l2, l3, l4, l5, l6] (vr a :: st) u bb σ Q := r_aload_n (k := 1) (by decide +kernel) rfl
theorem k252_1064 : qx sc D 252 1064 [vr a, l1, l2, l3, l4, l5, l6] st u bb σ Q ↔ qx sc D 252 1065 [vr a, l1, l2, l3, l4, l5, l6] (vr a :: st) u bb σ Q := r_aload_n (k := 0) (by decide +kernel) rfl
theorem k252_1065 : qx sc D 252 1065 [l0, l1, l2, l3, vi x, l5, l6] st u bb σ Q ↔ qx sc D 252 1067 [l0, l1, l2, l3, vi x, l5, l6] (vi x :: st) u bb σ Q := r_iload (k := 4) (by decide +kernel) rfl
theorem k252_1067 : qx sc D 252 1067 ls st u bb σ Q ↔ qx sc D 252 1068 ls (vi 1 :: st) u bb σ Q := r_iconst (by decide +kernel)
theorem k252_1068 : qx sc D 252 1068 ls (vi b' :: vi a' :: st) u bb σ Q ↔ q_R (a' + b') ∧ qx sc D 252 1069 ls (vi (a' + b') :: st) u bb σ Q := r_iadd (by decide +kernel)
theorem k252_1069 : qx sc D 252 1069 ls (vi i :: vr 1000000 :: st) u bb σ Q ↔ (0 ≤ i ∧ i < sc.1) ∧ qx sc D 252 1070 ls (vi (sc.2 i.toNat).toInt :: st) u bb σ Q := r_scr (by decide +kernel)
theorem k252_1070 : qx sc D 252 1070 [vr a, l1, l2, l3, l4, l5, l6] st u bb σ Q ↔ qx sc D 252 1071 [vr a, l1, l2, l3, l4, l5, l6] (vr a :: st) u bb σ Q := r_aload_n (k := 0) (by decide +kernel) rfl
theorem k252_1071 : qx sc D 252 1071 [l0, l1, l2, l3, vi x, l5, l6] st u bb σ Q ↔ qx sc D 252 1073 [l0, l1, l2, l3, vi x, l5, l6] (vi x :: st) u bb σ Q := r_iload (k := 4) (by decide +kernel) rfl
theorem k252_1073 : qx sc D 252 1073 ls st u bb σ Q ↔ qx sc D 252 1074 ls (vi 2 :: st) u bb σ Q := r_iconst (by decide +kernel)
theorem k252_1074 : qx sc D 252 1074 ls (vi b' :: vi a' :: st) u bb σ Q ↔ q_R (a' + b') ∧ qx sc D 252 1075 ls (vi (a' + b') :: st) u bb σ Q := r_iadd (by decide +kernel)
theorem k252_1075 : qx sc D 252 1075 ls (vi i :: vr 1000000 :: st) u bb σ Q ↔ (0 ≤ i ∧ i < sc.1) ∧ qx sc D 252 1076 ls (vi (sc.2 i.toNat).toInt :: st) u bb σ Q := r_scr (by decide +kernel)
theorem k252_1076 : qx sc D 252 1076 [l0, l1, l2, vr a, l4, l5, l6] st u bb σ Q ↔ qx sc D 252 1077 [l0, l1, l2, vr a, l4, l5, l6] (vr a :: st) u bb σ Q := r_aload_n (k := 3) (by decide +kernel) rfl
theorem k252_1077 (hu : u.1 + 4 ≤ 601024 ∧ u.2 + 24 ≤ 7293034) : qx sc (D + 1) 252 1077 ls [vr a3, vi x2, vi x1, vr a0] u bb σ Q ↔ qx sc D 243 0 [vr a0, vi x1, vi x2, vr a3, vn] [] (0, 0) bb σ (q_kn sc (D + 1) 252 1080 ls [] (u.1 + 4, u.2 + 24) Q) := r_callsX (idx := 139) (n := 4) (m := 5) (by decide +kernel) hu rfl (Nat.le_of_ble_eq_true rfl) ⟨Nat.le_of_ble_eq_true rfl, Nat.le_of_ble_eq_true rfl, rfl⟩ rfl
theorem k252_1080 : qx sc D 252 1080 [l0, l1, l2, l3, l4, l5, l6] (vi x :: st) u bb σ Q ↔ qx sc D 252 1082 [l0, l1, l2, l3, l4, vi x, l6] st u bb σ Q := r_istore (k := 5) (by decide +kernel) (Nat.le_of_ble_eq_true rfl)
theorem k252_1082 : qx sc D 252 1082 [l0, l1, vr a, l3, l4, l5, l6] st u bb σ Q ↔ qx sc D 252 1083 [l0, l1, vr a, l3, l4, l5, l6] (vr a :: st) u bb σ Q := r_aload_n (k := 2) (by decide +kernel) rfl
theorem k252_1083 : qx sc D 252 1083 [vr a, l1, l2, l3, l4, l5, l6] st u bb σ Q ↔ qx sc D 252 1084 [vr a, l1, l2, l3, l4, l5, l6] (vr a :: st) u bb σ Q := r_aload_n (k := 0) (by decide +kernel) rfl
theorem k252_1084 : qx sc D 252 1084 [l0, l1, l2, l3, vi x, l5, l6] st u bb σ Q ↔ qx sc D 252 1086 [l0, l1, l2, l3, vi x, l5, l6] (vi x :: st) u bb σ Q := r_iload (k := 4) (by decide +kernel) rfl
theorem k252_1086 : qx sc D 252 1086 ls st u bb σ Q ↔ qx sc D 252 1087 ls (vi 1 :: st) u bb σ Q := r_iconst (by decide +kernel)
theorem k252_1087 : qx sc D 252 1087 ls (vi b' :: vi a' :: st) u bb σ Q ↔ q_R (a' + b') ∧ qx sc D 252 1088 ls (vi (a' + b') :: st) u bb σ Q := r_iadd (by decide +kernel)
theorem k252_1088 : qx sc D 252 1088 ls (vi i :: vr 1000000 :: st) u bb σ Q ↔ (0 ≤ i ∧ i < sc.1) ∧ qx sc D 252 1089 ls (vi (sc.2 i.toNat).toInt :: st) u bb σ Q := r_scr (by decide +kernel)
theorem k252_1089 : qx sc D 252 1089 [vr a, l1, l2, l3, l4, l5, l6] st u bb σ Q ↔ qx sc D 252 1090 [vr a, l1, l2, l3, l4, l5, l6] (vr a :: st) u bb σ Q := r_aload_n (k := 0) (by decide +kernel) rfl
theorem k252_1090 : qx sc D 252 1090 [l0, l1, l2, l3, vi x, l5, l6] st u bb σ Q ↔ qx sc D 252 1092 [l0, l1, l2, l3, vi x, l5, l6] (vi x :: st) u bb σ Q := r_iload (k := 4) (by decide +kernel) rfl
theorem k252_1092 : qx sc D 252 1092 ls st u bb σ Q ↔ qx sc D 252 1093 ls (vi 2 :: st) u bb σ Q := r_iconst (by decide +kernel)
theorem k252_1093 : qx sc D 252 1093 ls (vi b' :: vi a' :: st) u bb σ Q ↔ q_R (a' + b') ∧ qx sc D 252 1094 ls (vi (a' + b') :: st) u bb σ Q := r_iadd (by decide +kernel)
theorem k252_1094 : qx sc D 252 1094 ls (vi i :: vr 1000000 :: st) u bb σ Q ↔ (0 ≤ i ∧ i < sc.1) ∧ qx sc D 252 1095 ls (vi (sc.2 i.toNat).toInt :: st) u bb σ Q := r_scr (by decide +kernel)
theorem k252_1095 (hu : u.1 + 0 ≤ 601024 ∧ u.2 + 0 ≤ 7293034) : qx sc (D + 1) 252 1095 ls [vi x1, vi x0, vr 136] u bb σ Q ↔ qx sc D 208 0 [vr 136, vi x0, vi x1] [] (0, 0) bb σ (q_kn sc (D + 1) 252 1098 ls [] (u.1 + 0, u.2 + 0) Q) := r_callvU (idx := 141) (n := 2) (m := 3) (by decide +kernel) hu rfl (Nat.le_of_ble_eq_true rfl) ⟨Nat.le_of_ble_eq_true rfl, Nat.le_of_ble_eq_true rfl, rfl⟩ rfl
theorem k252_1098 : qx sc D 252 1098 [l0, l1, l2, l3, l4, l5, l6] (vi x :: st) u bb σ Q ↔ qx sc D 252 1100 [l0, l1, l2, l3, l4, l5, vi x] st u bb σ Q := r_istore (k := 6) (by decide +kernel) (Nat.le_of_ble_eq_true rfl)
theorem k252_1100 : qx sc D 252 1100 [l0, l1, vr a, l3, l4, l5, l6] st u bb σ Q ↔ qx sc D 252 1101 [l0, l1, vr a, l3, l4, l5, l6] (vr a :: st) u bb σ Q := r_aload_n (k := 2) (by decide +kernel) rfl
theorem k252_1101 (hu : u.1 + 0 ≤ 601024 ∧ u.2 + 0 ≤ 7293034) : qx sc (D + 1) 252 1101 ls [vr 136] u bb σ Q ↔ qx sc D 223 0 [vr 136] [] (0, 0) bb σ (q_kn sc (D + 1) 252 1104 ls [] (u.1 + 0, u.2 + 0) Q) := r_callvU (idx := 95) (n := 0) (m := 1) (by decide +kernel) hu rfl (Nat.le_of_ble_eq_true rfl) ⟨Nat.le_of_ble_eq_true rfl, Nat.le_of_ble_eq_true rfl, rfl⟩ rfl
theorem k252_1104 : qx sc D 252 1104 [l0, l1, l2, l3, l4, vi x, l6] st u bb σ Q ↔ qx sc D 252 1106 [l0, l1, l2, l3, l4, vi x, l6] (vi x :: st) u bb σ Q := r_iload (k := 5) (by decide +kernel) rfl
theorem k252_1106 : qx sc D 252 1106 ls (vi b' :: vi a' :: st) u bb σ Q ↔ (a' = b' → qx sc D 252 1111 ls st u bb σ Q) ∧ (¬ (a' = b') → qx sc D 252 1109 ls st u bb σ Q) := r_ic_eq (off := 5) (t := 1111) (by decide +kernel)
theorem k252_1109 : qx sc D 252 1109 ls st u bb σ Q ↔ qx sc D 252 1110 ls (vi 0 :: st) u bb σ Q := r_iconst (by decide +kernel)
theorem k252_1110 (hu : u.1 + 0 ≤ 601024 ∧ u.2 + 0 ≤ 7293034) : qx sc D 252 1110 ls [vi x] u bb σ Q ↔ (x = 0 ∨ x = 1) ∧ Q (.inl (some (vi x))) bb σ := r_retB ⟨(by decide +kernel), (by decide +kernel), fit252 hu⟩
theorem k252_1111 : qx sc D 252 1111 [l0, l1, l2, l3, l4, vi x, l6] st u bb σ Q ↔ qx sc D 252 1113 [l0, l1, l2, l3, l4, vi x, l6] (vi x :: st) u bb σ Q := r_iload (k := 5) (by decide +kernel) rfl
theorem k252_1113 : qx sc D 252 1113 ls (vi x :: st) u bb σ Q ↔ (x = 0 → qx sc D 252 1116 ls st u bb σ Q) ∧ (¬ (x = 0) → qx sc D 252 1128 ls st u bb σ Q) := r_if_ne (off := 15) (t := 1128) (by decide +kernel)
theorem k252_1116 : qx sc D 252 1116 [l0, l1, l2, vr a, l4, l5, l6] st u bb σ Q ↔ qx sc D 252 1117 [l0, l1, l2, vr a, l4, l5, l6] (vr a :: st) u bb σ Q := r_aload_n (k := 3) (by decide +kernel) rfl
theorem k252_1117 : qx sc D 252 1117 ls st u bb σ Q ↔ qx sc D 252 1118 ls (vi 0 :: st) u bb σ Q := r_iconst (by decide +kernel)
theorem k252_1118 : qx sc D 252 1118 ls (vi i :: vr a :: st) u bb σ Q ↔ (q_ty a = 3 ∧ 0 ≤ i ∧ i < q_ln a) ∧ qx sc D 252 1119 ls (vl (σ a i) :: st) u bb σ Q := r_lald (by decide +kernel)
theorem k252_1119 : qx sc D 252 1119 [l0, l1, l2, l3, l4, l5, vi x] st u bb σ Q ↔ qx sc D 252 1121 [l0, l1, l2, l3, l4, l5, vi x] (vi x :: st) u bb σ Q := r_iload (k := 6) (by decide +kernel) rfl
theorem k252_1121 : qx sc D 252 1121 ls (vi a' :: st) u bb σ Q ↔ qx sc D 252 1122 ls (vl a' :: st) u bb σ Q := r_i2l (by decide +kernel)
theorem k252_1122 : qx sc D 252 1122 ls (vl b' :: vl a' :: st) u bb σ Q ↔ qx sc D 252 1123 ls (vi (if b' < a' then 1 else if a' = b' then 0 else -1) :: st) u bb σ Q := r_lcmp (by decide +kernel)
theorem k252_1123 : qx sc D 252 1123 ls (vi x :: st) u bb σ Q ↔ (x = 0 → qx sc D 252 1128 ls st u bb σ Q) ∧ (¬ (x = 0) → qx sc D 252 1126 ls st u bb σ Q) := r_if_eq (off := 5) (t := 1128) (by decide +kernel)
theorem k252_1126 : qx sc D 252 1126 ls st u bb σ Q ↔ qx sc D 252 1127 ls (vi 0 :: st) u bb σ Q := r_iconst (by decide +kernel)
theorem k252_1127 (hu : u.1 + 0 ≤ 601024 ∧ u.2 + 0 ≤ 7293034) : qx sc D 252 1127 ls [vi x] u bb σ Q ↔ (x = 0 ∨ x = 1) ∧ Q (.inl (some (vi x))) bb σ := r_retB ⟨(by decide +kernel), (by decide +kernel), fit252 hu⟩
theorem k252_1128 : qx sc D 252 1128 ls st u bb σ Q ↔ qx sc D 252 1480 ls st u bb σ Q := r_goto (off := 352) (by decide +kernel)
theorem k252_1131 : qx sc D 252 1131 [l0, vr a, l2, l3, l4, l5, l6] st u bb σ Q ↔ qx sc D 252 1132 [l0, vr a, l2, l3, l4, l5, l6] (vr a :: st) u bb σ Q := r_aload_n (k := 1) (by decide +kernel) rfl
theorem k252_1132 : qx sc D 252 1132 [vr a, l1, l2, l3, l4, l5, l6] st u bb σ Q ↔ qx sc D 252 1133 [vr a, l1, l2, l3, l4, l5, l6] (vr a :: st) u bb σ Q := r_aload_n (k := 0) (by decide +kernel) rfl
theorem k252_1133 : qx sc D 252 1133 [l0, l1, l2, l3, vi x, l5, l6] st u bb σ Q ↔ qx sc D 252 1135 [l0, l1, l2, l3, vi x, l5, l6] (vi x :: st) u bb σ Q := r_iload (k := 4) (by decide +kernel) rfl
theorem k252_1135 : qx sc D 252 1135 ls st u bb σ Q ↔ qx sc D 252 1136 ls (vi 1 :: st) u bb σ Q := r_iconst (by decide +kernel)
theorem k252_1136 : qx sc D 252 1136 ls (vi b' :: vi a' :: st) u bb σ Q ↔ q_R (a' + b') ∧ qx sc D 252 1137 ls (vi (a' + b') :: st) u bb σ Q := r_iadd (by decide +kernel)
theorem k252_1137 : qx sc D 252 1137 ls (vi i :: vr 1000000 :: st) u bb σ Q ↔ (0 ≤ i ∧ i < sc.1) ∧ qx sc D 252 1138 ls (vi (sc.2 i.toNat).toInt :: st) u bb σ Q := r_scr (by decide +kernel)
theorem k252_1138 : qx sc D 252 1138 [vr a, l1, l2, l3, l4, l5, l6] st u bb σ Q ↔ qx sc D 252 1139 [vr a, l1, l2, l3, l4, l5, l6] (vr a :: st) u bb σ Q := r_aload_n (k := 0) (by decide +kernel) rfl
theorem k252_1139 : qx sc D 252 1139 [l0, l1, l2, l3, vi x, l5, l6] st u bb σ Q ↔ qx sc D 252 1141 [l0, l1, l2, l3, vi x, l5, l6] (vi x :: st) u bb σ Q := r_iload (k := 4) (by decide +kernel) rfl
theorem k252_1141 : qx sc D 252 1141 ls st u bb σ Q ↔ qx sc D 252 1142 ls (vi 2 :: st) u bb σ Q := r_iconst (by decide +kernel)
theorem k252_1142 : qx sc D 252 1142 ls (vi b' :: vi a' :: st) u bb σ Q ↔ q_R (a' + b') ∧ qx sc D 252 1143 ls (vi (a' + b') :: st) u bb σ Q := r_iadd (by decide +kernel)
theorem k252_1143 : qx sc D 252 1143 ls (vi i :: vr 1000000 :: st) u bb σ Q ↔ (0 ≤ i ∧ i < sc.1) ∧ qx sc D 252 1144 ls (vi (sc.2 i.toNat).toInt :: st) u bb σ Q := r_scr (by decide +kernel)
theorem k252_1144 : qx sc D 252 1144 [l0, l1, l2, vr a, l4, l5, l6] st u bb σ Q ↔ qx sc D 252 1145 [l0, l1, l2, vr a, l4, l5, l6] (vr a :: st) u bb σ Q := r_aload_n (k := 3) (by decide +kernel) rfl
theorem k252_1145 (hu : u.1 + 4 ≤ 601024 ∧ u.2 + 24 ≤ 7293034) : qx sc (D + 1) 252 1145 ls [vr a3, vi x2, vi x1, vr a0] u bb σ Q ↔ qx sc D 240 0 [vr a0, vi x1, vi x2, vr a3, vn] [] (0, 0) bb σ (q_kn sc (D + 1) 252 1148 ls [] (u.1 + 4, u.2 + 24) Q) := r_callsX (idx := 142) (n := 4) (m := 5) (by decide +kernel) hu rfl (Nat.le_of_ble_eq_true rfl) ⟨Nat.le_of_ble_eq_true rfl, Nat.le_of_ble_eq_true rfl, rfl⟩ rfl
theorem k252_1148 : qx sc D 252 1148 [l0, l1, l2, l3, l4, l5, l6] (vi x :: st) u bb σ Q ↔ qx sc D 252 1150 [l0, l1, l2, l3, l4, vi x, l6] st u bb σ Q := r_istore (k := 5) (by decide +kernel) (Nat.le_of_ble_eq_true rfl)
theorem k252_1150 : qx sc D 252 1150 [l0, l1, vr a, l3, l4, l5, l6] st u bb σ Q ↔ qx sc D 252 1151 [l0, l1, vr a, l3, l4, l5, l6] (vr a :: st) u bb σ Q := r_aload_n (k := 2) (by decide +kernel) rfl
theorem k252_1151 : qx sc D 252 1151 [vr a, l1, l2, l3, l4, l5, l6] st u bb σ Q ↔ qx sc D 252 1152 [vr a, l1, l2, l3, l4, l5, l6] (vr a :: st) u bb σ Q := r_aload_n (k := 0) (by decide +kernel) rfl
theorem k252_1152 : qx sc D 252 1152 [l0, l1, l2, l3, vi x, l5, l6] st u bb σ Q ↔ qx sc D 252 1154 [l0, l1, l2, l3, vi x, l5, l6] (vi x :: st) u bb σ Q := r_iload (k := 4) (by decide +kernel) rfl
theorem k252_1154 : qx sc D 252 1154 ls st u bb σ Q ↔ qx sc D 252 1155 ls (vi 1 :: st) u bb σ Q := r_iconst (by decide +kernel)
theorem k252_1155 : qx sc D 252 1155 ls (vi b' :: vi a' :: st) u bb σ Q ↔ q_R (a' + b') ∧ qx sc D 252 1156 ls (vi (a' + b') :: st) u bb σ Q := r_iadd (by decide +kernel)
theorem k252_1156 : qx sc D 252 1156 ls (vi i :: vr 1000000 :: st) u bb σ Q ↔ (0 ≤ i ∧ i < sc.1) ∧ qx sc D 252 1157 ls (vi (sc.2 i.toNat).toInt :: st) u bb σ Q := r_scr (by decide +kernel)
theorem k252_1157 : qx sc D 252 1157 [vr a, l1, l2, l3, l4, l5, l6] st u bb σ Q ↔ qx sc D 252 1158 [vr a, l1, l2, l3, l4, l5, l6] (vr a :: st) u bb σ Q := r_aload_n (k := 0) (by decide +kernel) rfl
theorem k252_1158 : qx sc D 252 1158 [l0, l1, l2, l3, vi x, l5, l6] st u bb σ Q ↔ qx sc D 252 1160 [l0, l1, l2, l3, vi x, l5, l6] (vi x :: st) u bb σ Q := r_iload (k := 4) (by decide +kernel) rfl
theorem k252_1160 : qx sc D 252 1160 ls st u bb σ Q ↔ qx sc D 252 1161 ls (vi 2 :: st) u bb σ Q := r_iconst (by decide +kernel)
theorem k252_1161 : qx sc D 252 1161 ls (vi b' :: vi a' :: st) u bb σ Q ↔ q_R (a' + b') ∧ qx sc D 252 1162 ls (vi (a' + b') :: st) u bb σ Q := r_iadd (by decide +kernel)
theorem k252_1162 : qx sc D 252 1162 ls (vi i :: vr 1000000 :: st) u bb σ Q ↔ (0 ≤ i ∧ i < sc.1) ∧ qx sc D 252 1163 ls (vi (sc.2 i.toNat).toInt :: st) u bb σ Q := r_scr (by decide +kernel)
theorem k252_1163 (hu : u.1 + 0 ≤ 601024 ∧ u.2 + 0 ≤ 7293034) : qx sc (D + 1) 252 1163 ls [vi x1, vi x0, vr 136] u bb σ Q ↔ qx sc D 197 0 [vr 136, vi x0, vi x1] [] (0, 0) bb σ (q_kn sc (D + 1) 252 1166 ls [] (u.1 + 0, u.2 + 0) Q) := r_callvU (idx := 144) (n := 2) (m := 3) (by decide +kernel) hu rfl (Nat.le_of_ble_eq_true rfl) ⟨Nat.le_of_ble_eq_true rfl, Nat.le_of_ble_eq_true rfl, rfl⟩ rfl
theorem k252_1166 : qx sc D 252 1166 [l0, l1, l2, l3, l4, l5, l6] (vi x :: st) u bb σ Q ↔ qx sc D 252 1168 [l0, l1, l2, l3, l4, l5, vi x] st u bb σ Q := r_istore (k := 6) (by decide +kernel) (Nat.le_of_ble_eq_true rfl)
theorem k252_1168 : qx sc D 252 1168 [l0, l1, vr a, l3, l4, l5, l6] st u bb σ Q ↔ qx sc D 252 1169 [l0, l1, vr a, l3, l4, l5, l6] (vr a :: st) u bb σ Q := r_aload_n (k := 2) (by decide +kernel) rfl
theorem k252_1169 (hu : u.1 + 0 ≤ 601024 ∧ u.2 + 0 ≤ 7293034) : qx sc (D + 1) 252 1169 ls [vr 136] u bb σ Q ↔ qx sc D 223 0 [vr 136] [] (0, 0) bb σ (q_kn sc (D + 1) 252 1172 ls [] (u.1 + 0, u.2 + 0) Q) := r_callvU (idx := 95) (n := 0) (m := 1) (by decide +kernel) hu rfl (Nat.le_of_ble_eq_true rfl) ⟨Nat.le_of_ble_eq_true rfl, Nat.le_of_ble_eq_true rfl, rfl⟩ rfl
theorem k252_1172 : qx sc D 252 1172 [l0, l1, l2, l3, l4, vi x, l6] st u bb σ Q ↔ qx sc D 252 1174 [l0, l1, l2, l3, l4, vi x, l6] (vi x :: st) u bb σ Q := r_iload (k := 5) (by decide +kernel) rfl
theorem k252_1174 : qx sc D 252 1174 ls (vi b' :: vi a' :: st) u bb σ Q ↔ (a' = b' → qx sc D 252 1179 ls st u bb σ Q) ∧ (¬ (a' = b') → qx sc D 252 1177 ls st u bb σ Q) := r_ic_eq (off := 5) (t := 1179) (by decide +kernel)
theorem k252_1177 : qx sc D 252 1177 ls st u bb σ Q ↔ qx sc D 252 1178 ls (vi 0 :: st) u bb σ Q := r_iconst (by decide +kernel)
theorem k252_1178 (hu : u.1 + 0 ≤ 601024 ∧ u.2 + 0 ≤ 7293034) : qx sc D 252 1178 ls [vi x] u bb σ Q ↔ (x = 0 ∨ x = 1) ∧ Q (.inl (some (vi x))) bb σ := r_retB ⟨(by decide +kernel), (by decide +kernel), fit252 hu⟩
theorem k252_1179 : qx sc D 252 1179 [l0, l1, l2, l3, l4, vi x, l6] st u bb σ Q ↔ qx sc D 252 1181 [l0, l1, l2, l3, l4, vi x, l6] (vi x :: st) u bb σ Q := r_iload (k := 5) (by decide +kernel) rfl
theorem k252_1181 : qx sc D 252 1181 ls (vi x :: st) u bb σ Q ↔ (x = 0 → qx sc D 252 1184 ls st u bb σ Q) ∧ (¬ (x = 0) → qx sc D 252 1196 ls st u bb σ Q) := r_if_ne (off := 15) (t := 1196) (by decide +kernel)
theorem k252_1184 : qx sc D 252 1184 [l0, l1, l2, vr a, l4, l5, l6] st u bb σ Q ↔ qx sc D 252 1185 [l0, l1, l2, vr a, l4, l5, l6] (vr a :: st) u bb σ Q := r_aload_n (k := 3) (by decide +kernel) rfl
theorem k252_1185 : qx sc D 252 1185 ls st u bb σ Q ↔ qx sc D 252 1186 ls (vi 0 :: st) u bb σ Q := r_iconst (by decide +kernel)
theorem k252_1186 : qx sc D 252 1186 ls (vi i :: vr a :: st) u bb σ Q ↔ (q_ty a = 3 ∧ 0 ≤ i ∧ i < q_ln a) ∧ qx sc D 252 1187 ls (vl (σ a i) :: st) u bb σ Q := r_lald (by decide +kernel)
theorem k252_1187 : qx sc D 252 1187 [l0, l1, l2, l3, l4, l5, vi x] st u bb σ Q ↔ qx sc D 252 1189 [l0, l1, l2, l3, l4, l5, vi x] (vi x :: st) u bb σ Q := r_iload (k := 6) (by decide +kernel) rfl
theorem k252_1189 : qx sc D 252 1189 ls (vi a' :: st) u bb σ Q ↔ qx sc D 252 1190 ls (vl a' :: st) u bb σ Q := r_i2l (by decide +kernel)
theorem k252_1190 : qx sc D 252 1190 ls (vl b' :: vl a' :: st) u bb σ Q ↔ qx sc D 252 1191 ls (vi (if b' < a' then 1 else if a' = b' then 0 else -1) :: st) u bb σ Q := r_lcmp (by decide +kernel)
theorem k252_1191 : qx sc D 252 1191 ls (vi x :: st) u bb σ Q ↔ (x = 0 → qx sc D 252 1196 ls st u bb σ Q) ∧ (¬ (x = 0) → qx sc D 252 1194 ls st u bb σ Q) := r_if_eq (off := 5) (t := 1196) (by decide +kernel)
theorem k252_1194 : qx sc D 252 1194 ls st u bb σ Q ↔ qx sc D 252 1195 ls (vi 0 :: st) u bb σ Q := r_iconst (by decide +kernel)
theorem k252_1195 (hu : u.1 + 0 ≤ 601024 ∧ u.2 + 0 ≤ 7293034) : qx sc D 252 1195 ls [vi x] u bb σ Q ↔ (x = 0 ∨ x = 1) ∧ Q (.inl (some (vi x))) bb σ := r_retB ⟨(by decide +kernel), (by decide +kernel), fit252 hu⟩
theorem k252_1196 : qx sc D 252 1196 ls st u bb σ Q ↔ qx sc D 252 1480 ls st u bb σ Q := r_goto (off := 284) (by decide +kernel)
theorem k252_1199 : qx sc D 252 1199 [l0, vr a, l2, l3, l4, l5, l6] st u bb σ Q ↔ qx sc D 252 1200 [l0, vr a, l2, l3, l4, l5, l6] (vr a :: st) u bb σ Q := r_aload_n (k := 1) (by decide +kernel) rfl
theorem k252_1200 : qx sc D 252 1200 [vr a, l1, l2, l3, l4, l5, l6] st u bb σ Q ↔ qx sc D 252 1201 [vr a, l1, l2, l3, l4, l5, l6] (vr a :: st) u bb σ Q := r_aload_n (k := 0) (by decide +kernel) rfl
theorem k252_1201 : qx sc D 252 1201 [l0, l1, l2, l3, vi x, l5, l6] st u bb σ Q ↔ qx sc D 252 1203 [l0, l1, l2, l3, vi x, l5, l6] (vi x :: st) u bb σ Q := r_iload (k := 4) (by decide +kernel) rfl
theorem k252_1203 : qx sc D 252 1203 ls st u bb σ Q ↔ qx sc D 252 1204 ls (vi 1 :: st) u bb σ Q := r_iconst (by decide +kernel)
theorem k252_1204 : qx sc D 252 1204 ls (vi b' :: vi a' :: st) u bb σ Q ↔ q_R (a' + b') ∧ qx sc D 252 1205 ls (vi (a' + b') :: st) u bb σ Q := r_iadd (by decide +kernel)
theorem k252_1205 : qx sc D 252 1205 ls (vi i :: vr 1000000 :: st) u bb σ Q ↔ (0 ≤ i ∧ i < sc.1) ∧ qx sc D 252 1206 ls (vi (sc.2 i.toNat).toInt :: st) u bb σ Q := r_scr (by decide +kernel)
theorem k252_1206 : qx sc D 252 1206 [vr a, l1, l2, l3, l4, l5, l6] st u bb σ Q ↔ qx sc D 252 1207 [vr a, l1, l2, l3, l4, l5, l6] (vr a :: st) u bb σ Q := r_aload_n (k := 0) (by decide +kernel) rfl
theorem k252_1207 : qx sc D 252 1207 [l0, l1, l2, l3, vi x, l5, l6] st u bb σ Q ↔ qx sc D 252 1209 [l0, l1, l2, l3, vi x, l5, l6] (vi x :: st) u bb σ Q := r_iload (k := 4) (by decide +kernel) rfl
theorem k252_1209 : qx sc D 252 1209 ls st u bb σ Q ↔ qx sc D 252 1210 ls (vi 2 :: st) u bb σ Q := r_iconst (by decide +kernel)
theorem k252_1210 : qx sc D 252 1210 ls (vi b' :: vi a' :: st) u bb σ Q ↔ q_R (a' + b') ∧ qx sc D 252 1211 ls (vi (a' + b') :: st) u bb σ Q := r_iadd (by decide +kernel)
theorem k252_1211 : qx sc D 252 1211 ls (vi i :: vr 1000000 :: st) u bb σ Q ↔ (0 ≤ i ∧ i < sc.1) ∧ qx sc D 252 1212 ls (vi (sc.2 i.toNat).toInt :: st) u bb σ Q := r_scr (by decide +kernel)
theorem k252_1212 : qx sc D 252 1212 [vr a, l1, l2, l3, l4, l5, l6] st u bb σ Q ↔ qx sc D 252 1213 [vr a, l1, l2, l3, l4, l5, l6] (vr a :: st) u bb σ Q := r_aload_n (k := 0) (by decide +kernel) rfl
theorem k252_1213 : qx sc D 252 1213 [l0, l1, l2, l3, vi x, l5, l6] st u bb σ Q ↔ qx sc D 252 1215 [l0, l1, l2, l3, vi x, l5, l6] (vi x :: st) u bb σ Q := r_iload (k := 4) (by decide +kernel) rfl
theorem k252_1215 : qx sc D 252 1215 ls st u bb σ Q ↔ qx sc D 252 1216 ls (vi 3 :: st) u bb σ Q := r_iconst (by decide +kernel)
theorem k252_1216 : qx sc D 252 1216 ls (vi b' :: vi a' :: st) u bb σ Q ↔ q_R (a' + b') ∧ qx sc D 252 1217 ls (vi (a' + b') :: st) u bb σ Q := r_iadd (by decide +kernel)
theorem k252_1217 : qx sc D 252 1217 ls (vi i :: vr 1000000 :: st) u bb σ Q ↔ (0 ≤ i ∧ i < sc.1) ∧ qx sc D 252 1218 ls (vi (sc.2 i.toNat).toInt :: st) u bb σ Q := r_scr (by decide +kernel)
theorem k252_1218 : qx sc D 252 1218 [l0, l1, l2, vr a, l4, l5, l6] st u bb σ Q ↔ qx sc D 252 1219 [l0, l1, l2, vr a, l4, l5, l6] (vr a :: st) u bb σ Q := r_aload_n (k := 3) (by decide +kernel) rfl
theorem k252_1219 (hu : u.1 + 4 ≤ 601024 ∧ u.2 + 24 ≤ 7293034) : qx sc (D + 1) 252 1219 ls [vr a4, vi x3, vi x2, vi x1, vr a0] u bb σ Q ↔ qx sc D 241 0 [vr a0, vi x1, vi x2, vi x3, vr a4, vn] [] (0, 0) bb σ (q_kn sc (D + 1) 252 1222 ls [] (u.1 + 4, u.2 + 24) Q) := r_callsX (idx := 145) (n := 5) (m := 6) (by decide +kernel) hu rfl (Nat.le_of_ble_eq_true rfl) ⟨Nat.le_of_ble_eq_true rfl, Nat.le_of_ble_eq_true rfl, rfl⟩ rfl
theorem k252_1222 : qx sc D 252 1222 [l0, l1, l2, l3, l4, l5, l6] (vi x :: st) u bb σ Q ↔ qx sc D 252 1224 [l0, l1, l2, l3, l4, vi x, l6] st u bb σ Q := r_istore (k := 5) (by decide +kernel) (Nat.le_of_ble_eq_true rfl)
theorem k252_1224 : qx sc D 252 1224 [l0, l1, vr a, l3, l4, l5, l6] st u bb σ Q ↔ qx sc D 252 1225 [l0, l1, vr a, l3, l4, l5, l6] (vr a :: st) u bb σ Q := r_aload_n (k := 2) (by decide +kernel) rfl
theorem k252_1225 : qx sc D 252 1225 [vr a, l1, l2, l3, l4, l5, l6] st u bb σ Q ↔ qx sc D 252 1226 [vr a, l1, l2, l3, l4, l5, l6] (vr a :: st) u bb σ Q := r_aload_n (k := 0) (by decide +kernel) rfl
theorem k252_1226 : qx sc D 252 1226 [l0, l1, l2, l3, vi x, l5, l6] st u bb σ Q ↔ qx sc D 252 1228 [l0, l1, l2, l3, vi x, l5, l6] (vi x :: st) u bb σ Q := r_iload (k := 4) (by decide +kernel) rfl
theorem k252_1228 : qx sc D 252 1228 ls st u bb σ Q ↔ qx sc D 252 1229 ls (vi 1 :: st) u bb σ Q := r_iconst (by decide +kernel)
theorem k252_1229 : qx sc D 252 1229 ls (vi b' :: vi a' :: st) u bb σ Q ↔ q_R (a' + b') ∧ qx sc D 252 1230 ls (vi (a' + b') :: st) u bb σ Q := r_iadd (by decide +kernel)
theorem k252_1230 : qx sc D 252 1230 ls (vi i :: vr 1000000 :: st) u bb σ Q ↔ (0 ≤ i ∧ i < sc.1) ∧ qx sc D 252 1231 ls (vi (sc.2 i.toNat).toInt :: st) u bb σ Q := r_scr (by decide +kernel)
theorem k252_1231 : qx sc D 252 1231 [vr a, l1, l2, l3, l4, l5, l6] st u bb σ Q ↔ qx sc D 252 1232 [vr a, l1, l2, l3, l4, l5, l6] (vr a :: st) u bb σ Q := r_aload_n (k := 0) (by decide +kernel) rfl
theorem k252_1232 : qx sc D 252 1232 [l0, l1, l2, l3, vi x, l5, l6] st u bb σ Q ↔ qx sc D 252 1234 [l0, l1, l2, l3, vi x, l5, l6] (vi x :: st) u bb σ Q := r_iload (k := 4) (by decide +kernel) rfl
theorem k252_1234 : qx sc D 252 1234 ls st u bb σ Q ↔ qx sc D 252 1235 ls (vi 2 :: st) u bb σ Q := r_iconst (by decide +kernel)
theorem k252_1235 : qx sc D 252 1235 ls (vi b' :: vi a' :: st) u bb σ Q ↔ q_R (a' + b') ∧ qx sc D 252 1236 ls (vi (a' + b') :: st) u bb σ Q := r_iadd (by decide +kernel)
theorem k252_1236 : qx sc D 252 1236 ls (vi i :: vr 1000000 :: st) u bb σ Q ↔ (0 ≤ i ∧ i < sc.1) ∧ qx sc D 252 1237 ls (vi (sc.2 i.toNat).toInt :: st) u bb σ Q := r_scr (by decide +kernel)
theorem k252_1237 : qx sc D 252 1237 [vr a, l1, l2, l3, l4, l5, l6] st u bb σ Q ↔ qx sc D 252 1238 [vr a, l1, l2, l3, l4, l5, l6] (vr a :: st) u bb σ Q := r_aload_n (k := 0) (by decide +kernel) rfl
theorem k252_1238 : qx sc D 252 1238 [l0, l1, l2, l3, vi x, l5, l6] st u bb σ Q ↔ qx sc D 252 1240 [l0, l1, l2, l3, vi x, l5, l6] (vi x :: st) u bb σ Q := r_iload (k := 4) (by decide +kernel) rfl
theorem k252_1240 : qx sc D 252 1240 ls st u bb σ Q ↔ qx sc D 252 1241 ls (vi 3 :: st) u bb σ Q := r_iconst (by decide +kernel)
theorem k252_1241 : qx sc D 252 1241 ls (vi b' :: vi a' :: st) u bb σ Q ↔ q_R (a' + b') ∧ qx sc D 252 1242 ls (vi (a' + b') :: st) u bb σ Q := r_iadd (by decide +kernel)
theorem k252_1242 : qx sc D 252 1242 ls (vi i :: vr 1000000 :: st) u bb σ Q ↔ (0 ≤ i ∧ i < sc.1) ∧ qx sc D 252 1243 ls (vi (sc.2 i.toNat).toInt :: st) u bb σ Q := r_scr (by decide +kernel)
theorem k252_1243 (hu : u.1 + 0 ≤ 601024 ∧ u.2 + 0 ≤ 7293034) : qx sc (D + 1) 252 1243 ls [vi x2, vi x1, vi x0, vr 136] u bb σ Q ↔ qx sc D 201 0 [vr 136, vi x0, vi x1, vi x2] [] (0, 0) bb σ (q_kn sc (D + 1) 252 1246 ls [] (u.1 + 0, u.2 + 0) Q) := r_callvU (idx := 148) (n := 3) (m := 4) (by decide +kernel) hu rfl (Nat.le_of_ble_eq_true rfl) ⟨Nat.le_of_ble_eq_true rfl, Nat.le_of_ble_eq_true rfl, rfl⟩ rfl
theorem k252_1246 : qx sc D 252 1246 [l0, l1, l2, l3, l4, l5, l6] (vi x :: st) u bb σ Q ↔ qx sc D 252 1248 [l0, l1, l2, l3, l4, l5, vi x] st u bb σ Q := r_istore (k := 6) (by decide +kernel) (Nat.le_of_ble_eq_true rfl)
theorem k252_1248 : qx sc D 252 1248 [l0, l1, vr a, l3, l4, l5, l6] st u bb σ Q ↔ qx sc D 252 1249 [l0, l1, vr a, l3, l4, l5, l6] (vr a :: st) u bb σ Q := r_aload_n (k := 2) (by decide +kernel) rfl
theorem k252_1249 (hu : u.1 + 0 ≤ 601024 ∧ u.2 + 0 ≤ 7293034) : qx sc (D + 1) 252 1249 ls [vr 136] u bb σ Q ↔ qx sc D 223 0 [vr 136] [] (0, 0) bb σ (q_kn sc (D + 1) 252 1252 ls [] (u.1 + 0, u.2 + 0) Q) := r_callvU (idx := 95) (n := 0) (m := 1) (by decide +kernel) hu rfl (Nat.le_of_ble_eq_true rfl) ⟨Nat.le_of_ble_eq_true rfl, Nat.le_of_ble_eq_true rfl, rfl⟩ rfl
theorem k252_1252 : qx sc D 252 1252 [l0, l1, l2, l3, l4, vi x, l6] st u bb σ Q ↔ qx sc D 252 1254 [l0, l1, l2, l3, l4, vi x, l6] (vi x :: st) u bb σ Q := r_iload (k := 5) (by decide +kernel) rfl
theorem k252_1254 : qx sc D 252 1254 ls (vi b' :: vi a' :: st) u bb σ Q ↔ (a' = b' → qx sc D 252 1259 ls st u bb σ Q) ∧ (¬ (a' = b') → qx sc D 252 1257 ls st u bb σ Q) := r_ic_eq (off := 5) (t := 1259) (by decide +kernel)
theorem k252_1257 : qx sc D 252 1257 ls st u bb σ Q ↔ qx sc D 252 1258 ls (vi 0 :: st) u bb σ Q := r_iconst (by decide +kernel)
theorem k252_1258 (hu : u.1 + 0 ≤ 601024 ∧ u.2 + 0 ≤ 7293034) : qx sc D 252 1258 ls [vi x] u bb σ Q ↔ (x = 0 ∨ x = 1) ∧ Q (.inl (some (vi x))) bb σ := r_retB ⟨(by decide +kernel), (by decide +kernel), fit252 hu⟩
theorem k252_1259 : qx sc D 252 1259 [l0, l1, l2, l3, l4, vi x, l6] st u bb σ Q ↔ qx sc D 252 1261 [l0, l1, l2, l3, l4, vi x, l6] (vi x :: st) u bb σ Q := r_iload (k := 5) (by decide +kernel) rfl
theorem k252_1261 : qx sc D 252 1261 ls (vi x :: st) u bb σ Q ↔ (x = 0 → qx sc D 252 1264 ls st u bb σ Q) ∧ (¬ (x = 0) → qx sc D 252 1276 ls st u bb σ Q) := r_if_ne (off := 15) (t := 1276) (by decide +kernel)
theorem k252_1264 : qx sc D 252 1264 [l0, l1, l2, vr a, l4, l5, l6] st u bb σ Q ↔ qx sc D 252 1265 [l0, l1, l2, vr a, l4, l5, l6] (vr a :: st) u bb σ Q := r_aload_n (k := 3) (by decide +kernel) rfl
theorem k252_1265 : qx sc D 252 1265 ls st u bb σ Q ↔ qx sc D 252 1266 ls (vi 0 :: st) u bb σ Q := r_iconst (by decide +kernel)
theorem k252_1266 : qx sc D 252 1266 ls (vi i :: vr a :: st) u bb σ Q ↔ (q_ty a = 3 ∧ 0 ≤ i ∧ i < q_ln a) ∧ qx sc D 252 1267 ls (vl (σ a i) :: st) u bb σ Q := r_lald (by decide +kernel)
theorem k252_1267 : qx sc D 252 1267 [l0, l1, l2, l3, l4, l5, vi x] st u bb σ Q ↔ qx sc D 252 1269 [l0, l1, l2, l3, l4, l5, vi x] (vi x :: st) u bb σ Q := r_iload (k := 6) (by decide +kernel) rfl
theorem k252_1269 : qx sc D 252 1269 ls (vi a' :: st) u bb σ Q ↔ qx sc D 252 1270 ls (vl a' :: st) u bb σ Q := r_i2l (by decide +kernel)
theorem k252_1270 : qx sc D 252 1270 ls (vl b' :: vl a' :: st) u bb σ Q ↔ qx sc D 252 1271 ls (vi (if b' < a' then 1 else if a' = b' then 0 else -1) :: st) u bb σ Q := r_lcmp (by decide +kernel)
theorem k252_1271 : qx sc D 252 1271 ls (vi x :: st) u bb σ Q ↔ (x = 0 → qx sc D 252 1276 ls st u bb σ Q) ∧ (¬ (x = 0) → qx sc D 252 1274 ls st u bb σ Q) := r_if_eq (off := 5) (t := 1276) (by decide +kernel)
theorem k252_1274 : qx sc D 252 1274 ls st u bb σ Q ↔ qx sc D 252 1275 ls (vi 0 :: st) u bb σ Q := r_iconst (by decide +kernel)
theorem k252_1275 (hu : u.1 + 0 ≤ 601024 ∧ u.2 + 0 ≤ 7293034) : qx sc D 252 1275 ls [vi x] u bb σ Q ↔ (x = 0 ∨ x = 1) ∧ Q (.inl (some (vi x))) bb σ := r_retB ⟨(by decide +kernel), (by decide +kernel), fit252 hu⟩
theorem k252_1276 : qx sc D 252 1276 ls st u bb σ Q ↔ qx sc D 252 1480 ls st u bb σ Q := r_goto (off := 204) (by decide +kernel)
theorem k252_1279 : qx sc D 252 1279 [l0, vr a, l2, l3, l4, l5, l6] st u bb σ Q ↔ qx sc D 252 1280 [l0, vr a, l2, l3, l4, l5, l6] (vr a :: st) u bb σ Q := r_aload_n (k := 1) (by decide +kernel) rfl
theorem k252_1280 : qx sc D 252 1280 [vr a, l1, l2, l3, l4, l5, l6] st u bb σ Q ↔ qx sc D 252 1281 [vr a, l1, l2, l3, l4, l5, l6] (vr a :: st) u bb σ Q := r_aload_n (k := 0) (by decide +kernel) rfl
theorem k252_1281 : qx sc D 252 1281 [l0, l1, l2, l3, vi x, l5, l6] st u bb σ Q ↔ qx sc D 252 1283 [l0, l1, l2, l3, vi x, l5, l6] (vi x :: st) u bb σ Q := r_iload (k := 4) (by decide +kernel) rfl
theorem k252_1283 : qx sc D 252 1283 ls st u bb σ Q ↔ qx sc D 252 1284 ls (vi 1 :: st) u bb σ Q := r_iconst (by decide +kernel)
theorem k252_1284 : qx sc D 252 1284 ls (vi b' :: vi a' :: st) u bb σ Q ↔ q_R (a' + b') ∧ qx sc D 252 1285 ls (vi (a' + b') :: st) u bb σ Q := r_iadd (by decide +kernel)
theorem k252_1285 : qx sc D 252 1285 ls (vi i :: vr 1000000 :: st) u bb σ Q ↔ (0 ≤ i ∧ i < sc.1) ∧ qx sc D 252 1286 ls (vi (sc.2 i.toNat).toInt :: st) u bb σ Q := r_scr (by decide +kernel)
theorem k252_1286 : qx sc D 252 1286 [vr a, l1, l2, l3, l4, l5, l6] st u bb σ Q ↔ qx sc D 252 1287 [vr a, l1, l2, l3, l4, l5, l6] (vr a :: st) u bb σ Q := r_aload_n (k := 0) (by decide +kernel) rfl
theorem k252_1287 : qx sc D 252 1287 [l0, l1, l2, l3, vi x, l5, l6] st u bb σ Q ↔ qx sc D 252 1289 [l0, l1, l2, l3, vi x, l5, l6] (vi x :: st) u bb σ Q := r_iload (k := 4) (by decide +kernel) rfl
theorem k252_1289 : qx sc D 252 1289 ls st u bb σ Q ↔ qx sc D 252 1290 ls (vi 2 :: st) u bb σ Q := r_iconst (by decide +kernel)
theorem k252_1290 : qx sc D 252 1290 ls (vi b' :: vi a' :: st) u bb σ Q ↔ q_R (a' + b') ∧ qx sc D 252 1291 ls (vi (a' + b') :: st) u bb σ Q := r_iadd (by decide +kernel)
theorem k252_1291 : qx sc D 252 1291 ls (vi i :: vr 1000000 :: st) u bb σ Q ↔ (0 ≤ i ∧ i < sc.1) ∧ qx sc D 252 1292 ls (vi (sc.2 i.toNat).toInt :: st) u bb σ Q := r_scr (by decide +kernel)
theorem k252_1292 : qx sc D 252 1292 [l0, l1, l2, vr a, l4, l5, l6] st u bb σ Q ↔ qx sc D 252 1293 [l0, l1, l2, vr a, l4, l5, l6] (vr a :: st) u bb σ Q := r_aload_n (k := 3) (by decide +kernel) rfl
theorem k252_1293 (hu : u.1 + 4 ≤ 601024 ∧ u.2 + 24 ≤ 7293034) : qx sc (D + 1) 252 1293 ls [vr a3, vi x2, vi x1, vr a0] u bb σ Q ↔ qx sc D 248 0 [vr a0, vi x1, vi x2, vr a3, vn] [] (0, 0) bb σ (q_kn sc (D + 1) 252 1296 ls [] (u.1 + 4, u.2 + 24) Q) := r_callsX (idx := 149) (n := 4) (m := 5) (by decide +kernel) hu rfl (Nat.le_of_ble_eq_true rfl) ⟨Nat.le_of_ble_eq_true rfl, Nat.le_of_ble_eq_true rfl, rfl⟩ rfl
theorem k252_1296 : qx sc D 252 1296 [l0, l1, l2, l3, l4, l5, l6] (vi x :: st) u bb σ Q ↔ qx sc D 252 1298 [l0, l1, l2, l3, l4, vi x, l6] st u bb σ Q := r_istore (k := 5) (by decide +kernel) (Nat.le_of_ble_eq_true rfl)
theorem k252_1298 : qx sc D 252 1298 [l0, l1, vr a, l3, l4, l5, l6] st u bb σ Q ↔ qx sc D 252 1299 [l0, l1, vr a, l3, l4, l5, l6] (vr a :: st) u bb σ Q := r_aload_n (k := 2) (by decide +kernel) rfl
theorem k252_1299 : qx sc D 252 1299 [vr a, l1, l2, l3, l4, l5, l6] st u bb σ Q ↔ qx sc D 252 1300 [vr a, l1, l2, l3, l4, l5, l6] (vr a :: st) u bb σ Q := r_aload_n (k := 0) (by decide +kernel) rfl
theorem k252_1300 : qx sc D 252 1300 [l0, l1, l2, l3, vi x, l5, l6] st u bb σ Q ↔ qx sc D 252 1302 [l0, l1, l2, l3, vi x, l5, l6] (vi x :: st) u bb σ Q := r_iload (k := 4) (by decide +kernel) rfl
theorem k252_1302 : qx sc D 252 1302 ls st u bb σ Q ↔ qx sc D 252 1303 ls (vi 1 :: st) u bb σ Q := r_iconst (by decide +kernel)
theorem k252_1303 : qx sc D 252 1303 ls (vi b' :: vi a' :: st) u bb σ Q ↔ q_R (a' + b') ∧ qx sc D 252 1304 ls (vi (a' + b') :: st) u bb σ Q := r_iadd (by decide +kernel)
theorem k252_1304 : qx sc D 252 1304 ls (vi i :: vr 1000000 :: st) u bb σ Q ↔ (0 ≤ i ∧ i < sc.1) ∧ qx sc D 252 1305 ls (vi (sc.2 i.toNat).toInt :: st) u bb σ Q := r_scr (by decide +kernel)
theorem k252_1305 : qx sc D 252 1305 [vr a, l1, l2, l3, l4, l5, l6] st u bb σ Q ↔ qx sc D 252 1306 [vr a, l1, l2, l3, l4, l5, l6] (vr a :: st) u bb σ Q := r_aload_n (k := 0) (by decide +kernel) rfl
theorem k252_1306 : qx sc D 252 1306 [l0, l1, l2, l3, vi x, l5, l6] st u bb σ Q ↔ qx sc D 252 1308 [l0, l1, l2, l3, vi x, l5, l6] (vi x :: st) u bb σ Q := r_iload (k := 4) (by decide +kernel) rfl
theorem k252_1308 : qx sc D 252 1308 ls st u bb σ Q ↔ qx sc D 252 1309 ls (vi 2 :: st) u bb σ Q := r_iconst (by decide +kernel)
theorem k252_1309 : qx sc D 252 1309 ls (vi b' :: vi a' :: st) u bb σ Q ↔ q_R (a' + b') ∧ qx sc D 252 1310 ls (vi (a' + b') :: st) u bb σ Q := r_iadd (by decide +kernel)
theorem k252_1310 : qx sc D 252 1310 ls (vi i :: vr 1000000 :: st) u bb σ Q ↔ (0 ≤ i ∧ i < sc.1) ∧ qx sc D 252 1311 ls (vi (sc.2 i.toNat).toInt :: st) u bb σ Q := r_scr (by decide +kernel)
theorem k252_1311 (hu : u.1 + 0 ≤ 601024 ∧ u.2 + 0 ≤ 7293034) : qx sc (D + 1) 252 1311 ls [vi x1, vi x0, vr 136] u bb σ Q ↔ qx sc D 230 0 [vr 136, vi x0, vi x1] [] (0, 0) bb σ (q_kn sc (D + 1) 252 1314 ls [] (u.1 + 0, u.2 + 0) Q) := r_callvU (idx := 151) (n := 2) (m := 3) (by decide +kernel) hu rfl (Nat.le_of_ble_eq_true rfl) ⟨Nat.le_of_ble_eq_true rfl, Nat.le_of_ble_eq_true rfl, rfl⟩ rfl
theorem k252_1314 : qx sc D 252 1314 [l0, l1, l2, l3, l4, l5, l6] (vi x :: st) u bb σ Q ↔ qx sc D 252 1316 [l0, l1, l2, l3, l4, l5, vi x] st u bb σ Q := r_istore (k := 6) (by decide +kernel) (Nat.le_of_ble_eq_true rfl)
theorem k252_1316 : qx sc D 252 1316 [l0, l1, vr a, l3, l4, l5, l6] st u bb σ Q ↔ qx sc D 252 1317 [l0, l1, vr a, l3, l4, l5, l6] (vr a :: st) u bb σ Q := r_aload_n (k := 2) (by decide +kernel) rfl
theorem k252_1317 (hu : u.1 + 0 ≤ 601024 ∧ u.2 + 0 ≤ 7293034) : qx sc (D + 1) 252 1317 ls [vr 136] u bb σ Q ↔ qx sc D 223 0 [vr 136] [] (0, 0) bb σ (q_kn sc (D + 1) 252 1320 ls [] (u.1 + 0, u.2 + 0) Q) := r_callvU (idx := 95) (n := 0) (m := 1) (by decide +kernel) hu rfl (Nat.le_of_ble_eq_true rfl) ⟨Nat.le_of_ble_eq_true rfl, Nat.le_of_ble_eq_true rfl, rfl⟩ rfl
theorem k252_1320 : qx sc D 252 1320 [l0, l1, l2, l3, l4, vi x, l6] st u bb σ Q ↔ qx sc D 252 1322 [l0, l1, l2, l3, l4, vi x, l6] (vi x :: st) u bb σ Q := r_iload (k := 5) (by decide +kernel) rfl
theorem k252_1322 : qx sc D 252 1322 ls (vi b' :: vi a' :: st) u bb σ Q ↔ (a' = b' → qx sc D 252 1327 ls st u bb σ Q) ∧ (¬ (a' = b') → qx sc D 252 1325 ls st u bb σ Q) := r_ic_eq (off := 5) (t := 1327) (by decide +kernel)
theorem k252_1325 : qx sc D 252 1325 ls st u bb σ Q ↔ qx sc D 252 1326 ls (vi 0 :: st) u bb σ Q := r_iconst (by decide +kernel)
theorem k252_1326 (hu : u.1 + 0 ≤ 601024 ∧ u.2 + 0 ≤ 7293034) : qx sc D 252 1326 ls [vi x] u bb σ Q ↔ (x = 0 ∨ x = 1) ∧ Q (.inl (some (vi x))) bb σ := r_retB ⟨(by decide +kernel), (by decide +kernel), fit252 hu⟩
theorem k252_1327 : qx sc D 252 1327 [l0, l1, l2, l3, l4, vi x, l6] st u bb σ Q ↔ qx sc D 252 1329 [l0, l1, l2, l3, l4, vi x, l6] (vi x :: st) u bb σ Q := r_iload (k := 5) (by decide +kernel) rfl
theorem k252_1329 : qx sc D 252 1329 ls (vi x :: st) u bb σ Q ↔ (x = 0 → qx sc D 252 1332 ls st u bb σ Q) ∧ (¬ (x = 0) → qx sc D 252 1344 ls st u bb σ Q) := r_if_ne (off := 15) (t := 1344) (by decide +kernel)
theorem k252_1332 : qx sc D 252 1332 [l0, l1, l2, vr a, l4, l5, l6] st u bb σ Q ↔ qx sc D 252 1333 [l0, l1, l2, vr a, l4, l5, l6] (vr a :: st) u bb σ Q := r_aload_n (k := 3) (by decide +kernel) rfl
theorem k252_1333 : qx sc D 252 1333 ls st u bb σ Q ↔ qx sc D 252 1334 ls (vi 0 :: st) u bb σ Q := r_iconst (by decide +kernel)
theorem k252_1334 : qx sc D 252 1334 ls (vi i :: vr a :: st) u bb σ Q ↔ (q_ty a = 3 ∧ 0 ≤ i ∧ i < q_ln a) ∧ qx sc D 252 1335 ls (vl (σ a i) :: st) u bb σ Q := r_lald (by decide +kernel)
theorem k252_1335 : qx sc D 252 1335 [l0, l1, l2, l3, l4, l5, vi x] st u bb σ Q ↔ qx sc D 252 1337 [l0, l1, l2, l3, l4, l5, vi x] (vi x :: st) u bb σ Q := r_iload (k := 6) (by decide +kernel) rfl
theorem k252_1337 : qx sc D 252 1337 ls (vi a' :: st) u bb σ Q ↔ qx sc D 252 1338 ls (vl a' :: st) u bb σ Q := r_i2l (by decide +kernel)
theorem k252_1338 : qx sc D 252 1338 ls (vl b' :: vl a' :: st) u bb σ Q ↔ qx sc D 252 1339 ls (vi (if b' < a' then 1 else if a' = b' then 0 else -1) :: st) u bb σ Q := r_lcmp (by decide +kernel)
theorem k252_1339 : qx sc D 252 1339 ls (vi x :: st) u bb σ Q ↔ (x = 0 → qx sc D 252 1344 ls st u bb σ Q) ∧ (¬ (x = 0) → qx sc D 252 1342 ls st u bb σ Q) := r_if_eq (off := 5) (t := 1344) (by decide +kernel)
theorem k252_1342 : qx sc D 252 1342 ls st u bb σ Q ↔ qx sc D 252 1343 ls (vi 0 :: st) u bb σ Q := r_iconst (by decide +kernel)
theorem k252_1343 (hu : u.1 + 0 ≤ 601024 ∧ u.2 + 0 ≤ 7293034) : qx sc D 252 1343 ls [vi x] u bb σ Q ↔ (x = 0 ∨ x = 1) ∧ Q (.inl (some (vi x))) bb σ := r_retB ⟨(by decide +kernel), (by decide +kernel), fit252 hu⟩
theorem k252_1344 : qx sc D 252 1344 ls st u bb σ Q ↔ qx sc D 252 1480 ls st u bb σ Q := r_goto (off := 136) (by decide +kernel)
theorem k252_1347 : qx sc D 252 1347 [l0, vr a, l2, l3, l4, l5, l6] st u bb σ Q ↔ qx sc D 252 1348 [l0, vr a, l2, l3, l4, l5, l6] (vr a :: st) u bb σ Q := r_aload_n (k := 1) (by decide +kernel) rfl
theorem k252_1348 : qx sc D 252 1348 [vr a, l1, l2, l3, l4, l5, l6] st u bb σ Q ↔ qx sc D 252 1349 [vr a, l1, l2, l3, l4, l5, l6] (vr a :: st) u bb σ Q := r_aload_n (k := 0) (by decide +kernel) rfl
theorem k252_1349 : qx sc D 252 1349 [l0, l1, l2, l3, vi x, l5, l6] st u bb σ Q ↔ qx sc D 252 1351 [l0, l1, l2, l3, vi x, l5, l6] (vi x :: st) u bb σ Q := r_iload (k := 4) (by decide +kernel) rfl
theorem k252_1351 : qx sc D 252 1351 ls st u bb σ Q ↔ qx sc D 252 1352 ls (vi 1 :: st) u bb σ Q := r_iconst (by decide +kernel)
theorem k252_1352 : qx sc D 252 1352 ls (vi b' :: vi a' :: st) u bb σ Q ↔ q_R (a' + b') ∧ qx sc D 252 1353 ls (vi (a' + b') :: st) u bb σ Q := r_iadd (by decide +kernel)
theorem k252_1353 : qx sc D 252 1353 ls (vi i :: vr 1000000 :: st) u bb σ Q ↔ (0 ≤ i ∧ i < sc.1) ∧ qx sc D 252 1354 ls (vi (sc.2 i.toNat).toInt :: st) u bb σ Q := r_scr (by decide +kernel)
theorem k252_1354 : qx sc D 252 1354 [vr a, l1, l2, l3, l4, l5, l6] st u bb σ Q ↔ qx sc D 252 1355 [vr a, l1, l2, l3, l4, l5, l6] (vr a :: st) u bb σ Q := r_aload_n (k := 0) (by decide +kernel) rfl
theorem k252_1355 : qx sc D 252 1355 [l0, l1, l2, l3, vi x, l5, l6] st u bb σ Q ↔ qx sc D 252 1357 [l0, l1, l2, l3, vi x, l5, l6] (vi x :: st) u bb σ Q := r_iload (k := 4) (by decide +kernel) rfl
theorem k252_1357 : qx sc D 252 1357 ls st u bb σ Q ↔ qx sc D 252 1358 ls (vi 2 :: st) u bb σ Q := r_iconst (by decide +kernel)
theorem k252_1358 : qx sc D 252 1358 ls (vi b' :: vi a' :: st) u bb σ Q ↔ q_R (a' + b') ∧ qx sc D 252 1359 ls (vi (a' + b') :: st) u bb σ Q := r_iadd (by decide +kernel)
theorem k252_1359 : qx sc D 252 1359 ls (vi i :: vr 1000000 :: st) u bb σ Q ↔ (0 ≤ i ∧ i < sc.1) ∧ qx sc D 252 1360 ls (vi (sc.2 i.toNat).toInt :: st) u bb σ Q := r_scr (by decide +kernel)
theorem k252_1360 : qx sc D 252 1360 [vr a, l1, l2, l3, l4, l5, l6] st u bb σ Q ↔ qx sc D 252 1361 [vr a, l1, l2, l3, l4, l5, l6] (vr a :: st) u bb σ Q := r_aload_n (k := 0) (by decide +kernel) rfl
theorem k252_1361 : qx sc D 252 1361 [l0, l1, l2, l3, vi x, l5, l6] st u bb σ Q ↔ qx sc D 252 1363 [l0, l1, l2, l3, vi x, l5, l6] (vi x :: st) u bb σ Q := r_iload (k := 4) (by decide +kernel) rfl
theorem k252_1363 : qx sc D 252 1363 ls st u bb σ Q ↔ qx sc D 252 1364 ls (vi 3 :: st) u bb σ Q := r_iconst (by decide +kernel)
theorem k252_1364 : qx sc D 252 1364 ls (vi b' :: vi a' :: st) u bb σ Q ↔ q_R (a' + b') ∧ qx sc D 252 1365 ls (vi (a' + b') :: st) u bb σ Q := r_iadd (by decide +kernel)
theorem k252_1365 : qx sc D 252 1365 ls (vi i :: vr 1000000 :: st) u bb σ Q ↔ (0 ≤ i ∧ i < sc.1) ∧ qx sc D 252 1366 ls (vi (sc.2 i.toNat).toInt :: st) u bb σ Q := r_scr (by decide +kernel)
theorem k252_1366 : qx sc D 252 1366 [vr a, l1, l2, l3, l4, l5, l6] st u bb σ Q ↔ qx sc D 252 1367 [vr a, l1, l2, l3, l4, l5, l6] (vr a :: st) u bb σ Q := r_aload_n (k := 0) (by decide +kernel) rfl
theorem k252_1367 : qx sc D 252 1367 [l0, l1, l2, l3, vi x, l5, l6] st u bb σ Q ↔ qx sc D 252 1369 [l0, l1, l2, l3, vi x, l5, l6] (vi x :: st) u bb σ Q := r_iload (k := 4) (by decide +kernel) rfl
theorem k252_1369 : qx sc D 252 1369 ls st u bb σ Q ↔ qx sc D 252 1370 ls (vi 4 :: st) u bb σ Q := r_iconst (by decide +kernel)
theorem k252_1370 : qx sc D 252 1370 ls (vi b' :: vi a' :: st) u bb σ Q ↔ q_R (a' + b') ∧ qx sc D 252 1371 ls (vi (a' + b') :: st) u bb σ Q := r_iadd (by decide +kernel)
theorem k252_1371 : qx sc D 252 1371 ls (vi i :: vr 1000000 :: st) u bb σ Q ↔ (0 ≤ i ∧ i < sc.1) ∧ qx sc D 252 1372 ls (vi (sc.2 i.toNat).toInt :: st) u bb σ Q := r_scr (by decide +kernel)
theorem k252_1372 : qx sc D 252 1372 ls (vi x :: st) u bb σ Q ↔ (x = 0 → qx sc D 252 1379 ls st u bb σ Q) ∧ (¬ (x = 0) → qx sc D 252 1375 ls st u bb σ Q) := r_if_eq (off := 7) (t := 1379) (by decide +kernel)
theorem k252_1375 : qx sc D 252 1375 ls st u bb σ Q ↔ qx sc D 252 1376 ls (vi 1 :: st) u bb σ Q := r_iconst (by decide +kernel)
theorem k252_1376 : qx sc D 252 1376 ls st u bb σ Q ↔ qx sc D 252 1380 ls st u bb σ Q := r_goto (off := 4) (by decide +kernel)
theorem k252_1379 : qx sc D 252 1379 ls st u bb σ Q ↔ qx sc D 252 1380 ls (vi 0 :: st) u bb σ Q := r_iconst (by decide +kernel)
theorem k252_1380 : qx sc D 252 1380 [l0, l1, l2, vr a, l4, l5, l6] st u bb σ Q ↔ qx sc D 252 1381 [l0, l1, l2, vr a, l4, l5, l6] (vr a :: st) u bb σ Q := r_aload_n (k := 3) (by decide +kernel) rfl
theorem k252_1381 (hu : u.1 + 4 ≤ 601024 ∧ u.2 + 24 ≤ 7293034) : qx sc (D + 1) 252 1381 ls [vr a5, vi x4, vi x3, vi x2, vi x1, vr a0] u bb σ Q ↔ qx sc D 244 0 [vr a0, vi x1, vi x2, vi x3, vi x4, vr a5, vn] [] (0, 0) bb σ (q_kn sc (D + 1) 252 1384 ls [] (u.1 + 4, u.2 + 24) Q) := r_callsX (idx := 152) (n := 6) (m := 7) (by decide +kernel) hu rfl (Nat.le_of_ble_eq_true rfl) ⟨Nat.le_of_ble_eq_true rfl, Nat.le_of_ble_eq_true rfl, rfl⟩ rfl
theorem k252_1384 : qx sc D 252 1384 [l0, l1, l2, l3, l4, l5, l6] (vi x :: st) u bb σ Q ↔ qx sc D 252 1386 [l0, l1, l2, l3, l4, vi x, l6] st u bb σ Q := r_istore (k := 5) (by decide +kernel) (Nat.le_of_ble_eq_true rfl)
theorem k252_1386 : qx sc D 252 1386 [l0, l1, vr a, l3, l4, l5, l6] st u bb σ Q ↔ qx sc D 252 1387 [l0, l1, vr a, l3, l4, l5, l6] (vr a :: st) u bb σ Q := r_aload_n (k := 2) (by decide +kernel) rfl
theorem k252_1387 : qx sc D 252 1387 [vr a, l1, l2, l3, l4, l5, l6] st u bb σ Q ↔ qx sc D 252 1388 [vr a, l1, l2, l3, l4, l5, l6] (vr a :: st) u bb σ Q := r_aload_n (k := 0) (by decide +kernel) rfl
theorem k252_1388 : qx sc D 252 1388 [l0, l1, l2, l3, vi x, l5, l6] st u bb σ Q ↔ qx sc D 252 1390 [l0, l1, l2, l3, vi x, l5, l6] (vi x :: st) u bb σ Q := r_iload (k := 4) (by decide +kernel) rfl
theorem k252_1390 : qx sc D 252 1390 ls st u bb σ Q ↔ qx sc D 252 1391 ls (vi 1 :: st) u bb σ Q := r_iconst (by decide +kernel)
theorem k252_1391 : qx sc D 252 1391 ls (vi b' :: vi a' :: st) u bb σ Q ↔ q_R (a' + b') ∧ qx sc D 252 1392 ls (vi (a' + b') :: st) u bb σ Q := r_iadd (by decide +kernel)
theorem k252_1392 : qx sc D 252 1392 ls (vi i :: vr 1000000 :: st) u bb σ Q ↔ (0 ≤ i ∧ i < sc.1) ∧ qx sc D 252 1393 ls (vi (sc.2 i.toNat).toInt :: st) u bb σ Q := r_scr (by decide +kernel)
theorem k252_1393 : qx sc D 252 1393 [vr a, l1, l2, l3, l4, l5, l6] st u bb σ Q ↔ qx sc D 252 1394 [vr a, l1, l2, l3, l4, l5, l6] (vr a :: st) u bb σ Q := r_aload_n (k := 0) (by decide +kernel) rfl
theorem k252_1394 : qx sc D 252 1394 [l0, l1, l2, l3, vi x, l5, l6] st u bb σ Q ↔ qx sc D 252 1396 [l0, l1, l2, l3, vi x, l5, l6] (vi x :: st) u bb σ Q := r_iload (k := 4) (by decide +kernel) rfl
theorem k252_1396 : qx sc D 252 1396 ls st u bb σ Q ↔ qx sc D 252 1397 ls (vi 2 :: st) u bb σ Q := r_iconst (by decide +kernel)
theorem k252_1397 : qx sc D 252 1397 ls (vi b' :: vi a' :: st) u bb σ Q ↔ q_R (a' + b') ∧ qx sc D 252 1398 ls (vi (a' + b') :: st) u bb σ Q := r_iadd (by decide +kernel)
theorem k252_1398 : qx sc D 252 1398 ls (vi i :: vr 1000000 :: st) u bb σ Q ↔ (0 ≤ i ∧ i < sc.1) ∧ qx sc D 252 1399 ls (vi (sc.2 i.toNat).toInt :: st) u bb σ Q := r_scr (by decide +kernel)
theorem k252_1399 : qx sc D 252 1399 [vr a, l1, l2, l3, l4, l5, l6] st u bb σ Q ↔ qx sc D 252 1400 [vr a, l1, l2, l3, l4, l5, l6] (vr a :: st) u bb σ Q := r_aload_n (k := 0) (by decide +kernel) rfl
theorem k252_1400 : qx sc D 252 1400 [l0, l1, l2, l3, vi x, l5, l6] st u bb σ Q ↔ qx sc D 252 1402 [l0, l1, l2, l3, vi x, l5, l6] (vi x :: st) u bb σ Q := r_iload (k := 4) (by decide +kernel) rfl
theorem k252_1402 : qx sc D 252 1402 ls st u bb σ Q ↔ qx sc D 252 1403 ls (vi 3 :: st) u bb σ Q := r_iconst (by decide +kernel)
theorem k252_1403 : qx sc D 252 1403 ls (vi b' :: vi a' :: st) u bb σ Q ↔ q_R (a' + b') ∧ qx sc D 252 1404 ls (vi (a' + b') :: st) u bb σ Q := r_iadd (by decide +kernel)
theorem k252_1404 : qx sc D 252 1404 ls (vi i :: vr 1000000 :: st) u bb σ Q ↔ (0 ≤ i ∧ i < sc.1) ∧ qx sc D 252 1405 ls (vi (sc.2 i.toNat).toInt :: st) u bb σ Q := r_scr (by decide +kernel)
theorem k252_1405 : qx sc D 252 1405 [vr a, l1, l2, l3, l4, l5, l6] st u bb σ Q ↔ qx sc D 252 1406 [vr a, l1, l2, l3, l4, l5, l6] (vr a :: st) u bb σ Q := r_aload_n (k := 0) (by decide +kernel) rfl
theorem k252_1406 : qx sc D 252 1406 [l0, l1, l2, l3, vi x, l5, l6] st u bb σ Q ↔ qx sc D 252 1408 [l0, l1, l2, l3, vi x, l5, l6] (vi x :: st) u bb σ Q := r_iload (k := 4) (by decide +kernel) rfl
theorem k252_1408 : qx sc D 252 1408 ls st u bb σ Q ↔ qx sc D 252 1409 ls (vi 4 :: st) u bb σ Q := r_iconst (by decide +kernel)
theorem k252_1409 : qx sc D 252 1409 ls (vi b' :: vi a' :: st) u bb σ Q ↔ q_R (a' + b') ∧ qx sc D 252 1410 ls (vi (a' + b') :: st) u bb σ Q := r_iadd (by decide +kernel)
theorem k252_1410 : qx sc D 252 1410 ls (vi i :: vr 1000000 :: st) u bb σ Q ↔ (0 ≤ i ∧ i < sc.1) ∧ qx sc D 252 1411 ls (vi (sc.2 i.toNat).toInt :: st) u bb σ Q := r_scr (by decide +kernel)
theorem k252_1411 : qx sc D 252 1411 ls (vi x :: st) u bb σ Q ↔ (x = 0 → qx sc D 252 1418 ls st u bb σ Q) ∧ (¬ (x = 0) → qx sc D 252 1414 ls st u bb σ Q) := r_if_eq (off := 7) (t := 1418) (by decide +kernel)
theorem k252_1414 : qx sc D 252 1414 ls st u bb σ Q ↔ qx sc D 252 1415 ls (vi 1 :: st) u bb σ Q := r_iconst (by decide +kernel)
theorem k252_1415 : qx sc D 252 1415 ls st u bb σ Q ↔ qx sc D 252 1419 ls st u bb σ Q := r_goto (off := 4) (by decide +kernel)
theorem k252_1418 : qx sc D 252 1418 ls st u bb σ Q ↔ qx sc D 252 1419 ls (vi 0 :: st) u bb σ Q := r_iconst (by decide +kernel)
theorem k252_1419 (hu : u.1 + 0 ≤ 601024 ∧ u.2 + 0 ≤ 7293034) : qx sc (D + 1) 252 1419 ls [vi x3, vi x2, vi x1, vi x0, vr 136] u bb σ Q ↔ qx sc D 210 0 [vr 136, vi x0, vi x1, vi x2, vi x3, vn, vn, vn, vn, vn] [] (0, 0) bb σ (q_kn sc (D + 1) 252 1422 ls [] (u.1 + 0, u.2 + 0) Q) := r_callvU (idx := 155) (n := 4) (m := 10) (by decide +kernel) hu rfl (Nat.le_of_ble_eq_true rfl) ⟨Nat.le_of_ble_eq_true rfl, Nat.le_of_ble_eq_true rfl, rfl⟩ rfl
theorem k252_1422 : qx sc D 252 1422 [l0, l1, l2, l3, l4, l5, l6] (vi x :: st) u bb σ Q ↔ qx sc D 252 1424 [l0, l1, l2, l3, l4, l5, vi x] st u bb σ Q := r_istore (k := 6) (by decide +kernel) (Nat.le_of_ble_eq_true rfl)
theorem k252_1424 : qx sc D 252 1424 [l0, l1, vr a, l3, l4, l5, l6] st u bb σ Q ↔ qx sc D 252 1425 [l0, l1, vr a, l3, l4, l5, l6] (vr a :: st) u bb σ Q := r_aload_n (k := 2) (by decide +kernel) rfl
theorem k252_1425 (hu : u.1 + 0 ≤ 601024 ∧ u.2 + 0 ≤ 7293034) : qx sc (D + 1) 252 1425 ls [vr 136] u bb σ Q ↔ qx sc D 223 0 [vr 136] [] (0, 0) bb σ (q_kn sc (D + 1) 252 1428 ls [] (u.1 + 0, u.2 + 0) Q) := r_callvU (idx := 95) (n := 0) (m := 1) (by decide +kernel) hu rfl (Nat.le_of_ble_eq_true rfl) ⟨Nat.le_of_ble_eq_true rfl, Nat.le_of_ble_eq_true rfl, rfl⟩ rfl
theorem k252_1428 : qx sc D 252 1428 [l0, l1, l2, l3, l4, vi x, l6] st u bb σ Q ↔ qx sc D 252 1430 [l0, l1, l2, l3, l4, vi x, l6] (vi x :: st) u bb σ Q := r_iload (k := 5) (by decide +kernel) rfl
theorem k252_1430 : qx sc D 252 1430 ls (vi b' :: vi a' :: st) u bb σ Q ↔ (a' = b' → qx sc D 252 1435 ls st u bb σ Q) ∧ (¬ (a' = b') → qx sc D 252 1433 ls st u bb σ Q) := r_ic_eq (off := 5) (t := 1435) (by decide +kernel)
theorem k252_1433 : qx sc D 252 1433 ls st u bb σ Q ↔ qx sc D 252 1434 ls (vi 0 :: st) u bb σ Q := r_iconst (by decide +kernel)
theorem k252_1434 (hu : u.1 + 0 ≤ 601024 ∧ u.2 + 0 ≤ 7293034) : qx sc D 252 1434 ls [vi x] u bb σ Q ↔ (x = 0 ∨ x = 1) ∧ Q (.inl (some (vi x))) bb σ := r_retB ⟨(by decide +kernel), (by decide +kernel), fit252 hu⟩
theorem k252_1435 : qx sc D 252 1435 [l0, l1, l2, l3, l4, vi x, l6] st u bb σ Q ↔ qx sc D 252 1437 [l0, l1, l2, l3, l4, vi x, l6] (vi x :: st) u bb σ Q := r_iload (k := 5) (by decide +kernel) rfl
theorem k252_1437 : qx sc D 252 1437 ls (vi x :: st) u bb σ Q ↔ (x = 0 → qx sc D 252 1440 ls st u bb σ Q) ∧ (¬ (x = 0) → qx sc D 252 1452 ls st u bb σ Q) := r_if_ne (off := 15) (t := 1452) (by decide +kernel)
theorem k252_1440 : qx sc D 252 1440 [l0, l1, l2, vr a, l4, l5, l6] st u bb σ Q ↔ qx sc D 252 1441 [l0, l1, l2, vr a, l4, l5, l6] (vr a :: st) u bb σ Q := r_aload_n (k := 3) (by decide +kernel) rfl
theorem k252_1441 : qx sc D 252 1441 ls st u bb σ Q ↔ qx sc D 252 1442 ls (vi 0 :: st) u bb σ Q := r_iconst (by decide +kernel)
theorem k252_1442 : qx sc D 252 1442 ls (vi i :: vr a :: st) u bb σ Q ↔ (q_ty a = 3 ∧ 0 ≤ i ∧ i < q_ln a) ∧ qx sc D 252 1443 ls (vl (σ a i) :: st) u bb σ Q := r_lald (by decide +kernel)
theorem k252_1443 : qx sc D 252 1443 [l0, l1, l2, l3, l4, l5, vi x] st u bb σ Q ↔ qx sc D 252 1445 [l0, l1, l2, l3, l4, l5, vi x] (vi x :: st) u bb σ Q := r_iload (k := 6) (by decide +kernel) rfl
theorem k252_1445 : qx sc D 252 1445 ls (vi a' :: st) u bb σ Q ↔ qx sc D 252 1446 ls (vl a' :: st) u bb σ Q := r_i2l (by decide +kernel)
theorem k252_1446 : qx sc D 252 1446 ls (vl b' :: vl a' :: st) u bb σ Q ↔ qx sc D 252 1447 ls (vi (if b' < a' then 1 else if a' = b' then 0 else -1) :: st) u bb σ Q := r_lcmp (by decide +kernel)
theorem k252_1447 : qx sc D 252 1447 ls (vi x :: st) u bb σ Q ↔ (x = 0 → qx sc D 252 1452 ls st u bb σ Q) ∧ (¬ (x = 0) → qx sc D 252 1450 ls st u bb σ Q) := r_if_eq (off := 5) (t := 1452) (by decide +kernel)
theorem k252_1450 : qx sc D 252 1450 ls st u bb σ Q ↔ qx sc D 252 1451 ls (vi 0 :: st) u bb σ Q := r_iconst (by decide +kernel)
theorem k252_1451 (hu : u.1 + 0 ≤ 601024 ∧ u.2 + 0 ≤ 7293034) : qx sc D 252 1451 ls [vi x] u bb σ Q ↔ (x = 0 ∨ x = 1) ∧ Q (.inl (some (vi x))) bb σ := r_retB ⟨(by decide +kernel), (by decide +kernel), fit252 hu⟩
theorem k252_1452 : qx sc D 252 1452 ls st u bb σ Q ↔ qx sc D 252 1480 ls st u bb σ Q := r_goto (off := 28) (by decide +kernel)
theorem k252_1455 : qx sc D 252 1455 [l0, vr a, l2, l3, l4, l5, l6] st u bb σ Q ↔ qx sc D 252 1456 [l0, vr a, l2, l3, l4, l5, l6] (vr a :: st) u bb σ Q := r_aload_n (k := 1) (by decide +kernel) rfl
theorem k252_1456 : qx sc D 252 1456 [vr a, l1, l2, l3, l4, l5, l6] st u bb σ Q ↔ qx sc D 252 1457 [vr a, l1, l2, l3, l4, l5, l6] (vr a :: st) u bb σ Q := r_aload_n (k := 0) (by decide +kernel) rfl
theorem k252_1457 : qx sc D 252 1457 [l0, l1, l2, l3, vi x, l5, l6] st u bb σ Q ↔ qx sc D 252 1459 [l0, l1, l2, l3, vi x, l5, l6] (vi x :: st) u bb σ Q := r_iload (k := 4) (by decide +kernel) rfl
theorem k252_1459 : qx sc D 252 1459 ls st u bb σ Q ↔ qx sc D 252 1460 ls (vi 1 :: st) u bb σ Q := r_iconst (by decide +kernel)
theorem k252_1460 : qx sc D 252 1460 ls (vi b' :: vi a' :: st) u bb σ Q ↔ q_R (a' + b') ∧ qx sc D 252 1461 ls (vi (a' + b') :: st) u bb σ Q := r_iadd (by decide +kernel)
theorem k252_1461 : qx sc D 252 1461 ls (vi i :: vr 1000000 :: st) u bb σ Q ↔ (0 ≤ i ∧ i < sc.1) ∧ qx sc D 252 1462 ls (vi (sc.2 i.toNat).toInt :: st) u bb σ Q := r_scr (by decide +kernel)
theorem k252_1462 (hu : u.1 + 0 ≤ 601024 ∧ u.2 + 0 ≤ 7293034) : qx sc (D + 1) 252 1462 ls [vi x0, vr 0] u bb σ Q ↔ qx sc D 99 0 [vr 0, vi x0] [] (0, 0) bb σ (q_kn sc (D + 1) 252 1465 ls [] (u.1 + 0, u.2 + 0) Q) := r_callvU (idx := 156) (n := 1) (m := 2) (by decide +kernel) hu rfl (Nat.le_of_ble_eq_true rfl) ⟨Nat.le_of_ble_eq_true rfl, Nat.le_of_ble_eq_true rfl, rfl⟩ rfl
theorem k252_1465 : qx sc D 252 1465 [l0, l1, vr a, l3, l4, l5, l6] st u bb σ Q ↔ qx sc D 252 1466 [l0, l1, vr a, l3, l4, l5, l6] (vr a :: st) u bb σ Q := r_aload_n (k := 2) (by decide +kernel) rfl
theorem k252_1466 : qx sc D 252 1466 [vr a, l1, l2, l3, l4, l5, l6] st u bb σ Q ↔ qx sc D 252 1467 [vr a, l1, l2, l3, l4, l5, l6] (vr a :: st) u bb σ Q := r_aload_n (k := 0) (by decide +kernel) rfl
theorem k252_1467 : qx sc D 252 1467 [l0, l1, l2, l3, vi x, l5, l6] st u bb σ Q ↔ qx sc D 252 1469 [l0, l1, l2, l3, vi x, l5, l6] (vi x :: st) u bb σ Q := r_iload (k := 4) (by decide +kernel) rfl
theorem k252_1469 : qx sc D 252 1469 ls st u bb σ Q ↔ qx sc D 252 1470 ls (vi 1 :: st) u bb σ Q := r_iconst (by decide +kernel)
theorem k252_1470 : qx sc D 252 1470 ls (vi b' :: vi a' :: st) u bb σ Q ↔ q_R (a' + b') ∧ qx sc D 252 1471 ls (vi (a' + b') :: st) u bb σ Q := r_iadd (by decide +kernel)
theorem k252_1471 : qx sc D 252 1471 ls (vi i :: vr 1000000 :: st) u bb σ Q ↔ (0 ≤ i ∧ i < sc.1) ∧ qx sc D 252 1472 ls (vi (sc.2 i.toNat).toInt :: st) u bb σ Q := r_scr (by decide +kernel)
theorem k252_1472 (hu : u.1 + 0 ≤ 601024 ∧ u.2 + 0 ≤ 7293034) : qx sc (D + 1) 252 1472 ls [vi x0, vr 136, vi x20] u bb σ Q ↔ qx sc D 142 0 [vr 136, vi x0] [] (0, 0) bb σ (q_kn sc (D + 1) 252 1475 ls [vi x20] (u.1 + 0, u.2 + 0) Q) := r_callvU (idx := 159) (n := 1) (m := 2) (by decide +kernel) hu rfl (Nat.le_of_ble_eq_true rfl) ⟨Nat.le_of_ble_eq_true rfl, Nat.le_of_ble_eq_true rfl, rfl⟩ rfl
theorem k252_1475 : qx sc D 252 1475 ls (vi b' :: vi a' :: st) u bb σ Q ↔ (a' = b' → qx sc D 252 1480 ls st u bb σ Q) ∧ (¬ (a' = b') → qx sc D 252 1478 ls st u bb σ Q) := r_ic_eq (off := 5) (t := 1480) (by decide +kernel)
theorem k252_1478 : qx sc D 252 1478 ls st u bb σ Q ↔ qx sc D 252 1479 ls (vi 0 :: st) u bb σ Q := r_iconst (by decide +kernel)
theorem k252_1479 (hu : u.1 + 0 ≤ 601024 ∧ u.2 + 0 ≤ 7293034) : qx sc D 252 1479 ls [vi x] u bb σ Q ↔ (x = 0 ∨ x = 1) ∧ Q (.inl (some (vi x))) bb σ := r_retB ⟨(by decide +kernel), (by decide +kernel), fit252 hu⟩
theorem k252_1480 : qx sc D 252 1480 [l0, l1, l2, l3, vi x, l5, l6] st u bb σ Q ↔ q_R (x + 6) ∧ qx sc D 252 1483 [l0, l1, l2, l3, vi (x + 6), l5, l6] st u bb σ Q := r_iinc (k := 4) (n := 6) (by decide +kernel) rfl
theorem k252_1483 : qx sc D 252 1483 ls st u bb σ Q ↔ qx sc D 252 23 ls st u bb σ Q := r_goto (off := (-1460)) (by decide +kernel)
theorem k252_1486 : qx sc D 252 1486 ls st u bb σ Q ↔ qx sc D 252 1487 ls (vi 1 :: st) u bb σ Q := r_iconst (by decide +kernel)
theorem k252_1487 (hu : u.1 + 0 ≤ 601024 ∧ u.2 + 0 ≤ 7293034) : qx sc D 252 1487 ls [vi x] u bb σ Q ↔ (x = 0 ∨ x = 1) ∧ Q (.inl (some (vi x))) bb σ := r_retB ⟨(by decide +kernel), (by decide +kernel), fit252 hu⟩
end K_LX
