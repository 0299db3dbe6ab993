section QS
variable {sc : Nat × (Nat → Int32)} {D y pc : Nat} {ls st : List V2} {u : PU} {bb : Bool} {σ : St} {Q : QP} {x i a' b' : Int} {k idx a c : Nat}
/-- a text's cell -/
def q_tr (j : Nat) : Nat := 2000000 + j
def q_C (c : Nat) : Prop := c = 88 ∨ c = 112
theorem r_if {p : Prop} [Decidable p] {A B : Prop} {i : Instr} (hp : p → (qx sc D y pc ls st u bb σ Q ↔ A)) (hn : ¬ p → (qx sc D y pc ls st u bb σ Q ↔ B)) : qx sc D y pc ls st u bb σ Q ↔ (p → A) ∧ (¬ p → B) := by
  by_cases h : p
  · rw [hp h]; exact ⟨fun q => ⟨fun _ => q, fun q' => absurd h q'⟩, fun q => q.1 h⟩
  · rw [hn h]; exact ⟨fun q => ⟨fun q' => absurd q' h, fun _ => q⟩, fun q => q.2 h⟩
theorem r_and {p : Prop} [Decidable p] {A : Prop} (hp : p → (qx sc D y pc ls st u bb σ Q ↔ A)) (hn : ¬ p → ¬ qx sc D y pc ls st u bb σ Q) : qx sc D y pc ls st u bb σ Q ↔ p ∧ A := by
  by_cases h : p
  · rw [hp h]; exact ⟨fun q => ⟨h, q⟩, fun q => q.2⟩
  · exact ⟨fun q => absurd q (hn h), fun q => absurd q.1 h⟩
theorem r_iconst {n : Int} (h : pm_dec y pc = some (.iconst n) ∧ q_R n) : qx sc D y pc ls st u bb σ Q ↔ qx sc D y (pc + 1) ls (vi n :: st) u bb σ Q := qx_go h.1 (by simp only [q_act, q_push, if_pos h.2])
theorem r_bipush {n : Int} (h : pm_dec y pc = some (.bipush n) ∧ -128 ≤ n ∧ n ≤ 127) : qx sc D y pc ls st u bb σ Q ↔ qx sc D y (pc + 2) ls (vi n :: st) u bb σ Q := qx_go h.1 (by simp only [q_act, if_pos h.2])
theorem r_sipush {n : Int} (h : pm_dec y pc = some (.sipush n) ∧ -32768 ≤ n ∧ n ≤ 32767) : qx sc D y pc ls st u bb σ Q ↔ qx sc D y (pc + 3) ls (vi n :: st) u bb σ Q := qx_go h.1 (by simp only [q_act, if_pos h.2])
theorem r_ldc {v : Int32} (h : pm_dec y pc = some (.ldc idx) ∧ pm_num (pm_own y) idx = some v ∧ v.toInt = x) : qx sc D y pc ls st u bb σ Q ↔ qx sc D y (pc + 2) ls (vi x :: st) u bb σ Q := qx_go h.1 (by simp only [q_act, h.2.1, h.2.2])
theorem r_ldcS {j : Nat} (h : pm_dec y pc = some (.ldc idx) ∧ pm_num (pm_own y) idx = none ∧ pm_str (pm_own y) idx = some j) : qx sc D y pc ls st u bb σ Q ↔ qx sc D y (pc + 2) ls (vr (q_tr j) :: st) u bb σ Q := qx_go h.1 (by simp only [q_act, h.2.1, h.2.2, q_tr])
theorem r_ldcSw {j : Nat} (h : pm_dec y pc = some (.ldc_w idx) ∧ pm_num (pm_own y) idx = none ∧ pm_str (pm_own y) idx = some j) : qx sc D y pc ls st u bb σ Q ↔ qx sc D y (pc + 3) ls (vr (q_tr j) :: st) u bb σ Q := qx_go h.1 (by simp only [q_act, h.2.1, h.2.2, q_tr])
theorem r_ldc_w {v : Int32} (h : pm_dec y pc = some (.ldc_w idx) ∧ pm_num (pm_own y) idx = some v ∧ v.toInt = x) : qx sc D y pc ls st u bb σ Q ↔ qx sc D y (pc + 3) ls (vi x :: st) u bb σ Q := qx_go h.1 (by simp only [q_act, h.2.1, h.2.2])
theorem r_iload (h : pm_dec y pc = some (.iload k)) (hx : ls[k]? = some (vi x)) : qx sc D y pc ls st u bb σ Q ↔ qx sc D y (pc + 2) ls (vi x :: st) u bb σ Q := qx_go h (by simp only [q_act, hx])
theorem r_iload_n {k : Fin 4} (h : pm_dec y pc = some (.iload_n k)) (hx : ls[k.val]? = some (vi x)) : qx sc D y pc ls st u bb σ Q ↔ qx sc D y (pc + 1) ls (vi x :: st) u bb σ Q := qx_go h (by simp only [q_act, hx])
theorem r_aload (h : pm_dec y pc = some (.aload k)) (hx : ls[k]? = some (vr a)) : qx sc D y pc ls st u bb σ Q ↔ qx sc D y (pc + 2) ls (vr a :: st) u bb σ Q := qx_go h (by simp only [q_act, hx])
theorem r_aload_n {k : Fin 4} (h : pm_dec y pc = some (.aload_n k)) (hx : ls[k.val]? = some (vr a)) : qx sc D y pc ls st u bb σ Q ↔ qx sc D y (pc + 1) ls (vr a :: st) u bb σ Q := qx_go h (by simp only [q_act, hx])
theorem r_istore (h : pm_dec y pc = some (.istore k)) (hk : k < ls.length) : qx sc D y pc ls (vi x :: st) u bb σ Q ↔ qx sc D y (pc + 2) (ls.set k (vi x)) st u bb σ Q := qx_go h (by simp only [q_act, if_pos hk])
theorem r_istore_n {k : Fin 4} (h : pm_dec y pc = some (.istore_n k)) (hk : k.val < ls.length) : qx sc D y pc ls (vi x :: st) u bb σ Q ↔ qx sc D y (pc + 1) (ls.set k.val (vi x)) st u bb σ Q := qx_go h (by simp only [q_act, if_pos hk])
theorem r_astore (h : pm_dec y pc = some (.astore k)) (hk : k < ls.length) : qx sc D y pc ls (vr a :: st) u bb σ Q ↔ qx sc D y (pc + 2) (ls.set k (vr a)) st u bb σ Q := qx_go h (by simp only [q_act, if_pos hk])
theorem r_astore_n {k : Fin 4} (h : pm_dec y pc = some (.astore_n k)) (hk : k.val < ls.length) : qx sc D y pc ls (vr a :: st) u bb σ Q ↔ qx sc D y (pc + 1) (ls.set k.val (vr a)) st u bb σ Q := qx_go h (by simp only [q_act, if_pos hk])
theorem r_iinc {n : Int} (h : pm_dec y pc = some (.iinc k n)) (hx : ls[k]? = some (vi x)) : qx sc D y pc ls st u bb σ Q ↔ q_R (x + n) ∧ qx sc D y (pc + 3) (ls.set k (vi (x + n))) st u bb σ Q :=
  r_and (fun hr => qx_go h (by simp only [q_act, hx, if_pos hr])) (fun hr => qx_no h (by simp only [q_act, hx, if_neg hr]))
theorem r_iadd (h : pm_dec y pc = some .iadd) : qx sc D y pc ls (vi b' :: vi a' :: st) u bb σ Q ↔ q_R (a' + b') ∧ qx sc D y (pc + 1) ls (vi (a' + b') :: st) u bb σ Q :=
  r_and (fun hr => qx_go h (by simp only [q_act, q_push, if_pos hr])) (fun hr => qx_no h (by simp only [q_act, q_push, if_neg hr]))
theorem r_isub (h : pm_dec y pc = some .isub) : qx sc D y pc ls (vi b' :: vi a' :: st) u bb σ Q ↔ q_R (a' - b') ∧ qx sc D y (pc + 1) ls (vi (a' - b') :: st) u bb σ Q :=
  r_and (fun hr => qx_go h (by simp only [q_act, q_push, if_pos hr])) (fun hr => qx_no h (by simp only [q_act, q_push, if_neg hr]))
theorem r_imul (h : pm_dec y pc = some .imul) : qx sc D y pc ls (vi b' :: vi a' :: st) u bb σ Q ↔ q_R (a' * b') ∧ qx sc D y (pc + 1) ls (vi (a' * b') :: st) u bb σ Q :=
  r_and (fun hr => qx_go h (by simp only [q_act, q_push, if_pos hr])) (fun hr => qx_no h (by simp only [q_act, q_push, if_neg hr]))
theorem r_ineg (h : pm_dec y pc = some .ineg) : qx sc D y pc ls (vi a' :: st) u bb σ Q ↔ q_R (-a') ∧ qx sc D y (pc + 1) ls (vi (-a') :: st) u bb σ Q :=
  r_and (fun hr => qx_go h (by simp only [q_act, q_push, if_pos hr])) (fun hr => qx_no h (by simp only [q_act, q_push, if_neg hr]))
theorem r_idiv (h : pm_dec y pc = some .idiv) : qx sc D y pc ls (vi b' :: vi a' :: st) u bb σ Q ↔ ((0 ≤ a' ∧ 0 < b') ∧ q_R (a' / b')) ∧ qx sc D y (pc + 1) ls (vi (a' / b') :: st) u bb σ Q :=
  r_and (fun hr => qx_go h (by simp only [q_act, q_push, if_pos hr.1, if_pos hr.2])) (fun hr => qx_no h (by
    simp only [q_act, q_push]
    by_cases h1 : 0 ≤ a' ∧ 0 < b'
    · rw [if_pos h1, if_neg (fun h2 => hr ⟨h1, h2⟩)]
    · rw [if_neg h1]))
theorem r_irem (h : pm_dec y pc = some .irem) : qx sc D y pc ls (vi b' :: vi a' :: st) u bb σ Q ↔ ((0 ≤ a' ∧ 0 < b') ∧ q_R (a' % b')) ∧ qx sc D y (pc + 1) ls (vi (a' % b') :: st) u bb σ Q :=
  r_and (fun hr => qx_go h (by simp only [q_act, q_push, if_pos hr.1, if_pos hr.2])) (fun hr => qx_no h (by
    simp only [q_act, q_push]
    by_cases h1 : 0 ≤ a' ∧ 0 < b'
    · rw [if_pos h1, if_neg (fun h2 => hr ⟨h1, h2⟩)]
    · rw [if_neg h1]))
theorem r_iand (h : pm_dec y pc = some .iand) : qx sc D y pc ls (vi b' :: vi a' :: st) u bb σ Q ↔ qx sc D y (pc + 1) ls (vi (q_I a' &&& q_I b').toInt :: st) u bb σ Q := qx_go h rfl
theorem r_ior (h : pm_dec y pc = some .ior) : qx sc D y pc ls (vi b' :: vi a' :: st) u bb σ Q ↔ qx sc D y (pc + 1) ls (vi (q_I a' ||| q_I b').toInt :: st) u bb σ Q := qx_go h rfl
theorem r_ishl (h : pm_dec y pc = some .ishl) : qx sc D y pc ls (vi b' :: vi a' :: st) u bb σ Q ↔ qx sc D y (pc + 1) ls (vi (q_I a' <<< (q_I b' &&& 31)).toInt :: st) u bb σ Q := qx_go h rfl
theorem r_ishr (h : pm_dec y pc = some .ishr) : qx sc D y pc ls (vi b' :: vi a' :: st) u bb σ Q ↔ qx sc D y (pc + 1) ls (vi (q_I a' >>> (q_I b' &&& 31)).toInt :: st) u bb σ Q := qx_go h rfl
theorem r_iushr (h : pm_dec y pc = some .iushr) : qx sc D y pc ls (vi b' :: vi a' :: st) u bb σ Q ↔ qx sc D y (pc + 1) ls (vi ((q_I a').toUInt32 >>> ((q_I b').toUInt32 &&& Int32.toUInt32 31)).toInt32.toInt :: st) u bb σ Q := qx_go h rfl
theorem r_i2b (h : pm_dec y pc = some .i2b) : qx sc D y pc ls (vi a' :: st) u bb σ Q ↔ qx sc D y (pc + 1) ls (vi (q_I a').toInt8.toInt32.toInt :: st) u bb σ Q := qx_go h rfl
theorem r_i2l (h : pm_dec y pc = some .i2l) : qx sc D y pc ls (vi a' :: st) u bb σ Q ↔ qx sc D y (pc + 1) ls (vl a' :: st) u bb σ Q := qx_go h rfl
theorem r_lcmp (h : pm_dec y pc = some .lcmp) : qx sc D y pc ls (vl b' :: vl a' :: st) u bb σ Q ↔ qx sc D y (pc + 1) ls (vi (if b' < a' then 1 else if a' = b' then 0 else -1) :: st) u bb σ Q := qx_go h rfl
theorem r_dupI (h : pm_dec y pc = some .dup) : qx sc D y pc ls (vi x :: st) u bb σ Q ↔ qx sc D y (pc + 1) ls (vi x :: vi x :: st) u bb σ Q := qx_go h rfl
theorem r_dupA (h : pm_dec y pc = some .dup) : qx sc D y pc ls (vr a :: st) u bb σ Q ↔ qx sc D y (pc + 1) ls (vr a :: vr a :: st) u bb σ Q := qx_go h rfl
theorem r_dup2 (h : pm_dec y pc = some .dup2) : qx sc D y pc ls (vi x :: vr a :: st) u bb σ Q ↔ qx sc D y (pc + 1) ls (vi x :: vr a :: vi x :: vr a :: st) u bb σ Q := qx_go h rfl
theorem r_popI (h : pm_dec y pc = some .pop) : qx sc D y pc ls (vi x :: st) u bb σ Q ↔ qx sc D y (pc + 1) ls st u bb σ Q := qx_go h rfl
theorem r_goto {off : Int} {t : Nat} (h : pm_dec y pc = some (.goto off) ∧ (pc : Int) + off = t) : qx sc D y pc ls st u bb σ Q ↔ qx sc D y t ls st u bb σ Q := qx_go h.1 (by simp only [q_act, q_go, h.2]; rw [if_pos (by omega), Int.toNat_natCast])
theorem r_ifC {cc : Jvm.ClassFile.Cond} {off : Int} {t : Nat} (h : pm_dec y pc = some (.ifCond cc off) ∧ (pc : Int) + off = t) : qx sc D y pc ls (vi x :: st) u bb σ Q ↔ (q_cmp cc x 0 = true → qx sc D y t ls st u bb σ Q) ∧ (¬ q_cmp cc x 0 = true → qx sc D y (pc + 3) ls st u bb σ Q) :=
  r_if (i := .iadd) (fun hp => qx_go h.1 (by simp only [q_act, q_go, h.2, if_pos hp]; rw [if_pos (by omega), if_pos (by omega), Int.toNat_natCast])) (fun hp => qx_go h.1 (by simp only [q_act, q_go, h.2, if_neg hp]; rw [if_pos (by omega)]))
theorem r_ific {cc : Jvm.ClassFile.Cond} {off : Int} {t : Nat} (h : pm_dec y pc = some (.if_icmp cc off) ∧ (pc : Int) + off = t) : qx sc D y pc ls (vi b' :: vi a' :: st) u bb σ Q ↔ (q_cmp cc a' b' = true → qx sc D y t ls st u bb σ Q) ∧ (¬ q_cmp cc a' b' = true → qx sc D y (pc + 3) ls st u bb σ Q) :=
  r_if (i := .iadd) (fun hp => qx_go h.1 (by simp only [q_act, q_go, h.2, if_pos hp]; rw [if_pos (by omega), if_pos (by omega), Int.toNat_natCast])) (fun hp => qx_go h.1 (by simp only [q_act, q_go, h.2, if_neg hp]; rw [if_pos (by omega)]))
theorem r_if_eq {off : Int} {t : Nat} (h : pm_dec y pc = some (.ifCond .eq off) ∧ (pc : Int) + off = t) : qx sc D y pc ls (vi x :: st) u bb σ Q ↔ (x = 0 → qx sc D y t ls st u bb σ Q) ∧ (¬ (x = 0) → qx sc D y (pc + 3) ls st u bb σ Q) := by
  rw [r_ifC h]
  simp only [q_cmp, decide_eq_true_eq]
theorem r_ic_eq {off : Int} {t : Nat} (h : pm_dec y pc = some (.if_icmp .eq off) ∧ (pc : Int) + off = t) : qx sc D y pc ls (vi b' :: vi a' :: st) u bb σ Q ↔ (a' = b' → qx sc D y t ls st u bb σ Q) ∧ (¬ (a' = b') → qx sc D y (pc + 3) ls st u bb σ Q) := by
  rw [r_ific h]
  simp only [q_cmp, decide_eq_true_eq]
theorem r_if_ne {off : Int} {t : Nat} (h : pm_dec y pc = some (.ifCond .ne off) ∧ (pc : Int) + off = t) : qx sc D y pc ls (vi x :: st) u bb σ Q ↔ (x = 0 → qx sc D y (pc + 3) ls st u bb σ Q) ∧ (¬ (x = 0) → qx sc D y t ls st u bb σ Q) := by
  rw [r_ifC h]
  simp only [q_cmp, decide_eq_true_eq]
  constructor
  · rintro ⟨h1, h2⟩
    exact ⟨fun hp => by first | exact h1 hp | exact h2 (by omega), fun hp => by first | exact h2 hp | exact h1 (by omega)⟩
  · rintro ⟨h1, h2⟩
    exact ⟨fun hp => by first | exact h1 hp | exact h2 (by omega), fun hp => by first | exact h2 hp | exact h1 (by omega)⟩
theorem r_ic_ne {off : Int} {t : Nat} (h : pm_dec y pc = some (.if_icmp .ne off) ∧ (pc : Int) + off = t) : qx sc D y pc ls (vi b' :: vi a' :: st) u bb σ Q ↔ (a' = b' → qx sc D y (pc + 3) ls st u bb σ Q) ∧ (¬ (a' = b') → qx sc D y t ls st u bb σ Q) := by
  rw [r_ific h]
  simp only [q_cmp, decide_eq_true_eq]
  constructor
  · rintro ⟨h1, h2⟩
    exact ⟨fun hp => by first | exact h1 hp | exact h2 (by omega), fun hp => by first | exact h2 hp | exact h1 (by omega)⟩
  · rintro ⟨h1, h2⟩
    exact ⟨fun hp => by first | exact h1 hp | exact h2 (by omega), fun hp => by first | exact h2 hp | exact h1 (by omega)⟩
theorem r_if_lt {off : Int} {t : Nat} (h : pm_dec y pc = some (.ifCond .lt off) ∧ (pc : Int) + off = t) : qx sc D y pc ls (vi x :: st) u bb σ Q ↔ (x < 0 → qx sc D y t ls st u bb σ Q) ∧ (¬ (x < 0) → qx sc D y (pc + 3) ls st u bb σ Q) := by
  rw [r_ifC h]
  simp only [q_cmp, decide_eq_true_eq]
theorem r_ic_lt {off : Int} {t : Nat} (h : pm_dec y pc = some (.if_icmp .lt off) ∧ (pc : Int) + off = t) : qx sc D y pc ls (vi b' :: vi a' :: st) u bb σ Q ↔ (a' < b' → qx sc D y t ls st u bb σ Q) ∧ (¬ (a' < b') → qx sc D y (pc + 3) ls st u bb σ Q) := by
  rw [r_ific h]
  simp only [q_cmp, decide_eq_true_eq]
theorem r_if_ge {off : Int} {t : Nat} (h : pm_dec y pc = some (.ifCond .ge off) ∧ (pc : Int) + off = t) : qx sc D y pc ls (vi x :: st) u bb σ Q ↔ (x < 0 → qx sc D y (pc + 3) ls st u bb σ Q) ∧ (¬ (x < 0) → qx sc D y t ls st u bb σ Q) := by
  rw [r_ifC h]
  simp only [q_cmp, decide_eq_true_eq]
  constructor
  · rintro ⟨h1, h2⟩
    exact ⟨fun hp => by first | exact h1 hp | exact h2 (by omega), fun hp => by first | exact h2 hp | exact h1 (by omega)⟩
  · rintro ⟨h1, h2⟩
    exact ⟨fun hp => by first | exact h1 hp | exact h2 (by omega), fun hp => by first | exact h2 hp | exact h1 (by omega)⟩
theorem r_ic_ge {off : Int} {t : Nat} (h : pm_dec y pc = some (.if_icmp .ge off) ∧ (pc : Int) + off = t) : qx sc D y pc ls (vi b' :: vi a' :: st) u bb σ Q ↔ (a' < b' → qx sc D y (pc + 3) ls st u bb σ Q) ∧ (¬ (a' < b') → qx sc D y t ls st u bb σ Q) := by
  rw [r_ific h]
  simp only [q_cmp, decide_eq_true_eq]
  constructor
  · rintro ⟨h1, h2⟩
    exact ⟨fun hp => by first | exact h1 hp | exact h2 (by omega), fun hp => by first | exact h2 hp | exact h1 (by omega)⟩
  · rintro ⟨h1, h2⟩
    exact ⟨fun hp => by first | exact h1 hp | exact h2 (by omega), fun hp => by first | exact h2 hp | exact h1 (by omega)⟩
theorem r_if_gt {off : Int} {t : Nat} (h : pm_dec y pc = some (.ifCond .gt off) ∧ (pc : Int) + off = t) : qx sc D y pc ls (vi x :: st) u bb σ Q ↔ (0 < x → qx sc D y t ls st u bb σ Q) ∧ (¬ (0 < x) → qx sc D y (pc + 3) ls st u bb σ Q) := by
  rw [r_ifC h]
  simp only [q_cmp, decide_eq_true_eq]
theorem r_ic_gt {off : Int} {t : Nat} (h : pm_dec y pc = some (.if_icmp .gt off) ∧ (pc : Int) + off = t) : qx sc D y pc ls (vi b' :: vi a' :: st) u bb σ Q ↔ (b' < a' → qx sc D y t ls st u bb σ Q) ∧ (¬ (b' < a') → qx sc D y (pc + 3) ls st u bb σ Q) := by
  rw [r_ific h]
  simp only [q_cmp, decide_eq_true_eq]
theorem r_if_le {off : Int} {t : Nat} (h : pm_dec y pc = some (.ifCond .le off) ∧ (pc : Int) + off = t) : qx sc D y pc ls (vi x :: st) u bb σ Q ↔ (0 < x → qx sc D y (pc + 3) ls st u bb σ Q) ∧ (¬ (0 < x) → qx sc D y t ls st u bb σ Q) := by
  rw [r_ifC h]
  simp only [q_cmp, decide_eq_true_eq]
  constructor
  · rintro ⟨h1, h2⟩
    exact ⟨fun hp => by first | exact h1 hp | exact h2 (by omega), fun hp => by first | exact h2 hp | exact h1 (by omega)⟩
  · rintro ⟨h1, h2⟩
    exact ⟨fun hp => by first | exact h1 hp | exact h2 (by omega), fun hp => by first | exact h2 hp | exact h1 (by omega)⟩
theorem r_ic_le {off : Int} {t : Nat} (h : pm_dec y pc = some (.if_icmp .le off) ∧ (pc : Int) + off = t) : qx sc D y pc ls (vi b' :: vi a' :: st) u bb σ Q ↔ (b' < a' → qx sc D y (pc + 3) ls st u bb σ Q) ∧ (¬ (b' < a') → qx sc D y t ls st u bb σ Q) := by
  rw [r_ific h]
  simp only [q_cmp, decide_eq_true_eq]
  constructor
  · rintro ⟨h1, h2⟩
    exact ⟨fun hp => by first | exact h1 hp | exact h2 (by omega), fun hp => by first | exact h2 hp | exact h1 (by omega)⟩
  · rintro ⟨h1, h2⟩
    exact ⟨fun hp => by first | exact h1 hp | exact h2 (by omega), fun hp => by first | exact h2 hp | exact h1 (by omega)⟩
theorem r_tsw {d lo hi : Int} {offs : Array Int} {dt : Nat} {tg : List Nat} (h : pm_dec y pc = some (.tableswitch d lo hi offs) ∧ (pc : Int) + d = dt ∧ offs.toList.map (fun o => (pc : Int) + o) = tg.map (fun t : Nat => (t : Int)) ∧ hi - lo + 1 = tg.length) : qx sc D y pc ls (vi x :: st) u bb σ Q ↔ qx sc D y (if x < lo ∨ hi < x then dt else tg.getD (x - lo).toNat 0) ls st u bb σ Q := by
  obtain ⟨h1, h2, h3, h4⟩ := h
  by_cases hx : x < lo ∨ hi < x
  · rw [if_pos hx]
    exact qx_go h1 (by simp only [q_act, if_pos hx, q_go, h2]; rw [if_pos (by omega), Int.toNat_natCast])
  · rw [if_neg hx]
    have hl : offs.size = tg.length := by
      have := congrArg List.length h3
      simpa using this
    have hk : (x - lo).toNat < tg.length := by omega
    have hk2 : (x - lo).toNat < offs.toList.length := by rw [Array.length_toList]; omega
    have e1 : (pc : Int) + offs[(x - lo).toNat]'(by omega) = (tg.getD (x - lo).toNat 0 : Nat) := by
      have := congrArg (fun l : List Int => l[(x - lo).toNat]?) h3
      simp only [List.getElem?_map] at this
      rw [List.getElem?_eq_getElem hk2, List.getElem?_eq_getElem hk] at this
      simp only [Option.map_some, Option.some.injEq, Array.getElem_toList] at this
      rw [this, List.getD_eq_getElem?_getD, List.getElem?_eq_getElem hk]
      rfl
    exact qx_go h1 (by
      simp only [q_act, if_neg hx]
      rw [Array.getElem?_eq_getElem (by omega)]
      simp only [q_go, e1]
      rw [if_pos (by omega), Int.toNat_natCast])
theorem r_getI (h : pm_dec y pc = some (.getfield idx) ∧ pm_fld (pm_own y) idx = some (c, k) ∧ q_fk a k = some (c, 0, 0)) : qx sc D y pc ls (vr a :: st) u bb σ Q ↔ qx sc D y (pc + 3) ls (vi (σ a k) :: st) u bb σ Q := qx_go h.1 (by simp only [q_act, h.2.1, h.2.2, if_true, q_get])
theorem r_getR {b : Nat} (h : pm_dec y pc = some (.getfield idx) ∧ pm_fld (pm_own y) idx = some (c, k) ∧ q_fk a k = some (c, 2, b)) : qx sc D y pc ls (vr a :: st) u bb σ Q ↔ qx sc D y (pc + 3) ls (vr b :: st) u bb σ Q := qx_go h.1 (by simp only [q_act, h.2.1, h.2.2, if_true, q_get])
theorem r_getM (h : pm_dec y pc = some (.getfield idx) ∧ pm_fld (pm_own y) idx = some (c, k) ∧ q_fk a k = some (c, 3, 0)) : qx sc D y pc ls (vr a :: st) u bb σ Q ↔ 0 ≤ σ a k ∧ qx sc D y (pc + 3) ls (vr (σ a k).toNat :: st) u bb σ Q :=
  r_and (fun hr => qx_go h.1 (by simp only [q_act, h.2.1, h.2.2, if_true, q_get, if_pos hr])) (fun hr => qx_no h.1 (by simp only [q_act, h.2.1, h.2.2, if_true, q_get, if_neg hr]))
theorem r_getIc (h : pm_dec y pc = some (.getfield idx) ∧ pm_fld (pm_own y) idx = some (4, k) ∧ q_fk 88 k = some (4, 0, 0) ∧ q_fk 112 k = some (4, 0, 0)) (hc : q_C c) : qx sc D y pc ls (vr c :: st) u bb σ Q ↔ qx sc D y (pc + 3) ls (vi (σ c k) :: st) u bb σ Q := by
  have e : q_fk c k = some (4, 0, 0) := (by rcases hc with rfl | rfl <;> first | exact h.2.2.1 | exact h.2.2.2)
  exact qx_go h.1 (by simp only [q_act, h.2.1, e, if_true, q_get])
theorem r_getRc {j : Nat} (h : pm_dec y pc = some (.getfield idx) ∧ pm_fld (pm_own y) idx = some (4, k) ∧ q_fk 88 k = some (4, 1, j) ∧ q_fk 112 k = some (4, 1, j)) (hc : q_C c) : qx sc D y pc ls (vr c :: st) u bb σ Q ↔ qx sc D y (pc + 3) ls (vr (c + j) :: st) u bb σ Q := by
  have e : q_fk c k = some (4, 1, j) := (by rcases hc with rfl | rfl <;> first | exact h.2.2.1 | exact h.2.2.2)
  exact qx_go h.1 (by simp only [q_act, h.2.1, e, if_true, q_get])
theorem r_getRt {j t : Nat} (h : pm_dec y pc = some (.getfield idx) ∧ pm_fld (pm_own y) idx = some (11, k) ∧ q_fk 104 k = some (11, 1, j) ∧ q_fk 128 k = some (11, 1, j) ∧ 16 + j = t) (hc : q_C c) : qx sc D y pc ls (vr (c + 16) :: st) u bb σ Q ↔ qx sc D y (pc + 3) ls (vr (c + t) :: st) u bb σ Q := by
  have e : q_fk (c + 16) k = some (11, 1, j) := (by rcases hc with rfl | rfl <;> first | exact h.2.2.1 | exact h.2.2.2.1)
  rw [← h.2.2.2.2, ← Nat.add_assoc]
  exact qx_go h.1 (by simp only [q_act, h.2.1, e, if_true, q_get])
theorem r_putI (h : pm_dec y pc = some (.putfield idx) ∧ pm_fld (pm_own y) idx = some (c, k) ∧ q_fk a k = some (c, 0, 0) ∧ pm_fi c k = true ∧ pm_wr y c k = true) : qx sc D y pc ls (vi x :: vr a :: st) u bb σ Q ↔ qx sc D y (pc + 3) ls st u bb (q_up σ a k x) Q := qx_go h.1 (by simp only [q_act, h.2.1]; rw [if_pos h.2.2])
theorem r_putIc (h : pm_dec y pc = some (.putfield idx) ∧ pm_fld (pm_own y) idx = some (4, k) ∧ (q_fk 88 k = some (4, 0, 0) ∧ q_fk 112 k = some (4, 0, 0)) ∧ pm_fi 4 k = true ∧ pm_wr y 4 k = true) (hc : q_C c) : qx sc D y pc ls (vi x :: vr c :: st) u bb σ Q ↔ qx sc D y (pc + 3) ls st u bb (q_up σ c k x) Q := by
  have e : q_fk c k = some (4, 0, 0) := (by rcases hc with rfl | rfl <;> first | exact h.2.2.1.1 | exact h.2.2.1.2)
  exact qx_go h.1 (by simp only [q_act, h.2.1]; rw [if_pos ⟨e, h.2.2.2⟩])
theorem r_putM {b : Nat} (h : pm_dec y pc = some (.putfield idx) ∧ pm_fld (pm_own y) idx = some (c, k) ∧ q_fk a k = some (c, 3, 0) ∧ pm_fi c k = false ∧ pm_wr y c k = true) : qx sc D y pc ls (vr b :: vr a :: st) u bb σ Q ↔ b < 1000000 ∧ qx sc D y (pc + 3) ls st u bb (q_up σ a k b) Q :=
  r_and (fun hr => qx_go h.1 (by simp only [q_act, h.2.1]; rw [if_pos ⟨h.2.2.1, h.2.2.2.1, h.2.2.2.2, hr⟩])) (fun hr => qx_no h.1 (by simp only [q_act, h.2.1]; rw [if_neg (fun q => hr q.2.2.2)]))
theorem r_iald (h : pm_dec y pc = some .iaload ∧ ¬ pm_own y = 16) : qx sc D y pc ls (vi i :: vr a :: st) u bb σ Q ↔ (q_ty a = 0 ∧ 0 ≤ i ∧ i < q_ln a) ∧ qx sc D y (pc + 1) ls (vi (σ a i) :: st) u bb σ Q :=
  r_and (fun hr => qx_go h.1 (by simp only [q_act]; rw [if_neg (fun q => h.2 q.2), if_pos hr])) (fun hr => qx_no h.1 (by simp only [q_act]; rw [if_neg (fun q => h.2 q.2), if_neg hr]))
theorem r_bald (h : pm_dec y pc = some .baload) : qx sc D y pc ls (vi i :: vr a :: st) u bb σ Q ↔ ((q_ty a = 1 ∨ q_ty a = 2) ∧ 0 ≤ i ∧ i < q_ln a) ∧ qx sc D y (pc + 1) ls (vi (σ a i) :: st) u bb σ Q :=
  r_and (fun hr => qx_go h (by simp only [q_act]; rw [if_pos hr])) (fun hr => qx_no h (by simp only [q_act]; rw [if_neg hr]))
theorem r_lald (h : pm_dec y pc = some .laload) : qx sc D y pc ls (vi i :: vr a :: st) u bb σ Q ↔ (q_ty a = 3 ∧ 0 ≤ i ∧ i < q_ln a) ∧ qx sc D y (pc + 1) ls (vl (σ a i) :: st) u bb σ Q :=
  r_and (fun hr => qx_go h (by simp only [q_act]; rw [if_pos hr])) (fun hr => qx_no h (by simp only [q_act]; rw [if_neg hr]))
theorem r_aald (h : pm_dec y pc = some .aaload) : qx sc D y pc ls (vi i :: vr a :: st) u bb σ Q ↔ (q_ty a = 4 ∧ 0 ≤ i ∧ i < q_ln a) ∧ qx sc D y (pc + 1) ls (vr (a + 1 + i.toNat) :: st) u bb σ Q :=
  r_and (fun hr => qx_go h (by simp only [q_act]; rw [if_pos hr])) (fun hr => qx_no h (by simp only [q_act]; rw [if_neg hr]))
theorem r_iast (h : pm_dec y pc = some .iastore) : qx sc D y pc ls (vi x :: vi i :: vr a :: st) u bb σ Q ↔ (q_ty a = 0 ∧ 0 ≤ i ∧ i < q_ln a) ∧ qx sc D y (pc + 1) ls st u bb (q_up σ a i x) Q :=
  r_and (fun hr => qx_go h (by simp only [q_act]; rw [if_pos hr])) (fun hr => qx_no h (by simp only [q_act]; rw [if_neg hr]))
theorem r_bast (h : pm_dec y pc = some .bastore) : qx sc D y pc ls (vi x :: vi i :: vr a :: st) u bb σ Q ↔ (((q_ty a = 1 ∧ -128 ≤ x ∧ x ≤ 127) ∨ (q_ty a = 2 ∧ (x = 0 ∨ x = 1))) ∧ 0 ≤ i ∧ i < q_ln a) ∧ qx sc D y (pc + 1) ls st u bb (q_up σ a i x) Q :=
  r_and (fun hr => qx_go h (by simp only [q_act]; rw [if_pos hr])) (fun hr => qx_no h (by simp only [q_act]; rw [if_neg hr]))
theorem r_last (h : pm_dec y pc = some .lastore) : qx sc D y pc ls (vl x :: vi i :: vr a :: st) u bb σ Q ↔ (q_ty a = 3 ∧ 0 ≤ i ∧ i < q_ln a) ∧ qx sc D y (pc + 1) ls st u bb (q_up σ a i x) Q :=
  r_and (fun hr => qx_go h (by simp only [q_act]; rw [if_pos hr])) (fun hr => qx_no h (by simp only [q_act]; rw [if_neg hr]))
theorem r_alen (h : pm_dec y pc = some .arraylength ∧ ¬ pm_own y = 16) : qx sc D y pc ls (vr a :: st) u bb σ Q ↔ q_ty a < 5 ∧ qx sc D y (pc + 1) ls (vi (q_ln a) :: st) u bb σ Q :=
  r_and (fun hr => qx_go h.1 (by simp only [q_act]; rw [if_neg (fun q => h.2 q.2), if_pos hr])) (fun hr => qx_no h.1 (by simp only [q_act]; rw [if_neg (fun q => h.2 q.2), if_neg hr]))
theorem r_ret (h : pm_dec y pc = some .ireturn ∧ pm_ret y = some .int ∧ pm_fits y 0 0 u = true) : qx sc D y pc ls [vi x] u bb σ Q ↔ Q (.inl (some (vi x))) bb σ := by
  rw [qx_end h.1 (r := .inl (some (vi x))) (by simp only [q_act, h.2.1, q_retOk]; rw [if_pos ⟨trivial, h.2.2⟩])]
  simp
theorem r_retB (h : pm_dec y pc = some .ireturn ∧ pm_ret y = some .boolean ∧ pm_fits y 0 0 u = true) : qx sc D y pc ls [vi x] u bb σ Q ↔ (x = 0 ∨ x = 1) ∧ Q (.inl (some (vi x))) bb σ := by
  refine r_and (fun hr => ?_) (fun hr => qx_no h.1 ?_)
  · rw [qx_end h.1 (r := .inl (some (vi x))) (by simp only [q_act, h.2.1, q_retOk]; rw [if_pos ⟨by simpa using hr, h.2.2⟩])]
    simp
  · simp only [q_act, h.2.1, q_retOk]
    rw [if_neg (fun q => hr (by simpa using q.1))]
theorem r_retV (h : pm_dec y pc = some .return_ ∧ pm_ret y = none ∧ pm_fits y 0 0 u = true) : qx sc D y pc ls [] u bb σ Q ↔ Q (.inl none) bb σ := by
  rw [qx_end h.1 (r := .inl none) (by simp only [q_act, h.2.1]; rw [if_pos h.2.2])]
  simp
theorem r_throw {e : Nat} (h : pm_dec y pc = some (.new idx) ∧ pm_throw y pc idx = some e ∧ pm_fits y 1 6 u = true) : qx sc D y pc ls [] u bb σ Q ↔ Q (.inr e) false σ := by
  rw [qx_end h.1 (r := .inr e) (by simp only [q_act, h.2.1]; rw [if_pos ⟨by decide, h.2.2⟩])]
  simp
/-- what is left to do behind a call, in a method without handlers -/
def q_kn (sc : Nat × (Nat → Int32)) (D y pc : Nat) (ls st : List V2) (u : PU) (Q : QP) : QP := fun r bb σ => match r with
  | .inl v => qx sc D y pc ls (v.toList ++ st) u bb σ Q
  | .inr e => Q (.inr e) bb σ
theorem q_kn_v {v : V2} : q_kn sc D y pc ls st u Q (.inl (some v)) bb σ ↔ qx sc D y pc ls (v :: st) u bb σ Q := Iff.rfl
theorem q_kn_n : q_kn sc D y pc ls st u Q (.inl none) bb σ ↔ qx sc D y pc ls st u bb σ Q := Iff.rfl
theorem q_kn_e {e : Nat} : q_kn sc D y pc ls st u Q (.inr e) bb σ ↔ Q (.inr e) bb σ := Iff.rfl
theorem q_k_eq {y' : Nat} (h : pm_ini y' = false ∧ pm_hh y = []) : q_k sc D y pc y' ls st u Q = q_kn sc (D + 1) y (pc + 3) ls st (u.1 + pm_bc y', u.2 + pm_bs y') Q := by
  funext r bb σ
  cases r with
  | inl v => rfl
  | inr e => simp only [q_k, q_kn, h.1, h.2, if_true]; simp
/-- a call of a method of an object -/
theorem r_callv {y' n m p3 : Nat} {as st' ls' : List V2} {u' : PU} (h : pm_dec y pc = some (.invokevirtual idx) ∧ pm_mth (pm_own y) idx = some (0, y') ∧ pm_np y' = n ∧ pm_nL y' = m ∧ (match q_sh a with | .inr (c, _) => decide (c = pm_own y' ∧ a < q_N) | .inl _ => false) = true ∧ (pm_ini y' = false ∧ pm_hh y = []) ∧ pm_fits y 0 0 u = true ∧ pm_fits y (pm_bc y') (pm_bs y') u = true ∧ (u.1 + pm_bc y', u.2 + pm_bs y') = u' ∧ pc + 3 = p3)
    (ht : q_take (n + 1) st = some (vr a :: as, st')) (hs : q_sum st ≤ 100) (hc : q_sum st' ≤ 8 ∧ (vr a :: as).length ≤ m ∧ (vr a :: as).all (fun v => q_cat v == 1) = true) (hl : (vr a :: as) ++ List.replicate (m - (vr a :: as).length) vn = ls') :
    qx sc (D + 1) y pc ls st u bb σ Q ↔ qx sc D y' 0 ls' [] (0, 0) bb σ (q_kn sc (D + 1) y p3 ls st' u' Q) := by
  obtain ⟨h1, h2, rfl, rfl, h5, h6, h7, h8, rfl, rfl⟩ := h
  rw [← q_k_eq h6, ← hl]
  refine qx_call h1 ?_ ⟨hc.1, hc.2.1, hc.2.2, h8⟩
  simp only [q_act, h2, true_or, if_true, q_call]
  rw [if_pos ⟨hs, h7⟩]
  simp only [ht]
  split at h5
  · rename_i c9 fs9 hsh
    rw [hsh]
    simp only
    rw [if_pos (by simpa using h5)]
  · cases h5
theorem r_callc {y' n m p3 : Nat} {as st' ls' : List V2} {u' : PU} (h : pm_dec y pc = some (.invokevirtual idx) ∧ pm_mth (pm_own y) idx = some (0, y') ∧ pm_np y' = n ∧ pm_nL y' = m ∧ pm_own y' = 4 ∧ (pm_ini y' = false ∧ pm_hh y = []) ∧ pm_fits y 0 0 u = true ∧ pm_fits y (pm_bc y') (pm_bs y') u = true ∧ (u.1 + pm_bc y', u.2 + pm_bs y') = u' ∧ pc + 3 = p3) (hcc : q_C c)
    (ht : q_take (n + 1) st = some (vr c :: as, st')) (hs : q_sum st ≤ 100) (hc : q_sum st' ≤ 8 ∧ (vr c :: as).length ≤ m ∧ (vr c :: as).all (fun v => q_cat v == 1) = true) (hl : (vr c :: as) ++ List.replicate (m - (vr c :: as).length) vn = ls') :
    qx sc (D + 1) y pc ls st u bb σ Q ↔ qx sc D y' 0 ls' [] (0, 0) bb σ (q_kn sc (D + 1) y p3 ls st' u' Q) := by
  obtain ⟨h1, h2, h3, h4, h5, h6⟩ := h
  refine r_callv ⟨h1, h2, h3, h4, ?_, h6⟩ ht hs hc hl
  rw [h5]
  rcases hcc with rfl | rfl <;> decide +kernel
theorem r_callt {y' n m p3 : Nat} {as st' ls' : List V2} {u' : PU} (h : pm_dec y pc = some (.invokevirtual idx) ∧ pm_mth (pm_own y) idx = some (0, y') ∧ pm_np y' = n ∧ pm_nL y' = m ∧ pm_own y' = 11 ∧ (pm_ini y' = false ∧ pm_hh y = []) ∧ pm_fits y 0 0 u = true ∧ pm_fits y (pm_bc y') (pm_bs y') u = true ∧ (u.1 + pm_bc y', u.2 + pm_bs y') = u' ∧ pc + 3 = p3) (hcc : q_C c)
    (ht : q_take (n + 1) st = some (vr (c + 16) :: as, st')) (hs : q_sum st ≤ 100) (hc : q_sum st' ≤ 8 ∧ (vr (c + 16) :: as).length ≤ m ∧ (vr (c + 16) :: as).all (fun v => q_cat v == 1) = true) (hl : (vr (c + 16) :: as) ++ List.replicate (m - (vr (c + 16) :: as).length) vn = ls') :
    qx sc (D + 1) y pc ls st u bb σ Q ↔ qx sc D y' 0 ls' [] (0, 0) bb σ (q_kn sc (D + 1) y p3 ls st' u' Q) := by
  obtain ⟨h1, h2, h3, h4, h5, h6⟩ := h
  refine r_callv ⟨h1, h2, h3, h4, ?_, h6⟩ ht hs hc hl
  rw [h5]
  rcases hcc with rfl | rfl <;> decide +kernel
/-- a call of a static method -/
theorem r_calls {y' n m p3 : Nat} {as st' ls' : List V2} {u' : PU} (h : pm_dec y pc = some (.invokestatic idx) ∧ pm_mth (pm_own y) idx = some (2, y') ∧ pm_np y' = n ∧ pm_nL y' = m ∧ (pm_ini y' = false ∧ pm_hh y = []) ∧ pm_fits y 0 0 u = true ∧ pm_fits y (pm_bc y') (pm_bs y') u = true ∧ (u.1 + pm_bc y', u.2 + pm_bs y') = u' ∧ pc + 3 = p3)
    (ht : q_take n st = some (as, st')) (hs : q_sum st ≤ 100) (hc : q_sum st' ≤ 8 ∧ as.length ≤ m ∧ as.all (fun v => q_cat v == 1) = true) (hl : as ++ List.replicate (m - as.length) vn = ls') :
    qx sc (D + 1) y pc ls st u bb σ Q ↔ qx sc D y' 0 ls' [] (0, 0) bb σ (q_kn sc (D + 1) y p3 ls st' u' Q) := by
  obtain ⟨h1, h2, rfl, rfl, h6, h7, h8, rfl, rfl⟩ := h
  rw [← q_k_eq h6, ← hl]
  refine qx_call h1 ?_ ⟨hc.1, hc.2.1, hc.2.2, h8⟩
  simp only [q_act, h2, true_or, if_true, q_call]
  rw [if_pos ⟨hs, h7⟩]
  simp only [ht, Option.bind_some]
theorem r_max {y' : Nat} (h : pm_dec y pc = some (.invokestatic idx) ∧ pm_mth (pm_own y) idx = some (5, y') ∧ pm_fits y 0 0 u = true) (hs : q_sum (vi b' :: vi a' :: st) ≤ 100) : qx sc D y pc ls (vi b' :: vi a' :: st) u bb σ Q ↔ qx sc D y (pc + 3) ls (vi (max a' b') :: st) u bb σ Q :=
  qx_go h.1 (by simp only [q_act, h.2.1, q_call]; rw [if_pos (by decide), if_pos ⟨hs, h.2.2⟩])
theorem r_min {y' : Nat} (h : pm_dec y pc = some (.invokestatic idx) ∧ pm_mth (pm_own y) idx = some (6, y') ∧ pm_fits y 0 0 u = true) (hs : q_sum (vi b' :: vi a' :: st) ≤ 100) : qx sc D y pc ls (vi b' :: vi a' :: st) u bb σ Q ↔ qx sc D y (pc + 3) ls (vi (min a' b') :: st) u bb σ Q :=
  qx_go h.1 (by simp only [q_act, h.2.1, q_call]; rw [if_pos (by decide), if_pos ⟨hs, h.2.2⟩])
theorem r_copy {y' b : Nat} {sp dp n : Int} (h : pm_dec y pc = some (.invokestatic idx) ∧ pm_mth (pm_own y) idx = some (7, y') ∧ pm_fits y 0 0 u = true) (hs : q_sum (vi n :: vi dp :: vr b :: vi sp :: vr a :: st) ≤ 100) : qx sc D y pc ls (vi n :: vi dp :: vr b :: vi sp :: vr a :: st) u bb σ Q ↔ (q_ty a = 0 ∧ q_ty b = 0 ∧ 0 ≤ sp ∧ 0 ≤ dp ∧ 0 ≤ n ∧ sp + n ≤ q_ln a ∧ dp + n ≤ q_ln b) ∧ qx sc D y (pc + 3) ls st u bb (q_upf σ b (q_cpy (σ a) (σ b) sp dp n)) Q :=
  r_and (fun hr => qx_go h.1 (by simp only [q_act, h.2.1, q_call]; rw [if_pos (by decide), if_pos ⟨hs, h.2.2⟩, if_pos hr])) (fun hr => qx_no h.1 (by simp only [q_act, h.2.1, q_call]; rw [if_pos (by decide), if_pos ⟨hs, h.2.2⟩, if_neg hr]))
end QS
