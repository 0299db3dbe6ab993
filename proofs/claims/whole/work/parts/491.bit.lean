/-! sets of variables by their bits; one induction over programs; how many versions there are -/
def bz (x : Int32) (i : Nat) : Bool := x.toBitVec.getLsbD i
theorem bz_sl : ∀ n : Nat, n < 8 → ((q_I n &&& 31).toBitVec.smod 32).toNat = n := by decide +kernel
theorem bz_1 : ∀ k : Nat, k < 8 → ∀ j : Nat, j < 8 → bz (q_I 1 <<< (q_I k &&& 31)) j = decide (j = k) := by decide +kernel
theorem bz_bit (m : Int) (n : Nat) (hn : n < 8) : q_bit m n = if bz (q_I m) n = true then 1 else 0 := by
  unfold q_bit
  rw [q_I_toInt]
  have h1 : ∀ a : Int32, (a &&& q_I 1).toInt = if bz a 0 = true then 1 else 0 := by
    intro a
    have e : (a &&& q_I 1).toInt = ((a.toBitVec &&& 1#32)).toInt := rfl
    rw [e, BitVec.and_one_eq_setWidth_ofBool_getLsbD]
    unfold bz
    cases a.toBitVec.getLsbD 0 <;> rfl
  rw [h1]
  have h2 : bz (q_I m >>> (q_I n &&& 31)) 0 = bz (q_I m) n := by
    unfold bz
    rw [Int32.toBitVec_shiftRight]
    show ((q_I m).toBitVec.sshiftRight ((q_I n &&& 31).toBitVec.smod 32).toNat).getLsbD 0 = _
    rw [bz_sl n hn, BitVec.getLsbD_sshiftRight]
    have h3 : n + 0 < 32 := by omega
    rw [if_pos h3]
    simp
  rw [h2]
theorem bz_qor (m : Int) (k j : Nat) (hk : k < 8) (hj : j < 8) : bz (q_I (q_or m k)) j = (bz (q_I m) j || decide (j = k)) := by
  unfold q_or
  rw [q_I_toInt, q_I_toInt, ← bz_1 k hk j hj]
  unfold bz
  rw [Int32.toBitVec_or, BitVec.getLsbD_or]
theorem bit_or {m k j : Int} (k0 : 0 ≤ k) (k1 : k ≤ 7) (j0 : 0 ≤ j) (j1 : j ≤ 7) : q_bit (q_or m k) j = 0 ↔ q_bit m j = 0 ∧ ¬ j = k := by
  obtain ⟨k', rfl⟩ := Int.eq_ofNat_of_zero_le k0
  obtain ⟨j', rfl⟩ := Int.eq_ofNat_of_zero_le j0
  have hk : k' < 8 := by omega
  have hj : j' < 8 := by omega
  rw [bz_bit _ j' hj, bz_bit _ j' hj, bz_qor m k' j' hk hj]
  by_cases e : j' = k'
  · subst e
    simp
  · have e' : ¬ ((j' : Int) = (k' : Int)) := by omega
    simp only [e, decide_false, Bool.or_false, e', not_false_eq_true, and_true]
theorem bit_0 {j : Int} (j0 : 0 ≤ j) (j1 : j ≤ 7) : q_bit 0 j = 0 := by
  have : j = 0 ∨ j = 1 ∨ j = 2 ∨ j = 3 ∨ j = 4 ∨ j = 5 ∨ j = 6 ∨ j = 7 := by omega
  rcases this with rfl | rfl | rfl | rfl | rfl | rfl | rfl | rfl <;> decide +kernel
/-- variables told anew are variables -/
def KV (ks : List (Int × Int)) : Prop := ∀ a ∈ ks, a.1 = 0 → 0 ≤ a.2 ∧ a.2 ≤ 7
theorem tbit : ∀ (ks : List (Int × Int)) (m j : Int), KV ks → 0 ≤ j → j ≤ 7 → (q_bit (tbits ks m) j = 0 ↔ q_bit m j = 0 ∧ ∀ a ∈ ks, ¬ (a.1 = 0 ∧ a.2 = j)) := by
  intro ks
  induction ks with
  | nil => intro m j _ _ _; rw [tbits]; simp
  | cons a ks ih =>
    intro m j hv j0 j1
    have hv' : KV ks := fun b hb => hv b (List.mem_cons_of_mem _ hb)
    rw [tbits, ih _ j hv' j0 j1]
    by_cases h : a.1 = 0
    · obtain ⟨a0, a1⟩ := hv a List.mem_cons_self h
      rw [if_pos ⟨h, by omega⟩, bit_or a0 a1 j0 j1]
      constructor
      · rintro ⟨⟨h1, h2⟩, h3⟩
        refine ⟨h1, fun b hb => ?_⟩
        rcases List.mem_cons.mp hb with rfl | hb
        · exact fun q => h2 q.2.symm
        · exact h3 b hb
      · rintro ⟨h1, h2⟩
        exact ⟨⟨h1, fun q => h2 a List.mem_cons_self ⟨h, q.symm⟩⟩, fun b hb => h2 b (List.mem_cons_of_mem _ hb)⟩
    · rw [if_neg (fun q => h q.1)]
      constructor
      · rintro ⟨h1, h3⟩
        refine ⟨h1, fun b hb => ?_⟩
        rcases List.mem_cons.mp hb with rfl | hb
        · exact fun q => h q.1
        · exact h3 b hb
      · rintro ⟨h1, h2⟩
        exact ⟨h1, fun b hb => h2 b (List.mem_cons_of_mem _ hb)⟩
/-- blocks; assignments; statements without a block -/
def c_b : List (Int × Int) → Nat
  | [] => 0
  | a :: L => (if 3 ≤ a.1 then 1 else 0) + c_b L
def c_a : List (Int × Int) → Nat
  | [] => 0
  | a :: L => (if a.1 = 0 then 1 else 0) + c_a L
def c_n : List (Int × Int) → Nat
  | [] => 0
  | a :: L => (if 3 ≤ a.1 then 0 else 1) + c_n L
theorem c_b_app : ∀ (a b : List (Int × Int)), c_b (a ++ b) = c_b a + c_b b := by
  intro a b
  induction a with
  | nil => simp [c_b]
  | cons x a ih => rw [List.cons_append, c_b, c_b, ih, Nat.add_assoc]
theorem c_a_app : ∀ (a b : List (Int × Int)), c_a (a ++ b) = c_a a + c_a b := by
  intro a b
  induction a with
  | nil => simp [c_a]
  | cons x a ih => rw [List.cons_append, c_a, c_a, ih, Nat.add_assoc]
theorem c_n_app : ∀ (a b : List (Int × Int)), c_n (a ++ b) = c_n a + c_n b := by
  intro a b
  induction a with
  | nil => simp [c_n]
  | cons x a ih => rw [List.cons_append, c_n, c_n, ih, Nat.add_assoc]
theorem c_len : ∀ a : List (Int × Int), c_b a + c_n a = a.length := by
  intro a
  induction a with
  | nil => rfl
  | cons x a ih => rw [c_b, c_n, List.length_cons]; split <;> omega
theorem c_an : ∀ a : List (Int × Int), c_a a ≤ c_n a := by
  intro a
  induction a with
  | nil => exact Nat.le_refl _
  | cons x a ih => rw [c_a, c_n]; split <;> split <;> omega
theorem v_many_le (m : Int) : ∀ (n : Nat) (x : Int), v_many m n x ≤ n := by
  intro n
  induction n with
  | zero => intro x; exact Nat.le_refl _
  | succ n ih => intro x; rw [v_many]; have := ih (x + 1); split <;> omega
theorem v_many_or {m k : Int} (k0 : 0 ≤ k) (k1 : k ≤ 7) : ∀ (n : Nat) (x : Int), 0 ≤ x → x + n ≤ 8 → v_many (q_or m k) n x ≤ v_many m n x + (if x ≤ k then 1 else 0) := by
  intro n
  induction n with
  | zero => intro x _ _; exact Nat.zero_le _
  | succ n ih =>
    intro x x0 x1
    have h1 := ih (x + 1) (by omega) (by omega)
    rw [v_many, v_many]
    by_cases e : x = k
    · subst e
      rw [if_neg (by omega)] at h1
      rw [if_pos (Int.le_refl x), if_neg (fun q => ((bit_or (m := m) k0 k1 x0 (by omega)).mp q).2 rfl)]
      split <;> omega
    · by_cases h0 : q_bit m x = 0
      · rw [if_pos h0, if_pos ((bit_or k0 k1 x0 (by omega)).mpr ⟨h0, e⟩)]
        split <;> split at h1 <;> omega
      · rw [if_neg h0, if_neg (fun q => h0 ((bit_or k0 k1 x0 (by omega)).mp q).1)]
        split <;> split at h1 <;> omega
theorem v_many_0 : v_many 0 8 0 = 0 := by decide +kernel
theorem v_many_tb : ∀ (ks : List (Int × Int)) (m : Int), KV ks → v_many (tbits ks m) 8 0 ≤ v_many m 8 0 + c_a ks := by
  intro ks
  induction ks with
  | nil => intro m _; exact Nat.le_refl _
  | cons a ks ih =>
    intro m hv
    have hv' : KV ks := fun b hb => hv b (List.mem_cons_of_mem _ hb)
    rw [tbits, c_a]
    have h1 := ih (if a.1 = 0 ∧ ¬ a.2 = -1 then q_or m a.2 else m) hv'
    by_cases h : a.1 = 0
    · obtain ⟨a0, a1⟩ := hv a List.mem_cons_self h
      rw [if_pos ⟨h, by omega⟩] at h1 ⊢
      have h2 := v_many_or (m := m) a0 a1 8 0 (by decide) (by decide)
      rw [if_pos a0] at h2
      rw [if_pos h]
      omega
    · rw [if_neg (fun q => h q.1)] at h1 ⊢
      rw [if_neg h]
      omega
/-- one induction over programs -/
theorem ST_ind {pl : Int → Int} {P : (d : Nat) → ST d → Prop} {PL : (d : Nat) → List (ST d) → Prop}
    (h0 : ∀ x : SB, VALb pl x → P 0 x) (hS : ∀ (d : Nat) (x : SB), VALb pl x → P (d + 1) (Sum.inl x))
    (hi : ∀ (d : Nat) (t : TT) (A B : List (ST d)), VALt pl t → VALl (VALS pl d) A → VALl (VALS pl d) B → PL d A → PL d B → P (d + 1) (Sum.inr ((false, t), A, B)))
    (hw : ∀ (d : Nat) (t : TT) (A B : List (ST d)), VALt pl t → VALl (VALS pl d) A → PL d A → P (d + 1) (Sum.inr ((true, t), A, B)))
    (hn : ∀ d : Nat, PL d []) (hc : ∀ (d : Nat) (x : ST d) (L : List (ST d)), VALS pl d x → VALl (VALS pl d) L → P d x → PL d L → PL d (x :: L)) :
    ∀ d : Nat, (∀ x : ST d, VALS pl d x → P d x) ∧ (∀ L : List (ST d), VALl (VALS pl d) L → PL d L) := by
  intro d
  have hL : ∀ d : Nat, (∀ x : ST d, VALS pl d x → P d x) → ∀ L : List (ST d), VALl (VALS pl d) L → PL d L := by
    intro d hx L
    induction L with
    | nil => intro _; exact hn d
    | cons x L ih => intro hv; exact hc d x L hv.1 hv.2 (hx x hv.1) (ih hv.2)
  induction d with
  | zero =>
    have h : ∀ x : ST 0, VALS pl 0 x → P 0 x := fun x hx => h0 x hx
    exact ⟨h, hL 0 h⟩
  | succ d ih =>
    have h : ∀ x : ST (d + 1), VALS pl (d + 1) x → P (d + 1) x := by
      intro x hx
      rcases x with x | ⟨⟨w, t⟩, A, B⟩
      · exact hS d x hx
      · obtain ⟨ht, hA, hB⟩ := hx
        cases w with
        | true => exact hw d t A B ht hA (ih.2 A hA)
        | false => exact hi d t A B ht hA hB (ih.2 A hA) (ih.2 B hB)
    exact ⟨h, hL (d + 1) h⟩
theorem ks_S_0 (x : SB) : ks_S 0 x = [(x.1.1, x.1.2.1)] := by
  unfold ks_S
  rfl
theorem ks_S_b (d : Nat) (x : SB) : ks_S (d + 1) (Sum.inl x) = [(x.1.1, x.1.2.1)] := by
  unfold ks_S
  rfl
theorem ks_S_if (d : Nat) (t : TT) (A B : List (ST d)) : ks_S (d + 1) (Sum.inr ((false, t), A, B)) = (3, -1) :: (ks_L d A ++ ks_L d B) := by
  rw [ks_S]
  simp only [Bool.false_eq_true, if_false]
  rfl
theorem ks_S_wh (d : Nat) (t : TT) (A B : List (ST d)) : ks_S (d + 1) (Sum.inr ((true, t), A, B)) = (4, -1) :: ks_L d A := by
  rw [ks_S]
  simp only [if_true]
  rfl
theorem ks_L_c (d : Nat) (x : ST d) (L : List (ST d)) : ks_L d (x :: L) = ks_S d x ++ ks_L d L := rfl
theorem KV_app {a b : List (Int × Int)} (ha : KV a) (hb : KV b) : KV (a ++ b) := by
  intro x hx
  rcases List.mem_append.mp hx with h | h
  · exact ha x h
  · exact hb x h
theorem KV_cons {k : Int × Int} {a : List (Int × Int)} (hk : ¬ k.1 = 0) (ha : KV a) : KV (k :: a) := by
  intro x hx h0
  rcases List.mem_cons.mp hx with rfl | h
  · exact absurd h0 hk
  · exact ha x h h0
theorem KV_b {pl : Int → Int} {x : SB} (h : VALb pl x) : KV [(x.1.1, x.1.2.1)] := by
  intro y hy _
  rw [List.mem_singleton] at hy
  subst hy
  exact h.1
theorem KV_S {pl : Int → Int} : ∀ d : Nat, (∀ x : ST d, VALS pl d x → KV (ks_S d x)) ∧ (∀ L : List (ST d), VALl (VALS pl d) L → KV (ks_L d L)) := by
  refine ST_ind (P := fun d x => KV (ks_S d x)) (PL := fun d L => KV (ks_L d L)) ?_ ?_ ?_ ?_ ?_ ?_
  · intro x hx; rw [ks_S_0]; exact KV_b hx
  · intro d x hx; rw [ks_S_b]; exact KV_b hx
  · intro d t A B _ _ _ hA hB; rw [ks_S_if]; exact KV_cons (by decide) (KV_app hA hB)
  · intro d t A B _ _ hA; rw [ks_S_wh]; exact KV_cons (by decide) hA
  · intro d x hx; exact absurd hx List.not_mem_nil
  · intro d x L _ _ h1 h2; rw [ks_L_c]; exact KV_app h1 h2
/-- how many versions -/
def CNT (d : Nat) (ks : List (Int × Int)) (g : NF) : Prop := ∀ s k l v c ar now, (g s k l v c ar now).2.1.length ≤ 12 * c_b ks + 2 * c_n ks ∧ (g s k l v c ar now).2.1.length ≤ 4 * c_b ks + 2 * c_n ks + d * c_a ks
theorem v_sd_2 {t : TT} {sv0 sv1 how s : Int} : (v_sd t sv0 sv1 how s).length ≤ 2 := by
  have h : ((v_sd t sv0 sv1 how s).length : Int) = (if v_own0 t then 1 else 0) + (if v_own1 t then 1 else 0) := v_sd_len
  have h1 : (if v_own0 t then (1 : Int) else 0) ≤ 1 := by split <;> decide
  have h2 : (if v_own1 t then (1 : Int) else 0) ≤ 1 := by split <;> decide
  omega
theorem CNT_b {pl : Int → Int} {d : Nat} {x : SB} (h : VALb pl x) : CNT d [(x.1.1, x.1.2.1)] (n_b x) := by
  intro s k l v c ar now
  have hk : ¬ 3 ≤ x.1.1 := by
    obtain ⟨-, h⟩ := h
    omega
  have h2 : (n_b x s k l v c ar now).2.1.length ≤ 2 := by
    unfold n_b
    split
    · split <;> simp
    · split <;> simp
  have e1 : c_b [(x.1.1, x.1.2.1)] = 0 := by simp only [c_b, if_neg hk]
  have e2 : c_n [(x.1.1, x.1.2.1)] = 1 := by simp only [c_n, if_neg hk]
  rw [e1, e2]
  generalize d * c_a [(x.1.1, x.1.2.1)] = z
  omega
theorem c_3 (L : List (Int × Int)) : c_b ((3, -1) :: L) = 1 + c_b L ∧ c_a ((3, -1) :: L) = c_a L ∧ c_n ((3, -1) :: L) = c_n L := by
  refine ⟨?_, ?_, ?_⟩ <;> simp [c_b, c_a, c_n]
theorem c_4 (L : List (Int × Int)) : c_b ((4, -1) :: L) = 1 + c_b L ∧ c_a ((4, -1) :: L) = c_a L ∧ c_n ((4, -1) :: L) = c_n L := by
  refine ⟨?_, ?_, ?_⟩ <;> simp [c_b, c_a, c_n]
theorem CNT_S {pl : Int → Int} : ∀ d : Nat, (∀ x : ST d, VALS pl d x → CNT d (ks_S d x) (n_S d x)) ∧ (∀ L : List (ST d), VALl (VALS pl d) L → CNT d (ks_L d L) (n_LL d L)) := by
  refine ST_ind (P := fun d x => CNT d (ks_S d x) (n_S d x)) (PL := fun d L => CNT d (ks_L d L) (n_LL d L)) ?_ ?_ ?_ ?_ ?_ ?_
  · intro x hx; rw [ks_S_0, n_S_0]; exact CNT_b hx
  · intro d x hx; rw [ks_S_b, n_S_b]; exact CNT_b hx
  · intro d t A B ht vA vB hA hB s k l v c ar now
    rw [ks_S_if, n_S_if, n_if_eq rfl rfl rfl rfl]
    have kA := (KV_S (pl := pl) d).2 A vA
    have kB := (KV_S (pl := pl) d).2 B vB
    have m1 := v_many_tb (ks_L d A ++ ks_L d B) 0 (KV_app kA kB)
    have m2 := v_many_le (tbits (ks_L d A ++ ks_L d B) 0) 8 0
    rw [v_many_0, c_a_app] at m1
    rw [(c_3 _).1, (c_3 _).2.1, (c_3 _).2.2, c_b_app, c_a_app, c_n_app]
    dsimp only
    rw [List.length_append, List.length_append, List.length_append, List.length_append, v_join_len]
    generalize tbits (ks_L d A ++ ks_L d B) 0 = set at *
    have a1 := hA (s + 1) k l (v + ((v_sd t (v_sv now t.2.1) (v_sv now t.2.2) 3 s).length : Nat)) (c + 2 + ((v_sd t (v_sv now t.2.1) (v_sv now t.2.2) 3 s).length : Nat)) ar (v_sn t v now)
    generalize n_LL d A (s + 1) k l (v + ((v_sd t (v_sv now t.2.1) (v_sv now t.2.2) 3 s).length : Nat)) (c + 2 + ((v_sd t (v_sv now t.2.1) (v_sv now t.2.2) 3 s).length : Nat)) ar (v_sn t v now) = oA at *
    have b1 := fun s k l v c now => hB s k l v c ar now
    have h3 := v_sd_2 (t := t) (sv0 := v_sv now t.2.1) (sv1 := v_sv now t.2.2) (how := 3) (s := s)
    have h4 := v_sd_2 (t := t) (sv0 := v_sv now t.2.1) (sv1 := v_sv now t.2.2) (how := 4) (s := s)
    generalize v_sd t (v_sv now t.2.1) (v_sv now t.2.2) 3 s = H at *
    generalize v_sd t (v_sv now t.2.1) (v_sv now t.2.2) 4 s = F at *
    have b2 := b1 (s + 1 + oA.2.2.1.length) (k + oA.2.2.2.1.length) (l + oA.2.2.2.2.1.length) (v + H.length + oA.2.1.length + F.length) (c + 2 + H.length + oA.2.2.2.2.2.length + 1 + F.length) (v_sn t (v + H.length + oA.2.1.length) now)
    generalize n_LL d B (s + 1 + oA.2.2.1.length) (k + oA.2.2.2.1.length) (l + oA.2.2.2.2.1.length) (v + H.length + oA.2.1.length + F.length) (c + 2 + H.length + oA.2.2.2.2.2.length + 1 + F.length) ar (v_sn t (v + H.length + oA.2.1.length) now) = oB at *
    rw [Nat.add_mul d 1, Nat.one_mul, Nat.mul_add d]
    generalize d * c_a (ks_L d A) = zA at *
    generalize d * c_a (ks_L d B) = zB at *
    omega
  · intro d t A B ht vA hA s k l v c ar now
    rw [ks_S_wh, n_S_wh, n_wh_eq rfl rfl rfl rfl]
    have kA := (KV_S (pl := pl) d).2 A vA
    have m1 := v_many_tb (ks_L d A) 0 kA
    have m2 := v_many_le (tbits (ks_L d A) 0) 8 0
    rw [v_many_0] at m1
    rw [(c_4 _).1, (c_4 _).2.1, (c_4 _).2.2]
    dsimp only
    rw [List.length_append, List.length_append, List.length_append, v_round_len]
    generalize tbits (ks_L d A) 0 = set at *
    generalize v_now set 8 0 v now = now1
    have h3 := v_sd_2 (t := t) (sv0 := v_sv now1 t.2.1) (sv1 := v_sv now1 t.2.2) (how := 3) (s := s)
    have h4 := v_sd_2 (t := t) (sv0 := v_sv now1 t.2.1) (sv1 := v_sv now1 t.2.2) (how := 4) (s := s)
    generalize v_sd t (v_sv now1 t.2.1) (v_sv now1 t.2.2) 3 s = H at *
    generalize v_sd t (v_sv now1 t.2.1) (v_sv now1 t.2.2) 4 s = F at *
    have a1 := hA (s + 1) k (l + 1) (v + (v_many set 8 0 : Nat) + H.length) (c + 1 + (v_many set 8 0 : Nat) + 2 + H.length) l (v_sn t (v + (v_many set 8 0 : Nat)) now1)
    generalize n_LL d A (s + 1) k (l + 1) (v + (v_many set 8 0 : Nat) + H.length) (c + 1 + (v_many set 8 0 : Nat) + 2 + H.length) l (v_sn t (v + (v_many set 8 0 : Nat)) now1) = oA at *
    rw [Nat.add_mul d 1, Nat.one_mul]
    generalize d * c_a (ks_L d A) = zA at *
    omega
  · intro d s k l v c ar now
    exact ⟨Nat.zero_le _, Nat.zero_le _⟩
  · intro d x L _ _ h1 h2 s k l v c ar now
    have en : n_LL d (x :: L) s k l v c ar now = o_app (n_S d x s k l v c ar now) (n_LL d L (s + (n_S d x s k l v c ar now).2.2.1.length) (k + (n_S d x s k l v c ar now).2.2.2.1.length) (l + (n_S d x s k l v c ar now).2.2.2.2.1.length) (v + (n_S d x s k l v c ar now).2.1.length) (c + (n_S d x s k l v c ar now).2.2.2.2.2.length) ar (n_S d x s k l v c ar now).1) := rfl
    rw [en, oap_2, List.length_append, ks_L_c, c_b_app, c_a_app, c_n_app, Nat.mul_add d]
    have a1 := h1 s k l v c ar now
    have a2 := h2 (s + (n_S d x s k l v c ar now).2.2.1.length) (k + (n_S d x s k l v c ar now).2.2.2.1.length) (l + (n_S d x s k l v c ar now).2.2.2.2.1.length) (v + (n_S d x s k l v c ar now).2.1.length) (c + (n_S d x s k l v c ar now).2.2.2.2.2.length) ar (n_S d x s k l v c ar now).1
    generalize d * c_a (ks_S d x) = zA at *
    generalize d * c_a (ks_L d L) = zB at *
    omega
/-- all versions of a program -/
def VS (L : List (ST 5)) : List VR := v_beg 8 0 ++ (n_P L).2.1
theorem VS_len (L : List (ST 5)) : (VS L).length = 8 + (n_P L).2.1.length := by
  unfold VS
  rw [List.length_append, v_beg_len]
theorem VS_240 {pl : Int → Int} {L : List (ST 5)} (h : VALl (VALS pl 5) L) (h40 : (s_P L).1.length ≤ 40) : (VS L).length ≤ 240 := by
  obtain ⟨a1, a2⟩ := (CNT_S (pl := pl) 5).2 L h 0 0 0 8 0 (-1) id8
  have h1 := c_len (ks_L 5 L)
  have h2 := c_an (ks_L 5 L)
  have h3 := congrArg List.length (ks_sL L (-1) 0 0 0)
  rw [List.length_map] at h3
  unfold s_P at h40
  rw [VS_len]
  unfold n_P
  omega
