/-! the class's words, numbers and signs -/
/-- a text as numbers 0 to 255, and as bytes -/
def BYT (f g : Int → Int) (n : Int) : Prop := ∀ i, 0 ≤ i → i < n → g i = (if f i < 0 then f i + 256 else f i) ∧ -128 ≤ f i ∧ f i ≤ 127
/-- the words of a text, each at its place P -/
def TKS (r : St) (f : Int → Int) (n : Int) (P : Int → Int) (M : Int) : Prop := 0 ≤ M ∧ M ≤ 400 ∧ (∀ j, 0 ≤ j → j ≤ M → r 7 j = P j ∧ r 6 j = tk f n (P j) ∧ (tk f n (P j) = 262 → r 8 j = tw f n (P j)) ∧ 0 ≤ P j) ∧ (∀ j, 0 ≤ j → j < M → P j < n ∧ P (j + 1) = nx f n (P j)) ∧ n ≤ P M ∧ P 0 = sk f n 0
def PT (σ : St) (k a w : Int) : St := q_up (q_up (q_up (q_up σ 6 (σ 5 2) k) 7 (σ 5 2) a) 8 (σ 5 2) w) 5 2 (σ 5 2 + 1)
section TKN
variable {sc : Nat × (Nat → Int32)} {D : Nat} {bb : Bool} {σ σ0 : St} {Q : QP} {x a n m k w : Int} {f g : Int → Int}
theorem BYT_let (h : BYT f g n) (h0 : 0 ≤ x) (h1 : x < n) : (97 ≤ g x ∧ g x ≤ 122) ↔ t_let (f x) = true := by
  have := h x h0 h1
  rw [t_let_iff]
  split at this <;> omega
theorem BYT_dg (h : BYT f g n) (h0 : 0 ≤ x) (h1 : x < n) : (48 ≤ g x ∧ g x ≤ 57) ↔ t_dg (f x) = true := by
  have := h x h0 h1
  rw [t_dg_iff]
  split at this <;> omega
theorem BYT_eq (h : BYT f g n) (h0 : 0 ≤ x) (h1 : x < n) {c : Int} (hc : 0 ≤ c ∧ c ≤ 127) : g x = c ↔ f x = c := by
  have := h x h0 h1
  split at this <;> omega
theorem BYT_by (h : BYT f g n) : t_by f n := fun i h0 h1 => (h i h0 h1).2
theorem c80 (h : 0 ≤ x ∧ x < 400) : qx sc D 80 0 [vr 5, vi x] [] (0, 0) bb σ Q ↔ (97 ≤ σ 1 x ∧ σ 1 x ≤ 122 → Q (.inl (some (vi 1))) bb σ) ∧ (¬ (97 ≤ σ 1 x ∧ σ 1 x ≤ 122) → Q (.inl (some (vi 0))) bb σ) := by
  simp only [k80_0, k80_1, k80_4, k80_5, k80_6, k80_8, k80_11, k80_12, k80_15, k80_16, k80_17, k80_19, k80_22, k80_23, k80_26, k80_27, qt_1, ql_1, h, true_implies, false_implies, not_true_eq_false, not_false_eq_true, true_and, and_true, implies_true, or_true, true_or, or_false, false_or, Int.reduceEq, Int.one_ne_zero, Nat.reduceEqDiff]
  grind
theorem c79 (h : 0 ≤ x ∧ x < 400) : qx sc D 79 0 [vr 5, vi x] [] (0, 0) bb σ Q ↔ (48 ≤ σ 1 x ∧ σ 1 x ≤ 57 → Q (.inl (some (vi 1))) bb σ) ∧ (¬ (48 ≤ σ 1 x ∧ σ 1 x ≤ 57) → Q (.inl (some (vi 0))) bb σ) := by
  simp only [k79_0, k79_1, k79_4, k79_5, k79_6, k79_8, k79_11, k79_12, k79_15, k79_16, k79_17, k79_19, k79_22, k79_23, k79_26, k79_27, qt_1, ql_1, h, true_implies, false_implies, not_true_eq_false, not_false_eq_true, true_and, and_true, implies_true, or_true, true_or, or_false, false_or, Int.reduceEq, Int.one_ne_zero, Nat.reduceEqDiff]
  grind
theorem c83 (h : 0 ≤ σ 5 2 ∧ σ 5 2 < 401) : qx sc D 83 0 [vr 5, vi k, vi a, vi w] [] (0, 0) bb σ Q ↔ Q (.inl none) bb (PT σ k a w) := by
  simp only [k83_0, k83_1, k83_4, k83_5, k83_8, k83_9, k83_10, k83_11, k83_14, k83_15, k83_18, k83_19, k83_20, k83_21, k83_24, k83_25, k83_28, k83_29, k83_30, k83_31, k83_32, k83_35, k83_36, k83_37, k83_40, qt_6, ql_6, qt_7, ql_7, qt_8, ql_8, q_up_eq, q_up_ne, q_up_ne2, q_upf_ne, q_upf_eq, not_false_eq_true, Nat.reduceEqDiff, PT, true_implies, false_implies, not_true_eq_false, not_false_eq_true, true_and, and_true, implies_true, or_true, true_or, or_false, false_or, Int.reduceEq, Int.one_ne_zero, Nat.reduceEqDiff]
  exact ⟨fun h => by (repeat replace h := And.right h); exact h, fun h => by (repeat refine And.intro (by omega) ?_); exact h⟩
theorem tx_lt : ∀ j, j < 12 → ∀ t, t < 6 → (pm_tx.getD j []).getD t 0 < 128 := by decide +kernel
theorem tx_ln : ∀ j, j < 12 → (pm_tx.getD j []).length < 6 := by decide +kernel
theorem c81_1 {j : Nat} (hj : j < 12) (ha : 0 ≤ a) (hm : m = ((pm_tx.getD j []).length : Nat)) (hl : a + ((pm_tx.getD j []).length : Nat) ≤ n) (hn : n ≤ 400) (hb : BYT f (σ 1) n) : ∀ (d i : Nat), (pm_tx.getD j []).length - i = d → i ≤ (pm_tx.getD j []).length →
    ((∀ t : Nat, i ≤ t → t < (pm_tx.getD j []).length → f (a + t) = (((pm_tx.getD j []).getD t 0 : Nat) : Int)) → Q (.inl (some (vi 1))) bb σ) →
    (¬ (∀ t : Nat, i ≤ t → t < (pm_tx.getD j []).length → f (a + t) = (((pm_tx.getD j []).getD t 0 : Nat) : Int)) → Q (.inl (some (vi 0))) bb σ) →
    qx sc D 81 13 [vr 5, vr (q_tr j), vi a, vi m, vi (i : Int)] [] (0, 0) bb σ Q := by
  intro d
  have hln := tx_ln j hj
  induction d with
  | zero =>
    intro i hd hi k1 k0
    rw [k81_13]
    simp only [k81_15, k81_16, k81_45, k81_46]
    refine ⟨fun h => by omega, fun _ => ⟨Or.inr trivial, k1 (fun t h1 h2 => by omega)⟩⟩
  | succ d ih =>
    intro i hd hi k1 k0
    have hlt := tx_lt j hj i (by omega)
    rw [k81_13]
    simp only [k81_15, k81_16, k81_19, k81_20, k81_23, k81_24, k81_26, k81_27, k81_28, k81_29, k81_31 hj, k81_34, k81_37, k81_38, k81_39, k81_42, qt_1, ql_1, Int.toNat_natCast, true_implies, false_implies, not_true_eq_false, not_false_eq_true, true_and, and_true, implies_true, or_true, true_or, or_false, false_or, Int.reduceEq, Int.one_ne_zero, Nat.reduceEqDiff]
    refine ⟨fun h => ⟨by omega, by omega, by omega, fun he => ?_, fun he => ?_⟩, fun h => by omega⟩
    · rw [BYT_eq hb (by omega) (by omega) (by omega)] at he
      refine ⟨by omega, ?_⟩
      rw [show (i : Int) + 1 = ((i + 1 : Nat) : Int) by omega]
      refine ih (i + 1) (by omega) (by omega) (fun h2 => k1 (fun t h3 h4 => ?_)) (fun h2 => k0 (fun h3 => h2 (fun t h4 h5 => h3 t (by omega) h5)))
      by_cases e : t = i
      · rw [e]; exact he
      · exact h2 t (by omega) h4
    · rw [BYT_eq hb (by omega) (by omega) (by omega)] at he
      exact k0 (fun h3 => he (h3 i (by omega) (by omega)))
theorem c81 {j : Nat} (hj : j < 12) (ha : 0 ≤ a) (hl : a + m ≤ n) (hn : n ≤ 400) (hb : BYT f (σ 1) n)
    (k1 : m = ((pm_tx.getD j []).length : Nat) ∧ t_w f a (pm_tx.getD j []) = true → Q (.inl (some (vi 1))) bb σ) (k0 : ¬ (m = ((pm_tx.getD j []).length : Nat) ∧ t_w f a (pm_tx.getD j []) = true) → Q (.inl (some (vi 0))) bb σ) :
    qx sc D 81 0 [vr 5, vr (q_tr j), vi a, vi m, vn] [] (0, 0) bb σ Q := by
  simp only [k81_0, k81_1, k81_2 hj, k81_5, k81_8, k81_9, k81_10, k81_11, true_implies, false_implies, not_true_eq_false, not_false_eq_true, true_and, and_true, implies_true, or_true, true_or, or_false, false_or, Int.reduceEq, Int.one_ne_zero, Nat.reduceEqDiff]
  refine ⟨fun h => ?_, fun h => k0 (fun h2 => h h2.1)⟩
  refine c81_1 hj ha h (by omega) hn hb _ 0 rfl (by omega) (fun h2 => k1 ⟨h, ?_⟩) (fun h2 => k0 (fun h3 => h2 ?_))
  · rw [t_w_iff]
    exact fun t ht => h2 t (by omega) ht
  · have := (t_w_iff _ _).mp h3.2
    exact fun t _ ht => this t ht
theorem c86 (ha : 0 ≤ a) (hm : ¬ m = 1) (hl : a + m ≤ n) (hn : n ≤ 400) (hb : BYT f (σ 1) n) (kk : Q (.inl (some (vi (t_wk f a m)))) bb σ) : qx sc (D + 1) 86 0 [vr 5, vi a, vi m] [] (0, 0) bb σ Q := by
  have hd : t_wk f a m = if m = 5 ∧ t_w f a [97, 114, 114, 97, 121] = true then 256 else if m = 3 ∧ t_w f a [111, 117, 116] = true then 257 else if m = 2 ∧ t_w f a [105, 102] = true then 258 else if m = 4 ∧ t_w f a [101, 108, 115, 101] = true then 259 else if m = 5 ∧ t_w f a [119, 104, 105, 108, 101] = true then 260 else if m = 2 ∧ t_w f a [105, 110] = true then 261 else 264 := by
    unfold t_wk
    rw [if_neg hm]
  rw [hd] at kk
  simp only [k86_0, k86_1, k86_3, k86_4, k86_5]
  refine c81 (j := 0) (by decide) ha hl hn hb (fun h => ?_) (fun h => ?_)
  · simp only [q_kn_v, k86_8, k86_11, k86_14, true_implies, false_implies, not_true_eq_false, not_false_eq_true, true_and, and_true, implies_true, or_true, true_or, or_false, false_or, Int.reduceEq, Int.one_ne_zero, Nat.reduceEqDiff]
    rw [if_pos (show m = 5 ∧ t_w f a [97, 114, 114, 97, 121] = true from h)] at kk
    exact kk
  rw [if_neg (show ¬ (m = 5 ∧ t_w f a [97, 114, 114, 97, 121] = true) from h)] at kk
  simp only [q_kn_v, k86_8, k86_15, k86_16, k86_18, k86_19, k86_20, true_implies, false_implies, not_true_eq_false, not_false_eq_true, true_and, and_true, implies_true, or_true, true_or, or_false, false_or, Int.reduceEq, Int.one_ne_zero, Nat.reduceEqDiff]
  refine c81 (j := 1) (by decide) ha hl hn hb (fun h => ?_) (fun h => ?_)
  · simp only [q_kn_v, k86_23, k86_26, k86_29, true_implies, false_implies, not_true_eq_false, not_false_eq_true, true_and, and_true, implies_true, or_true, true_or, or_false, false_or, Int.reduceEq, Int.one_ne_zero, Nat.reduceEqDiff]
    rw [if_pos (show m = 3 ∧ t_w f a [111, 117, 116] = true from h)] at kk
    exact kk
  rw [if_neg (show ¬ (m = 3 ∧ t_w f a [111, 117, 116] = true) from h)] at kk
  simp only [q_kn_v, k86_23, k86_30, k86_31, k86_33, k86_34, k86_35, true_implies, false_implies, not_true_eq_false, not_false_eq_true, true_and, and_true, implies_true, or_true, true_or, or_false, false_or, Int.reduceEq, Int.one_ne_zero, Nat.reduceEqDiff]
  refine c81 (j := 2) (by decide) ha hl hn hb (fun h => ?_) (fun h => ?_)
  · simp only [q_kn_v, k86_38, k86_41, k86_44, true_implies, false_implies, not_true_eq_false, not_false_eq_true, true_and, and_true, implies_true, or_true, true_or, or_false, false_or, Int.reduceEq, Int.one_ne_zero, Nat.reduceEqDiff]
    rw [if_pos (show m = 2 ∧ t_w f a [105, 102] = true from h)] at kk
    exact kk
  rw [if_neg (show ¬ (m = 2 ∧ t_w f a [105, 102] = true) from h)] at kk
  simp only [q_kn_v, k86_38, k86_45, k86_46, k86_48, k86_49, k86_50, true_implies, false_implies, not_true_eq_false, not_false_eq_true, true_and, and_true, implies_true, or_true, true_or, or_false, false_or, Int.reduceEq, Int.one_ne_zero, Nat.reduceEqDiff]
  refine c81 (j := 3) (by decide) ha hl hn hb (fun h => ?_) (fun h => ?_)
  · simp only [q_kn_v, k86_53, k86_56, k86_59, true_implies, false_implies, not_true_eq_false, not_false_eq_true, true_and, and_true, implies_true, or_true, true_or, or_false, false_or, Int.reduceEq, Int.one_ne_zero, Nat.reduceEqDiff]
    rw [if_pos (show m = 4 ∧ t_w f a [101, 108, 115, 101] = true from h)] at kk
    exact kk
  rw [if_neg (show ¬ (m = 4 ∧ t_w f a [101, 108, 115, 101] = true) from h)] at kk
  simp only [q_kn_v, k86_53, k86_60, k86_61, k86_63, k86_64, k86_65, true_implies, false_implies, not_true_eq_false, not_false_eq_true, true_and, and_true, implies_true, or_true, true_or, or_false, false_or, Int.reduceEq, Int.one_ne_zero, Nat.reduceEqDiff]
  refine c81 (j := 4) (by decide) ha hl hn hb (fun h => ?_) (fun h => ?_)
  · simp only [q_kn_v, k86_68, k86_71, k86_74, true_implies, false_implies, not_true_eq_false, not_false_eq_true, true_and, and_true, implies_true, or_true, true_or, or_false, false_or, Int.reduceEq, Int.one_ne_zero, Nat.reduceEqDiff]
    rw [if_pos (show m = 5 ∧ t_w f a [119, 104, 105, 108, 101] = true from h)] at kk
    exact kk
  rw [if_neg (show ¬ (m = 5 ∧ t_w f a [119, 104, 105, 108, 101] = true) from h)] at kk
  simp only [q_kn_v, k86_68, k86_75, k86_76, k86_78, k86_79, k86_80, true_implies, false_implies, not_true_eq_false, not_false_eq_true, true_and, and_true, implies_true, or_true, true_or, or_false, false_or, Int.reduceEq, Int.one_ne_zero, Nat.reduceEqDiff]
  refine c81 (j := 5) (by decide) ha hl hn hb (fun h => ?_) (fun h => ?_)
  · simp only [q_kn_v, k86_83, k86_86, k86_89, k86_92, k86_95, true_implies, false_implies, not_true_eq_false, not_false_eq_true, true_and, and_true, implies_true, or_true, true_or, or_false, false_or, Int.reduceEq, Int.one_ne_zero, Nat.reduceEqDiff]
    rw [if_pos (show m = 2 ∧ t_w f a [105, 110] = true from h)] at kk
    exact kk
  · simp only [q_kn_v, k86_83, k86_86, k86_89, k86_92, k86_95, true_implies, false_implies, not_true_eq_false, not_false_eq_true, true_and, and_true, implies_true, or_true, true_or, or_false, false_or, Int.reduceEq, Int.one_ne_zero, Nat.reduceEqDiff]
    rw [if_neg (show ¬ (m = 2 ∧ t_w f a [105, 110] = true) from h)] at kk
    exact kk
theorem c85_l (ha : 0 ≤ a) (hs : σ 5 1 = n) (hn : n ≤ 400) (hb : BYT f (σ 1) n) : ∀ (d : Nat) (e : Int), (n - e).toNat = d → a < e → e ≤ n → qx sc (D + 1) 85 26 [vr 5, vi a, vi (t_run t_let f n e)] [] (0, 0) bb σ Q → qx sc (D + 1) 85 4 [vr 5, vi a, vi e] [] (0, 0) bb σ Q := by
  intro d
  induction d with
  | zero =>
    intro e hd h1 h2 kk
    rw [t_run_fix (by omega)] at kk
    rw [k85_4]
    simp only [k85_5, k85_6, k85_9, hs]
    exact ⟨fun h => by omega, fun _ => kk⟩
  | succ d ih =>
    intro e hd h1 h2 kk
    rw [k85_4]
    simp only [k85_5, k85_6, k85_9, k85_12, k85_13, k85_14, k85_17, k85_20, k85_23, hs, c80 (show 0 ≤ e ∧ e < 400 by omega), q_kn_v, BYT_let hb (show 0 ≤ e by omega) (show e < n by omega), true_implies, false_implies, not_true_eq_false, not_false_eq_true, true_and, and_true, implies_true, or_true, true_or, or_false, false_or, Int.reduceEq, Int.one_ne_zero, Nat.reduceEqDiff]
    refine ⟨fun h => ⟨fun hl => ⟨by omega, ?_⟩, fun hl => ?_⟩, fun h => by omega⟩
    · rw [t_run_go h hl] at kk
      exact ih (e + 1) (by omega) (by omega) (by omega) kk
    · rw [t_run_fix (fun q => hl q.2)] at kk
      exact kk
theorem c85 (ha : 0 ≤ a) (hl : a < n) (hs : σ 5 1 = n) (hn : n ≤ 400) (hb : BYT f (σ 1) n) (hT : 0 ≤ σ 5 2 ∧ σ 5 2 < 401) (hlet : t_let (f a) = true) (kk : Q (.inl (some (vi (t_run t_let f n a)))) bb (PT σ (t_wk f a (t_run t_let f n a - a)) a 0)) : qx sc (D + 2) 85 0 [vr 5, vi a, vn] [] (0, 0) bb σ Q := by
  simp only [k85_0, k85_1, k85_2, k85_3]
  refine ⟨by omega, ?_⟩
  refine c85_l ha hs hn hb _ (a + 1) rfl (by omega) (by omega) ?_
  have e1 : t_run t_let f n (a + 1) = t_run t_let f n a := (t_run_go hl hlet).symm
  have e2 := t_run_ge (P := t_let) (f := f) (n := n) (p := a + 1)
  have e3 := t_run_le (P := t_let) (f := f) (n := n) (p := a + 1) (by omega)
  rw [e1] at e2 e3 ⊢
  have hga := (hb a ha hl).1
  have hl2 := t_let_iff.mp hlet
  rw [if_neg (by omega)] at hga
  simp only [k85_26, k85_27, k85_28, k85_29, k85_30, k85_31, k85_34, k85_35, k85_38, k85_39, k85_40, k85_43, k85_44, k85_45, k85_46, k85_47, k85_48, qt_1, ql_1, hga, true_implies, false_implies, not_true_eq_false, not_false_eq_true, true_and, and_true, implies_true, or_true, true_or, or_false, false_or, Int.reduceEq, Int.one_ne_zero, Nat.reduceEqDiff]
  refine ⟨by omega, fun h1 => ⟨by omega, ?_⟩, fun h1 => ⟨by omega, ?_⟩⟩
  · simp only [k85_51, k85_52, k85_53, c83 hT, q_kn_n, k85_56, k85_57]
    have : t_wk f a (t_run t_let f n a - a) = f a := by rw [h1]; rfl
    rw [this] at kk
    exact kk
  · refine c86 ha h1 (by omega) hn hb ?_
    simp only [q_kn_v, k85_51, k85_52, k85_53, c83 hT, q_kn_n, k85_56, k85_57]
    exact kk
/-- a number's worth, as far as it is read -/
def nwp (f : Int → Int) (a e : Int) : Int := if e = a then 0 else if e = a + 1 then f a - 48 else if e = a + 2 then (f a - 48) * 10 + (f (a + 1) - 48) else 0
theorem c82_l (ha : 0 ≤ a) (hs : σ 5 1 = n) (hn : n ≤ 400) (hb : BYT f (σ 1) n) : ∀ (d : Nat) (e : Int), (n - e).toNat = d → a ≤ e → e ≤ n → (∀ i, a ≤ i → i < e → t_dg (f i) = true) → qx sc (D + 1) 82 52 [vr 5, vi a, vi (t_run t_dg f n e), vi (nwp f a (t_run t_dg f n e))] [] (0, 0) bb σ Q → qx sc (D + 1) 82 4 [vr 5, vi a, vi e, vi (nwp f a e)] [] (0, 0) bb σ Q := by
  intro d
  induction d with
  | zero =>
    intro e hd h1 h2 h3 kk
    rw [t_run_fix (by omega)] at kk
    rw [k82_4]
    simp only [k82_5, k82_6, k82_9, hs]
    exact ⟨fun h => by omega, fun _ => kk⟩
  | succ d ih =>
    intro e hd h1 h2 h3 kk
    rw [k82_4]
    simp only [k82_5, k82_6, k82_9, k82_12, k82_13, k82_14, k82_17, hs, c79 (show 0 ≤ e ∧ e < 400 by omega), q_kn_v, BYT_dg hb (show 0 ≤ e by omega) (show e < n by omega), true_implies, false_implies, not_true_eq_false, not_false_eq_true, true_and, and_true, implies_true, or_true, true_or, or_false, false_or, Int.reduceEq, Int.one_ne_zero, Nat.reduceEqDiff]
    refine ⟨fun h => ⟨fun hl => ?_, fun hl => ?_⟩, fun h => by omega⟩
    · have hge := (hb e (by omega) h).1
      have hl2 := t_dg_iff.mp hl
      rw [if_neg (by omega)] at hge
      rw [t_run_go h hl] at kk
      have next := ih (e + 1) (by omega) (by omega) (by omega) (fun i i1 i2 => by
        by_cases e' : i = e
        · rw [e']; exact hl
        · exact h3 i i1 (by omega)) kk
      have hw : nwp f a e ≤ 99 ∧ 0 ≤ nwp f a e := by
        unfold nwp
        by_cases e0 : e = a
        · rw [if_pos e0]; omega
        · have ha1 := t_dg_iff.mp (h3 a (by omega) (by omega))
          rw [if_neg e0]
          split
          · omega
          · split
            · have ha2 := t_dg_iff.mp (h3 (a + 1) (by omega) (by omega)); omega
            · omega
      simp only [k82_20, k82_21, k82_22, k82_23, k82_24, k82_27, k82_28, k82_30, k82_31, k82_32, k82_35, k82_36, k82_37, k82_38, k82_40, k82_41, k82_44, k82_45, k82_46, k82_49, qt_1, ql_1, hge, true_implies, false_implies, not_true_eq_false, not_false_eq_true, true_and, and_true, implies_true, or_true, true_or, or_false, false_or, Int.reduceEq, Int.one_ne_zero, Nat.reduceEqDiff]
      refine ⟨by omega, fun h4 => ⟨by omega, by omega, by omega, by omega, by omega, ?_⟩, fun h4 => ⟨by omega, ?_⟩⟩
      · have : nwp f a (e + 1) = nwp f a e * 10 + f e - 48 := by
          unfold nwp
          by_cases e0 : e = a
          · rw [if_neg (by omega), if_pos (by omega), if_pos e0, e0]; omega
          · rw [if_neg (by omega), if_neg (by omega), if_pos (by omega), if_neg e0, if_pos (by omega), show e = a + 1 by omega]; omega
        rw [← this]
        exact next
      · have : nwp f a (e + 1) = 0 := by
          unfold nwp
          rw [if_neg (by omega), if_neg (by omega), if_neg (by omega)]
        rw [← this]
        exact next
    · rw [t_run_fix (fun q => hl q.2)] at kk
      exact kk
theorem c82 (ha : 0 ≤ a) (hl : a < n) (hs : σ 5 1 = n) (hn : n ≤ 400) (hb : BYT f (σ 1) n) (hT : 0 ≤ σ 5 2 ∧ σ 5 2 < 401) (hdg : t_dg (f a) = true) (kk : ∀ w, (t_run t_dg f n a - a ≤ 2 → w = tw f n a) → Q (.inl (some (vi (t_run t_dg f n a)))) bb (PT σ (if t_run t_dg f n a - a ≤ 2 then 262 else 264) a w)) : qx sc (D + 2) 82 0 [vr 5, vi a, vn, vn] [] (0, 0) bb σ Q := by
  simp only [k82_0, k82_1, k82_2, k82_3]
  have e0 : nwp f a a = 0 := by unfold nwp; rw [if_pos rfl]
  have := c82_l (sc := sc) (D := D + 1) (bb := bb) (Q := Q) ha hs hn hb _ a rfl (Int.le_refl _) (by omega) (fun i i1 i2 => by omega)
  rw [e0] at this
  refine this ?_
  have e1 : t_run t_dg f n a = t_run t_dg f n (a + 1) := t_run_go hl hdg
  have e2 := t_run_ge (P := t_dg) (f := f) (n := n) (p := a + 1)
  have e3 := t_run_le (P := t_dg) (f := f) (n := n) (p := a + 1) (by omega)
  rw [← e1] at e2 e3
  have kk := kk (nwp f a (t_run t_dg f n a)) (fun h => by
    unfold nwp tw
    rw [if_neg (by omega)]
    split
    · rw [if_neg (by omega)]
    · rw [if_pos (by omega), if_pos (by omega)])
  simp only [k82_52, k82_53, k82_54, k82_55, k82_56, k82_57, k82_60, k82_63, k82_66, k82_69, k82_70, k82_71, c83 hT, q_kn_n, k82_74, k82_75]
  refine ⟨by omega, fun h => ?_, fun h => ?_⟩
  · rw [if_neg (by omega)] at kk
    exact kk
  · rw [if_pos (by omega)] at kk
    exact kk
end TKN
