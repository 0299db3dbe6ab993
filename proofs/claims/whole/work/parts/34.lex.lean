/-! the reference's words, numbers and signs -/
def RH (r : St) : Prop := 0 ≤ r 136 6 ∧ r 136 6 ≤ 400 ∧ t_by (r 139) (r 136 6)
section LX
variable {sc : Nat × (Nat → Int32)} {D : Nat} {bb : Bool} {S r σ : St} {Q : QP} {p b ft dp x lo hi : Int}
theorem c154 : qx sc D 154 0 [vr 136] [] (0, 0) bb σ Q ↔ (¬ σ 136 10 = -1 → Q (.inl (some (vi 1))) bb σ) ∧ (σ 136 10 = -1 → Q (.inl (some (vi 0))) bb σ) := by
  simp only [k154_0, k154_1, k154_4, k154_5, k154_8, k154_9, k154_12, k154_13]
  grind
theorem c159 (hr : RH r) (hp : 0 ≤ p) : qx sc D 159 0 [vr 136, vi lo, vi hi] [] (0, 0) bb (RP S r p b ft dp) Q ↔ (p < r 136 6 ∧ lo ≤ r 139 p ∧ r 139 p ≤ hi → Q (.inl (some (vi 1))) bb (RP S r p b ft dp)) ∧ (¬ (p < r 136 6 ∧ lo ≤ r 139 p ∧ r 139 p ≤ hi) → Q (.inl (some (vi 0))) bb (RP S r p b ft dp)) := by
  have h1 := hr.2.1
  simp only [k159_0, k159_1, k159_4, k159_5, k159_8, k159_11, k159_12, k159_15, k159_16, k159_19, k159_20, k159_21, k159_24, k159_25, k159_28, k159_29, k159_32, k159_33, k159_34, k159_37, k159_38, k159_41, k159_42, RP_p, RP_n, RP_src, qt_139, ql_139]
  grind
theorem c148 : qx sc D 148 0 [vr 136] [] (0, 0) bb (RP S r p b ft dp) Q ↔ Q (.inl none) bb (RP S r p b (if ft = -1 then b else ft) dp) := by
  simp only [k148_0, k148_1, k148_4, k148_5, k148_8, k148_9, k148_10, k148_13, k148_16, RP_ft, RP_b, RP_upft]
  by_cases h : ft = -1 <;> simp [h]
theorem c130_1 (hr : RH r) (hp : 0 ≤ p) : qx sc (D + 1) 130 0 [vr 136] [] (0, 0) bb (RP S r p b ft dp) Q ↔ (p < r 136 6 ∧ t_bl (r 139 p) = true → qx sc (D + 1) 130 0 [vr 136] [] (0, 0) bb (RP S r (p + 1) b ft dp) Q) ∧ (¬ (p < r 136 6 ∧ t_bl (r 139 p) = true) → Q (.inl none) bb (RP S r p p ft dp)) := by
  have h1 := hr.2.1
  rw [k130_0]
  simp only [k130_1, k130_3, k130_5, k130_8, k130_11, k130_12, k130_14, k130_16, k130_19, k130_22, k130_23, k130_24, k130_27, k130_28, k130_29, k130_32, k130_35, k130_36, k130_37, k130_40, k130_43, c159 hr hp, q_kn_v, RP_p, RP_upp, RP_upb, t_bl_iff]
  grind
theorem c130_2 (hr : RH r) : ∀ (k : Nat) (p b : Int), 0 ≤ p → (r 136 6 - p).toNat = k → (qx sc (D + 1) 130 0 [vr 136] [] (0, 0) bb (RP S r p b ft dp) Q ↔ Q (.inl none) bb (RP S r (sk (r 139) (r 136 6) p) (sk (r 139) (r 136 6) p) ft dp)) := by
  intro k
  induction k with
  | zero =>
    intro p b hp hk
    rw [c130_1 hr hp, show sk (r 139) (r 136 6) p = p from t_run_fix (by omega)]
    grind
  | succ k ih =>
    intro p b hp hk
    rw [c130_1 hr hp]
    by_cases h : t_bl (r 139 p) = true
    · rw [show sk (r 139) (r 136 6) p = sk (r 139) (r 136 6) (p + 1) from t_run_go (by omega) h, ← ih (p + 1) b (by omega) (by omega)]
      grind
    · rw [show sk (r 139) (r 136 6) p = p from t_run_fix (fun q => h q.2)]
      grind
theorem c130 (hr : RH r) (hp : 0 ≤ p) : qx sc (D + 1) 130 0 [vr 136] [] (0, 0) bb (RP S r p b ft dp) Q ↔ Q (.inl none) bb (RP S r (sk (r 139) (r 136 6) p) (sk (r 139) (r 136 6) p) ft dp) := c130_2 hr _ p b hp rfl
theorem sk_0 (hp : 0 ≤ p) : 0 ≤ sk (r 139) (r 136 6) p := Int.le_trans hp sk_ge
theorem c219 (hr : RH r) (hp : 0 ≤ p) : qx sc (D + 2) 219 0 [vr 136, vi x] [] (0, 0) bb (RP S r p b ft dp) Q ↔
    (ft = -1 ∧ sk (r 139) (r 136 6) p < r 136 6 ∧ r 139 (sk (r 139) (r 136 6) p) = x → Q (.inl (some (vi 1))) bb (RP S r (sk (r 139) (r 136 6) p + 1) (sk (r 139) (r 136 6) p) ft dp)) ∧
    (¬ (ft = -1 ∧ sk (r 139) (r 136 6) p < r 136 6 ∧ r 139 (sk (r 139) (r 136 6) p) = x) → Q (.inl (some (vi 0))) bb (RP S r (sk (r 139) (r 136 6) p) (sk (r 139) (r 136 6) p) ft dp)) := by
  have h1 := hr.2.1
  have h2 := sk_0 (r := r) hp
  simp only [k219_0, k219_1, k219_4, k219_5, k219_8, k219_11, k219_12, k219_13, k219_14, k219_17, k219_20, k219_21, k219_22, k219_23, k219_24, k219_27, k219_28, k219_29, k219_32, k219_33, c130 hr hp, c154, c159 hr h2, q_kn_v, q_kn_n, RP_p, RP_ft, RP_upp]
  grind
theorem c127 (hr : RH r) (hp : 0 ≤ p) : qx sc (D + 3) 127 0 [vr 136, vi x] [] (0, 0) bb (RP S r p b ft dp) Q ↔
    (¬ ft = -1 → Q (.inl none) bb (RP S r p b ft dp)) ∧
    (ft = -1 → (sk (r 139) (r 136 6) p < r 136 6 ∧ r 139 (sk (r 139) (r 136 6) p) = x → Q (.inl none) bb (RP S r (sk (r 139) (r 136 6) p + 1) (sk (r 139) (r 136 6) p) ft dp)) ∧
    (¬ (sk (r 139) (r 136 6) p < r 136 6 ∧ r 139 (sk (r 139) (r 136 6) p) = x) → Q (.inl none) bb (RP S r (sk (r 139) (r 136 6) p) (sk (r 139) (r 136 6) p) (sk (r 139) (r 136 6) p) dp))) := by
  simp only [k127_0, k127_1, k127_4, k127_7, k127_8, k127_9, k127_12, k127_15, k127_16, k127_19, c154, c219 hr hp, c148, q_kn_v, q_kn_n, RP_ft]
  grind
theorem c231_1 (hr : RH r) {q : Int} : ∀ (m : Nat) (k : Int), 0 ≤ q → q ≤ k → (k = q ∨ k ≤ r 136 6) → (r 136 6 - k).toNat = m → (qx sc D 231 9 [vr 136, vi k] [] (0, 0) bb (RP S r q b ft dp) Q ↔ Q (.inl (some (vi (t_run t_let (r 139) (r 136 6) k - q)))) bb (RP S r q b ft dp)) := by
  have h1 := hr.2.1
  intro m
  induction m with
  | zero =>
    intro k hq hk hk2 hm
    rw [t_run_fix (by omega), k231_9]
    simp only [k231_0, k231_1, k231_4, k231_5, k231_8, k231_10, k231_11, k231_14, k231_17, k231_18, k231_21, k231_22, k231_23, k231_25, k231_28, k231_29, k231_32, k231_33, k231_34, k231_36, k231_39, k231_42, k231_45, k231_46, k231_47, k231_50, k231_51, RP_p, RP_n, RP_src, qt_139, ql_139]
    grind
  | succ m ih =>
    intro k hq hk hk2 hm
    have e := ih (k + 1) hq (by omega) (by omega) (by omega)
    rw [k231_9]
    simp only [k231_0, k231_1, k231_4, k231_5, k231_8, k231_10, k231_11, k231_14, k231_17, k231_18, k231_21, k231_22, k231_23, k231_25, k231_28, k231_29, k231_32, k231_33, k231_34, k231_36, k231_39, k231_42, k231_45, k231_46, k231_47, k231_50, k231_51, RP_p, RP_n, RP_src, qt_139, ql_139, e]
    by_cases h : t_let (r 139 k) = true
    · rw [t_run_go (p := k) (by omega) h]
      rw [t_let_iff] at h
      grind
    · rw [t_run_fix (p := k) (fun q => h q.2)]
      rw [t_let_iff] at h
      grind
theorem c231 (hr : RH r) (hp : 0 ≤ p) : qx sc (D + 2) 231 0 [vr 136, vn] [] (0, 0) bb (RP S r p b ft dp) Q ↔ Q (.inl (some (vi (t_run t_let (r 139) (r 136 6) (sk (r 139) (r 136 6) p) - sk (r 139) (r 136 6) p)))) bb (RP S r (sk (r 139) (r 136 6) p) (sk (r 139) (r 136 6) p) ft dp) := by
  have h2 := sk_0 (r := r) hp
  simp only [k231_0, k231_1, c130 hr hp, q_kn_n, k231_4, k231_5, RP_p, k231_8]
  exact c231_1 hr _ _ h2 (Int.le_refl _) (Or.inl rfl) rfl
/-- the letters of a word, from the k-th on -/
theorem c169_1 (hr : RH r) {q : Int} {j : Nat} (hj : j < 12) (hq : 0 ≤ q) (hl : q + (pm_tx.getD j []).length ≤ r 136 6) : ∀ (m k : Nat), (pm_tx.getD j []).length - k = m → k ≤ (pm_tx.getD j []).length → (qx sc D 169 26 [vr 136, vr (q_tr j), vi 1, vi (k : Int)] [] (0, 0) bb (RP S r q b ft dp) Q ↔
    ((∀ i : Nat, k ≤ i → i < (pm_tx.getD j []).length → r 139 (q + i) = (((pm_tx.getD j []).getD i 0 : Nat) : Int)) → Q (.inl (some (vi 1))) bb (RP S r q b ft dp)) ∧
    (¬ (∀ i : Nat, k ≤ i → i < (pm_tx.getD j []).length → r 139 (q + i) = (((pm_tx.getD j []).getD i 0 : Nat) : Int)) → Q (.inl (some (vi 0))) bb (RP S r q b ft dp))) := by
  have h1 := hr.2.1
  intro m
  induction m with
  | zero =>
    intro k hm hk
    have e : k = (pm_tx.getD j []).length := by omega
    have e2 : ∀ i : Nat, k ≤ i → i < (pm_tx.getD j []).length → r 139 (q + i) = (((pm_tx.getD j []).getD i 0 : Nat) : Int) := fun i h2 h3 => by omega
    rw [k169_26]
    simp only [k169_0, k169_1, k169_4, k169_7, k169_8, k169_11, k169_12 hj, k169_15, k169_18, k169_19, k169_22, k169_23, k169_24, k169_25, k169_27, k169_30, k169_31, k169_32 hj, k169_35, k169_38, k169_39, k169_42, k169_43, k169_46, k169_47, k169_48, k169_49, k169_50, k169_51 hj, k169_54, k169_57, k169_58, k169_61, k169_62, k169_63, k169_66, k169_69, k169_70]
    have e3 : ¬ ((k : Int) < (((pm_tx.getD j []).length : Nat) : Int)) := by omega
    simp only [e3, true_implies, false_implies, not_true_eq_false, not_false_eq_true, true_and, and_true, implies_true, or_true, true_or, or_false, false_or, Int.reduceEq, Int.one_ne_zero, Nat.reduceEqDiff]
    exact ⟨fun h => ⟨fun _ => h, fun h2 => absurd e2 h2⟩, fun h => h.1 e2⟩
  | succ m ih =>
    intro k hm hk
    have e := ih (k + 1) (by omega) (by omega)
    rw [show ((k + 1 : Nat) : Int) = (k : Int) + 1 by omega] at e
    have e3 : (k : Int) < (((pm_tx.getD j []).length : Nat) : Int) := by omega
    rw [k169_26]
    simp only [k169_0, k169_1, k169_4, k169_7, k169_8, k169_11, k169_12 hj, k169_15, k169_18, k169_19, k169_22, k169_23, k169_24, k169_25, k169_27, k169_30, k169_31, k169_32 hj, k169_35, k169_38, k169_39, k169_42, k169_43, k169_46, k169_47, k169_48, k169_49, k169_50, k169_51 hj, k169_54, k169_57, k169_58, k169_61, k169_62, k169_63, k169_66, k169_69, k169_70, RP_p, RP_src, qt_139, ql_139, Int.toNat_natCast]
    have z : qx sc D 169 26 [vr 136, vr (q_tr j), vi 0, vi ((k : Int) + 1)] [] (0, 0) bb (RP S r q b ft dp) Q ↔ Q (.inl (some (vi 0))) bb (RP S r q b ft dp) := by
      rw [k169_26]
      simp only [k169_0, k169_1, k169_4, k169_7, k169_8, k169_11, k169_12 hj, k169_15, k169_18, k169_19, k169_22, k169_23, k169_24, k169_25, k169_27, k169_30, k169_31, k169_32 hj, k169_35, k169_38, k169_39, k169_42, k169_43, k169_46, k169_47, k169_48, k169_49, k169_50, k169_51 hj, k169_54, k169_57, k169_58, k169_61, k169_62, k169_63, k169_66, k169_69, k169_70]
      simp
    rw [e, z]
    have r1 : q_R (q + (k : Int)) := by constructor <;> omega
    have r2 : q_R ((k : Int) + 1) := by constructor <;> omega
    have r3 : 0 ≤ q + (k : Int) ∧ q + (k : Int) < 400 := by omega
    have r4 : (0 : Int) ≤ (k : Int) := by omega
    simp only [true_implies, false_implies, not_true_eq_false, not_false_eq_true, true_and, and_true, implies_true, or_true, true_or, or_false, false_or, Int.reduceEq, Int.one_ne_zero, Nat.reduceEqDiff, e3, r1, r2, r3, r4]
    by_cases h : r 139 (q + k) = (((pm_tx.getD j []).getD k 0 : Nat) : Int)
    · have e4 : (∀ i : Nat, k ≤ i → i < (pm_tx.getD j []).length → r 139 (q + i) = (((pm_tx.getD j []).getD i 0 : Nat) : Int)) ↔ (∀ i : Nat, k + 1 ≤ i → i < (pm_tx.getD j []).length → r 139 (q + i) = (((pm_tx.getD j []).getD i 0 : Nat) : Int)) := by
        constructor
        · intro h1 i h2 h3; exact h1 i (by omega) h3
        · intro h1 i h2 h3
          by_cases e : i = k
          · rw [e]; exact h
          · exact h1 i (by omega) h3
      rw [e4]
      exact ⟨fun x => (x.2.1 h).2, fun x => ⟨r1, fun _ => ⟨r2, x⟩, fun hn => absurd h hn⟩⟩
    · have e4 : ¬ (∀ i : Nat, k ≤ i → i < (pm_tx.getD j []).length → r 139 (q + i) = (((pm_tx.getD j []).getD i 0 : Nat) : Int)) := fun q => h (q k (by omega) (by omega))
      simp only [e4, h, true_implies, false_implies, not_true_eq_false, not_false_eq_true, true_and, and_true, implies_true, or_true, true_or, or_false, false_or, Int.reduceEq, Int.one_ne_zero, Nat.reduceEqDiff]
      exact ⟨fun x => x.2.2, fun x => ⟨r1, r2, x⟩⟩
/-- whether a word stands there -/
def t_is (r : St) (q : Int) (j : Nat) : Prop := t_run t_let (r 139) (r 136 6) q - q = ((pm_tx.getD j []).length : Nat) ∧ t_w (r 139) q (pm_tx.getD j []) = true
theorem c169 (hr : RH r) (hp : 0 ≤ p) {j : Nat} (hj : j < 12) : qx sc (D + 3) 169 0 [vr 136, vr (q_tr j), vn, vn] [] (0, 0) bb (RP S r p b ft dp) Q ↔
    (¬ ft = -1 → Q (.inl (some (vi 0))) bb (RP S r p b ft dp)) ∧
    (ft = -1 → (t_is r (sk (r 139) (r 136 6) p) j → Q (.inl (some (vi 1))) bb (RP S r (sk (r 139) (r 136 6) p) (sk (r 139) (r 136 6) p) ft dp)) ∧
      (¬ t_is r (sk (r 139) (r 136 6) p) j → Q (.inl (some (vi 0))) bb (RP S r (sk (r 139) (r 136 6) p) (sk (r 139) (r 136 6) p) ft dp))) := by
  have h2 := sk_0 (r := r) hp
  have z : ∀ (σ : St), qx sc (D + 3) 169 26 [vr 136, vr (q_tr j), vi 0, vi 0] [] (0, 0) bb σ Q ↔ Q (.inl (some (vi 0))) bb σ := by
    intro σ
    rw [k169_26]
    simp only [k169_0, k169_1, k169_4, k169_7, k169_8, k169_11, k169_12 hj, k169_15, k169_18, k169_19, k169_22, k169_23, k169_24, k169_25, k169_27, k169_30, k169_31, k169_32 hj, k169_35, k169_38, k169_39, k169_42, k169_43, k169_46, k169_47, k169_48, k169_49, k169_50, k169_51 hj, k169_54, k169_57, k169_58, k169_61, k169_62, k169_63, k169_66, k169_69, k169_70]
    simp
  simp only [k169_0, k169_1, c154, RP_ft, q_kn_v, k169_4, k169_7, k169_8, c231 hr hp, k169_11, k169_12 hj, k169_15, k169_18, k169_19, k169_22, k169_23, k169_24, k169_25, z]
  by_cases hft : ft = -1
  · by_cases hl : t_run t_let (r 139) (r 136 6) (sk (r 139) (r 136 6) p) - sk (r 139) (r 136 6) p = ((pm_tx.getD j []).length : Nat)
    · have hq : sk (r 139) (r 136 6) p + ((pm_tx.getD j []).length : Nat) ≤ r 136 6 := by
        by_cases hs : sk (r 139) (r 136 6) p ≤ r 136 6
        · have := t_run_le (P := t_let) (f := r 139) hs
          omega
        · rw [t_run_fix (by omega)] at hl
          have hz : ∀ j, j < 12 → 0 < (pm_tx.getD j []).length := by decide +kernel
          have := hz j hj
          omega
      have e := c169_1 (sc := sc) (D := D + 3) (bb := bb) (S := S) (b := sk (r 139) (r 136 6) p) (ft := ft) (dp := dp) (Q := Q) hr hj h2 hq _ 0 rfl (by omega)
      simp only [Int.natCast_zero] at e
      have e5 : t_is r (sk (r 139) (r 136 6) p) j ↔ ∀ i : Nat, 0 ≤ i → i < (pm_tx.getD j []).length → r 139 (sk (r 139) (r 136 6) p + i) = (((pm_tx.getD j []).getD i 0 : Nat) : Int) := by
        unfold t_is
        rw [t_w_iff]
        constructor
        · intro h i _ h3; exact h.2 i h3
        · intro h; exact ⟨hl, fun k hk => h k (by omega) hk⟩
      rw [e5]
      simp only [hft] at e ⊢
      grind
    · have e5 : ¬ t_is r (sk (r 139) (r 136 6) p) j := fun h => hl h.1
      grind
  · grind
theorem c221 (hr : RH r) (hp : 0 ≤ p) {j : Nat} (hj : j < 12) : qx sc (D + 4) 221 0 [vr 136, vr (q_tr j), vn] [] (0, 0) bb (RP S r p b ft dp) Q ↔
    (¬ ft = -1 → Q (.inl (some (vi 0))) bb (RP S r p b ft dp)) ∧
    (ft = -1 → (t_is r (sk (r 139) (r 136 6) p) j → Q (.inl (some (vi 1))) bb (RP S r (te (r 139) (r 136 6) (sk (r 139) (r 136 6) p)) (sk (r 139) (r 136 6) p) ft dp)) ∧
      (¬ t_is r (sk (r 139) (r 136 6) p) j → Q (.inl (some (vi 0))) bb (RP S r (sk (r 139) (r 136 6) p) (sk (r 139) (r 136 6) p) ft dp))) := by
  have h1 := hr.2.1
  have h2 := sk_0 (r := r) hp
  have hz : ∀ j, j < 12 → 0 < (pm_tx.getD j []).length := by decide +kernel
  have hz := hz j hj
  simp only [k221_0, k221_1, k221_2, k221_5, k221_6, k221_7, k221_10, k221_11, k221_12, k221_15, k221_16 hj, k221_19, k221_20, k221_23, k221_24, c169 hr hp hj, q_kn_v, RP_p, RP_upp]
  by_cases hi : t_is r (sk (r 139) (r 136 6) p) j
  · have e1 := te_word (f := r 139) (n := r 136 6) (p := sk (r 139) (r 136 6) p) (by have := hi.1; omega)
    have e2 : sk (r 139) (r 136 6) p ≤ r 136 6 := by
      by_cases hs : sk (r 139) (r 136 6) p ≤ r 136 6
      · exact hs
      · have := hi.1; rw [t_run_fix (by omega)] at this; omega
    have e3 := t_run_le (P := t_let) (f := r 139) e2
    have e4 := hi.1
    rw [e1, show t_run t_let (r 139) (r 136 6) (sk (r 139) (r 136 6) p) = sk (r 139) (r 136 6) p + ((pm_tx.getD j []).length : Nat) by omega]
    grind
  · grind
theorem c168 (hr : RH r) (hp : 0 ≤ p) : qx sc (D + 3) 168 0 [vr 136] [] (0, 0) bb (RP S r p b ft dp) Q ↔
    (¬ ft = -1 → Q (.inl (some (vi 0))) bb (RP S r p b ft dp)) ∧
    (ft = -1 → (97 ≤ tk (r 139) (r 136 6) (sk (r 139) (r 136 6) p) ∧ tk (r 139) (r 136 6) (sk (r 139) (r 136 6) p) ≤ 104 → Q (.inl (some (vi 1))) bb (RP S r (sk (r 139) (r 136 6) p) (sk (r 139) (r 136 6) p) ft dp)) ∧
      (¬ (97 ≤ tk (r 139) (r 136 6) (sk (r 139) (r 136 6) p) ∧ tk (r 139) (r 136 6) (sk (r 139) (r 136 6) p) ≤ 104) → Q (.inl (some (vi 0))) bb (RP S r (sk (r 139) (r 136 6) p) (sk (r 139) (r 136 6) p) ft dp))) := by
  have h1 := hr.2.1
  have h2 := sk_0 (r := r) hp
  have hv := tk_var hr.2.2 h2
  simp only [k168_0, k168_1, k168_4, k168_7, k168_8, k168_11, k168_12, k168_15, k168_16, k168_19, k168_20, k168_23, k168_24, k168_26, k168_29, k168_30, k168_33, k168_34, c154, c231 hr hp, q_kn_v, RP_ft, RP_p, RP_src, qt_139, ql_139, hv]
  have h3 : t_run t_let (r 139) (r 136 6) (sk (r 139) (r 136 6) p) - sk (r 139) (r 136 6) p = 1 → sk (r 139) (r 136 6) p < r 136 6 := by
    intro h
    by_cases hs : sk (r 139) (r 136 6) p < r 136 6
    · exact hs
    · rw [t_run_fix (by omega)] at h; omega
  grind
theorem c228 (hr : RH r) (hp : 0 ≤ p) : qx sc (D + 4) 228 0 [vr 136] [] (0, 0) bb (RP S r p b ft dp) Q ↔
    (¬ ft = -1 → Q (.inl (some (vi 0))) bb (RP S r p b ft dp)) ∧
    (ft = -1 → (97 ≤ tk (r 139) (r 136 6) (sk (r 139) (r 136 6) p) ∧ tk (r 139) (r 136 6) (sk (r 139) (r 136 6) p) ≤ 104 → Q (.inl (some (vi (tk (r 139) (r 136 6) (sk (r 139) (r 136 6) p) - 97)))) bb (RP S r (te (r 139) (r 136 6) (sk (r 139) (r 136 6) p)) (sk (r 139) (r 136 6) p) ft dp)) ∧
      (¬ (97 ≤ tk (r 139) (r 136 6) (sk (r 139) (r 136 6) p) ∧ tk (r 139) (r 136 6) (sk (r 139) (r 136 6) p) ≤ 104) → Q (.inl (some (vi 0))) bb (RP S r (sk (r 139) (r 136 6) p) (sk (r 139) (r 136 6) p) (sk (r 139) (r 136 6) p) dp))) := by
  have h1 := hr.2.1
  have h2 := sk_0 (r := r) hp
  simp only [k228_0, k228_1, k228_4, k228_7, k228_8, k228_9, k228_10, k228_13, k228_16, k228_17, k228_20, k228_21, k228_22, k228_23, k228_24, k228_27, k228_28, k228_29, k228_32, k228_33, k228_36, k228_37, k228_40, k228_41, k228_42, k228_43, k228_45, k228_46, c154, c168 hr hp, c148, q_kn_v, q_kn_n, RP_ft, RP_p, RP_src, RP_upp, qt_139, ql_139]
  by_cases hv : 97 ≤ tk (r 139) (r 136 6) (sk (r 139) (r 136 6) p) ∧ tk (r 139) (r 136 6) (sk (r 139) (r 136 6) p) ≤ 104
  · obtain ⟨e1, e2, e3, e4⟩ := te_var hr.2.2 h2 hv
    rw [e3, e2]
    have e5 : sk (r 139) (r 136 6) p + 1 - 1 = sk (r 139) (r 136 6) p := by omega
    simp only [e5]
    grind
  · grind
theorem c164 (hr : RH r) (hp : 0 ≤ p) : qx sc (D + 2) 164 0 [vr 136] [] (0, 0) bb (RP S r p b ft dp) Q ↔
    (ft = -1 ∧ 65 ≤ tk (r 139) (r 136 6) (sk (r 139) (r 136 6) p) ∧ tk (r 139) (r 136 6) (sk (r 139) (r 136 6) p) ≤ 67 → Q (.inl (some (vi 1))) bb (RP S r (sk (r 139) (r 136 6) p) (sk (r 139) (r 136 6) p) ft dp)) ∧
    (¬ (ft = -1 ∧ 65 ≤ tk (r 139) (r 136 6) (sk (r 139) (r 136 6) p) ∧ tk (r 139) (r 136 6) (sk (r 139) (r 136 6) p) ≤ 67) → Q (.inl (some (vi 0))) bb (RP S r (sk (r 139) (r 136 6) p) (sk (r 139) (r 136 6) p) ft dp)) := by
  have h2 := sk_0 (r := r) hp
  have hv := tk_row hr.2.2 h2
  simp only [k164_0, k164_1, k164_4, k164_5, k164_8, k164_11, k164_12, k164_14, k164_16, k164_19, k164_22, k164_23, k164_26, k164_27, c130 hr hp, c154, c159 hr h2, q_kn_v, q_kn_n, RP_ft, hv]
  grind
theorem c163 (hr : RH r) (hp : 0 ≤ p) : qx sc (D + 2) 163 0 [vr 136] [] (0, 0) bb (RP S r p b ft dp) Q ↔
    (ft = -1 ∧ sk (r 139) (r 136 6) p < r 136 6 ∧ t_dg (r 139 (sk (r 139) (r 136 6) p)) = true → Q (.inl (some (vi 1))) bb (RP S r (sk (r 139) (r 136 6) p) (sk (r 139) (r 136 6) p) ft dp)) ∧
    (¬ (ft = -1 ∧ sk (r 139) (r 136 6) p < r 136 6 ∧ t_dg (r 139 (sk (r 139) (r 136 6) p)) = true) → Q (.inl (some (vi 0))) bb (RP S r (sk (r 139) (r 136 6) p) (sk (r 139) (r 136 6) p) ft dp)) := by
  have h2 := sk_0 (r := r) hp
  simp only [k163_0, k163_1, k163_4, k163_5, k163_8, k163_11, k163_12, k163_14, k163_16, k163_19, k163_22, k163_23, k163_26, k163_27, c130 hr hp, c154, c159 hr h2, q_kn_v, q_kn_n, RP_ft, t_dg_iff]
  grind
def q_bit (m k : Int) : Int := (q_I (q_I m >>> (q_I k &&& 31)).toInt &&& q_I 1).toInt
theorem q_bit_fold {m k : Int} : (q_I (q_I m >>> (q_I k &&& 31)).toInt &&& q_I 1).toInt = q_bit m k := rfl
theorem c206 (hr : RH r) (hp : 0 ≤ p) : qx sc (D + 3) 206 0 [vr 136] [] (0, 0) bb (RP S r p b ft dp) Q ↔
    (¬ ft = -1 → Q (.inl (some (vi 0))) bb (RP S r p b ft dp)) ∧
    (ft = -1 → ((65 ≤ tk (r 139) (r 136 6) (sk (r 139) (r 136 6) p) ∧ tk (r 139) (r 136 6) (sk (r 139) (r 136 6) p) ≤ 67) ∧ ¬ q_bit (r 136 13) (tk (r 139) (r 136 6) (sk (r 139) (r 136 6) p) - 65) = 0 → Q (.inl (some (vi (tk (r 139) (r 136 6) (sk (r 139) (r 136 6) p) - 65)))) bb (RP S r (te (r 139) (r 136 6) (sk (r 139) (r 136 6) p)) (sk (r 139) (r 136 6) p) ft dp)) ∧
      (¬ ((65 ≤ tk (r 139) (r 136 6) (sk (r 139) (r 136 6) p) ∧ tk (r 139) (r 136 6) (sk (r 139) (r 136 6) p) ≤ 67) ∧ ¬ q_bit (r 136 13) (tk (r 139) (r 136 6) (sk (r 139) (r 136 6) p) - 65) = 0) → Q (.inl (some (vi 0))) bb (RP S r (sk (r 139) (r 136 6) p) (sk (r 139) (r 136 6) p) (sk (r 139) (r 136 6) p) dp))) := by
  have h1 := hr.2.1
  have h2 := sk_0 (r := r) hp
  simp only [k206_0, k206_1, k206_4, k206_7, k206_8, k206_9, k206_10, k206_13, k206_16, k206_17, k206_20, k206_21, k206_24, k206_25, k206_28, k206_29, k206_31, k206_32, k206_33, k206_34, k206_35, k206_38, k206_39, k206_42, k206_43, k206_44, k206_45, k206_46, k206_49, k206_50, k206_51, k206_54, k206_55, k206_58, k206_59, k206_62, k206_63, k206_64, k206_65, k206_67, k206_68, c154, c164 hr hp, c148, q_kn_v, q_kn_n, RP_ft, RP_p, RP_src, RP_upp, RP_told, qt_139, ql_139, q_bit_fold]
  by_cases hv : 65 ≤ tk (r 139) (r 136 6) (sk (r 139) (r 136 6) p) ∧ tk (r 139) (r 136 6) (sk (r 139) (r 136 6) p) ≤ 67
  · have hw := (tk_row hr.2.2 h2).mp hv
    obtain ⟨e2, e3⟩ := te_row hr.2.2 h2 hw
    rw [e3, e2]
    have e5 : sk (r 139) (r 136 6) p + 1 - 1 = sk (r 139) (r 136 6) p := by omega
    simp only [e5]
    grind
  · grind
theorem c189_1 (hr : RH r) {q most : Int} (hq : 0 ≤ q) : ∀ (m : Nat) (k v : Int), (r 136 6 - k).toNat = m → q ≤ k → (k = q ∨ k ≤ r 136 6) → 0 ≤ v → v ≤ 999 → (k = q → v = 0) → (k = q + 1 → v = r 139 q - 48 ∧ v ≤ 9) → (k = q + 2 → v = (r 139 q - 48) * 10 + (r 139 (q + 1) - 48) ∧ v ≤ 99) →
    (∀ v', 0 ≤ v' → v' ≤ 999 → (t_run t_dg (r 139) (r 136 6) k = q + 1 → v' = r 139 q - 48) → (t_run t_dg (r 139) (r 136 6) k = q + 2 → v' = (r 139 q - 48) * 10 + (r 139 (q + 1) - 48)) → qx sc (D + 1) 189 79 [vr 136, vi most, vi v'] [] (0, 0) bb (RP S r (t_run t_dg (r 139) (r 136 6) k) q ft dp) Q) →
    qx sc (D + 1) 189 24 [vr 136, vi most, vi v] [] (0, 0) bb (RP S r k q ft dp) Q := by
  have h1 := hr.2.1
  intro m
  induction m with
  | zero =>
    intro k v hm hk hk2 hv hv2 e0 e1 e2 kk
    rw [t_run_fix (by omega)] at kk
    rw [k189_24]
    have hk0 : 0 ≤ k := by omega
    simp only [k189_25, k189_27, k189_29, c159 hr hk0, q_kn_v, k189_32, true_implies, false_implies, not_true_eq_false, not_false_eq_true, true_and, and_true, implies_true, or_true, true_or, or_false, false_or, Int.reduceEq, Int.one_ne_zero, Nat.reduceEqDiff]
    exact ⟨fun h => by omega, fun _ => kk v hv hv2 (fun e => (e1 e).1) (fun e => (e2 e).1)⟩
  | succ m ih =>
    intro k v hm hk hk2 hv hv2 e0 e1 e2 kk
    have hk0 : 0 ≤ k := by omega
    have hkn : k < r 136 6 := by omega
    rw [k189_24]
    by_cases h : t_dg (r 139 k) = true
    · rw [t_run_go (p := k) hkn h] at kk
      have hd := t_dg_iff.mp h
      simp only [k189_25, k189_27, k189_29, c159 hr hk0, q_kn_v, k189_32, k189_35, k189_36, k189_39, k189_40, k189_43, k189_44, k189_45, k189_48, k189_50, k189_51, k189_52, k189_53, k189_56, k189_57, k189_60, k189_61, k189_62, k189_64, k189_65, k189_66, k189_67, k189_68, k189_71, k189_72, k189_73, k189_76, RP_p, RP_b, RP_src, RP_upp, qt_139, ql_139]
      simp only [true_implies, false_implies, not_true_eq_false, not_false_eq_true, true_and, and_true, implies_true, or_true, true_or, or_false, false_or, Int.reduceEq, Int.one_ne_zero, Nat.reduceEqDiff]
      refine ⟨fun _ => ?_, fun hn => absurd ⟨hkn, hd.1, hd.2⟩ hn⟩
      refine ⟨by omega, fun h3 => ⟨by omega, by omega, by omega, by omega, by omega, ?_⟩, fun h3 => ⟨by omega, ?_⟩⟩
      · refine ih (k + 1) _ (by omega) (by omega) (by omega) (by omega) ?_ (by omega) ?_ ?_ kk
        · by_cases a : k = q
          · have := e0 a; omega
          · by_cases a : k = q + 1
            · have := e1 a; omega
            · have := e2 (by omega); omega
        · intro a
          have a : k = q := by omega
          have := e0 a
          subst a
          omega
        · intro a
          have a : k = q + 1 := by omega
          have := e1 a
          subst a
          omega
      · exact ih (k + 1) _ (by omega) (by omega) (by omega) hv hv2 (by omega) (by omega) (by omega) kk
    · rw [t_run_fix (p := k) (fun q => h q.2)] at kk
      rw [t_dg_iff] at h
      simp only [k189_25, k189_27, k189_29, c159 hr hk0, q_kn_v, k189_32, true_implies, false_implies, not_true_eq_false, not_false_eq_true, true_and, and_true, implies_true, or_true, true_or, or_false, false_or, Int.reduceEq, Int.one_ne_zero, Nat.reduceEqDiff]
      exact ⟨fun h2 => absurd h2.2 h, fun _ => kk v hv hv2 (fun e => (e1 e).1) (fun e => (e2 e).1)⟩
theorem c189 (hr : RH r) (hp : 0 ≤ p) {most : Int}
    (g1 : ft = -1 → tk (r 139) (r 136 6) (sk (r 139) (r 136 6) p) = 262 → tw (r 139) (r 136 6) (sk (r 139) (r 136 6) p) ≤ most → Q (.inl (some (vi (tw (r 139) (r 136 6) (sk (r 139) (r 136 6) p))))) bb (RP S r (te (r 139) (r 136 6) (sk (r 139) (r 136 6) p)) (sk (r 139) (r 136 6) p) ft dp))
    (g2 : ft = -1 → ¬ (tk (r 139) (r 136 6) (sk (r 139) (r 136 6) p) = 262 ∧ tw (r 139) (r 136 6) (sk (r 139) (r 136 6) p) ≤ most) → ∀ v p', 0 ≤ v → v ≤ 999 → 0 ≤ p' → Q (.inl (some (vi v))) bb (RP S r p' (sk (r 139) (r 136 6) p) (sk (r 139) (r 136 6) p) dp))
    (g3 : ¬ ft = -1 → Q (.inl (some (vi 0))) bb (RP S r p b ft dp)) : qx sc (D + 3) 189 0 [vr 136, vi most, vn] [] (0, 0) bb (RP S r p b ft dp) Q := by
  have h1 := hr.2.1
  have h2 := sk_0 (r := r) hp
  have hn := tk_num hr.2.2 h2
  simp only [k189_0, k189_1, c154, RP_ft, q_kn_v, k189_4, k189_7, k189_8, k189_9, k189_10, c163 hr hp, k189_13, k189_16, k189_17, c148, q_kn_n, k189_20, k189_21, k189_22, k189_23, true_implies, false_implies, not_true_eq_false, not_false_eq_true, true_and, and_true, implies_true, or_true, true_or, or_false, false_or, Int.reduceEq, Int.one_ne_zero, Nat.reduceEqDiff]
  refine ⟨fun hf => g3 hf, fun hf => ?_⟩
  refine ⟨fun hd => ?_, fun hd => ?_⟩
  · have a1 := t_run_ge (P := t_dg) (f := r 139) (n := r 136 6) (p := sk (r 139) (r 136 6) p)
    have a2 : sk (r 139) (r 136 6) p + 1 ≤ t_run t_dg (r 139) (r 136 6) (sk (r 139) (r 136 6) p) := by
      rw [t_run_go hd.2.1 hd.2.2]
      exact t_run_ge
    have a3 := t_run_le (P := t_dg) (f := r 139) (n := r 136 6) (p := sk (r 139) (r 136 6) p) (by omega)
    refine c189_1 hr h2 _ _ 0 rfl (Int.le_refl _) (Or.inl rfl) (by omega) (by omega) (fun _ => rfl) (by omega) (by omega) ?_
    intro v' hv1 hv2 e1 e2
    have ew : t_run t_dg (r 139) (r 136 6) (sk (r 139) (r 136 6) p) - sk (r 139) (r 136 6) p ≤ 2 → v' = tw (r 139) (r 136 6) (sk (r 139) (r 136 6) p) := by
      intro h
      unfold tw
      split
      · exact e2 (by omega)
      · exact e1 (by omega)
    simp only [k189_79, k189_80, k189_83, k189_84, k189_87, k189_88, k189_89, k189_92, k189_93, k189_94, k189_97, k189_98, c148, q_kn_n, k189_101, k189_102, RP_p, RP_b]
    have g2 := g2 hf
    have g1 := g1 hf
    rw [if_pos hf]
    rw [te_num hd.2.1 hd.2.2] at g1
    refine ⟨by omega, fun h3 => ?_, fun h3 => ⟨fun h4 => ?_, fun h4 => ?_⟩⟩
    · exact g2 (fun h => by have := (hn.mp h.1).2.2; omega) v' _ hv1 hv2 (by omega)
    · refine g2 (fun h => ?_) v' _ hv1 hv2 (by omega)
      have := ew (by omega)
      omega
    · have e3 := ew (by omega)
      rw [e3]
      exact g1 (hn.mpr ⟨hd.2.1, hd.2.2, by omega⟩) (by omega)
  · rw [if_pos hf]
    refine g2 hf (fun h => ?_) 0 _ (by omega) (by omega) (by omega)
    have := hn.mp h.1
    exact hd ⟨hf, this.1, this.2.1⟩
end LX
