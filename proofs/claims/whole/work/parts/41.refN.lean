/-! the rows that are told, and a whole text, in the reference -/
def bitsOf (pl : Int → Int) : Int := (if pl 0 = -1 then 0 else 1) + (if pl 1 = -1 then 0 else 2) + (if pl 2 = -1 then 0 else 4)
def toldN (pl : Int → Int) : Nat := (if pl 0 = -1 then 0 else 1) + (if pl 1 = -1 then 0 else 1) + (if pl 2 = -1 then 0 else 1)
theorem bit_of {pl : Int → Int} {k : Int} (hk : k = 0 ∨ k = 1 ∨ k = 2) : q_bit (bitsOf pl) k = if pl k = -1 then 0 else 1 := by
  unfold bitsOf
  rcases hk with rfl | rfl | rfl <;> by_cases h0 : pl 0 = -1 <;> by_cases h1 : pl 1 = -1 <;> by_cases h2 : pl 2 = -1 <;> simp only [h0, h1, h2, if_true, if_false] <;> decide +kernel
theorem or_of {pl : Int → Int} {k v : Int} (hk : k = 0 ∨ k = 1 ∨ k = 2) (h : pl k = -1) (hv : ¬ v = -1) : q_or (bitsOf pl) k = bitsOf (p_up pl k v) ∧ toldN (p_up pl k v) = toldN pl + 1 := by
  unfold bitsOf toldN p_up
  rcases hk with rfl | rfl | rfl
  · by_cases h1 : pl 1 = -1 <;> by_cases h2 : pl 2 = -1 <;> simp only [h, h1, h2, hv, if_true, if_false, Int.reduceEq] <;> decide +kernel
  · by_cases h1 : pl 0 = -1 <;> by_cases h2 : pl 2 = -1 <;> simp only [h, h1, h2, hv, if_true, if_false, Int.reduceEq] <;> decide +kernel
  · by_cases h1 : pl 0 = -1 <;> by_cases h2 : pl 1 = -1 <;> simp only [h, h1, h2, hv, if_true, if_false, Int.reduceEq] <;> decide +kernel
theorem toldN_le {pl : Int → Int} : toldN pl ≤ 3 := by
  unfold toldN
  split <;> split <;> split <;> decide
/-- the rows that are told, in the reference -/
def TR (r : St) (pl : Int → Int) : Prop := r 136 13 = bitsOf pl ∧ ∀ k, k = 0 ∨ k = 1 ∨ k = 2 → r 141 k = (if pl k = -1 then 0 else pl k) ∧ -1 ≤ pl k ∧ pl k ≤ 20
theorem TR_PL {r : St} {pl : Int → Int} (h : TR r pl) : PL r pl := by
  intro k h0 h1
  rw [h.1, bit_of (by omega)]
  split
  · rename_i e; exact ⟨fun _ => e, fun _ => rfl⟩
  · rename_i e; exact ⟨fun h => absurd h (by decide), fun h => absurd h e⟩
/-- two heaps that differ in the rows told alone -/
def FR (r r' : St) : Prop := ∀ a i, ¬ (a = 136 ∧ i = 13) → ¬ a = 141 → r' a i = r a i
theorem FR_refl {r : St} : FR r r := fun _ _ _ _ => rfl
theorem FR_trans {r r' r'' : St} (h1 : FR r r') (h2 : FR r' r'') : FR r r'' := fun a i a1 a2 => (h2 a i a1 a2).trans (h1 a i a1 a2)
theorem FR_up {r : St} {i x y z : Int} : FR r (q_up (q_up r 141 i x) 136 13 y) := by
  intro a j a1 a2
  rw [q_up_app, if_neg a1, q_up_ne _ _ _ _ a2]
theorem FR_139 {r r' : St} (h : FR r r') : r' 139 = r 139 := funext fun i => h 139 i (by omega) (by decide)
theorem FR_6 {r r' : St} (h : FR r r') : r' 136 6 = r 136 6 := h 136 6 (by omega) (by decide)
theorem FR_RH {r r' : St} (h : FR r r') (hr : RH r) : RH r' := by
  unfold RH at *
  rw [FR_6 h, FR_139 h]
  exact hr
theorem FR_RA {r r' : St} (h : FR r r') {α : Type} {x : PX α} {p ft : Int} : RA r' x p ft ↔ RA r x p ft := by
  unfold RA
  rw [FR_6 h, FR_139 h]
section RN
variable {sc : Nat × (Nat → Int32)} {D : Nat} {bb : Bool} {S : St} {dp : Int}
theorem m_207 {f : Int → Int} {n : Int} : ∀ (k : Nat) (r : St) (pl : Int → Int) (p b ft q : Int) (Q : QP) (l1 : V2), 4 ≤ k + toldN pl → RH r → r 139 = f → r 136 6 = n → TR r pl → RA r (.inr ((), q) : PX Unit) p ft →
    (∀ r' p' b' ft', FR r r' → RA r' (p_rs f n k pl q) p' ft' → (∀ pl' z, p_rs f n k pl q = .inr (pl', z) → TR r' pl') → Q (.inl none) bb (RP S r' p' b' ft' dp)) →
    qx sc (D + 5) 207 0 [vr 136, l1] [] (0, 0) bb (RP S r p b ft dp) Q := by
  intro k
  induction k with
  | zero =>
    intro r pl p b ft q Q l1 hk
    have := toldN_le (pl := pl)
    omega
  | succ k ih =>
    intro r pl p b ft q Q l1 hk hr hf hn ht hx kk
    have hft : ft = -1 := hx.2.1
    simp only [k207_0, k207_1, k207_3]
    refine m_221 (c := 256) hr hx (by decide) (fun a q1 p1 b1 e1 t1 h1 => ?_) (fun p1 b1 e1 h1 => ?_)
    · cases e1
      rw [hf, hn] at t1 h1
      simp only [q_kn_v, k207_6, k207_9, k207_10, true_implies, false_implies, not_true_eq_false, not_false_eq_true, true_and, and_true, implies_true, or_true, true_or, or_false, false_or, Int.reduceEq, Int.one_ne_zero, Nat.reduceEqDiff]
      unfold p_rs at kk
      rw [if_pos t1] at kk
      refine m_164 hr h1 (fun a q2 p2 b2 e2 t2 h2 hp2 hb2 => ?_) (fun p2 b2 e2 h2 => ?_)
      · cases e2
        rw [hf, hn] at t2
        have hq2 : 0 ≤ nx f n q := by rw [← hp2]; exact h2.1
        have hby : t_by f n := by rw [← hf, ← hn]; exact hr.2.2
        have hrow := (tk_row hby hq2).mp t2
        have htk := te_row hby hq2 hrow
        have hn4 : n ≤ 400 := by rw [← hn]; exact hr.2.1
        have hk3 : f (nx f n q) - 65 = 0 ∨ f (nx f n q) - 65 = 1 ∨ f (nx f n q) - 65 = 2 := by omega
        rw [htk.1] at kk
        have hfx : r 139 (nx f n q) = f (nx f n q) := by rw [hf]
        simp only [q_kn_v, k207_13, k207_16, k207_17, k207_20, k207_21, k207_24, k207_25, k207_28, k207_29, k207_31, k207_32, k207_33, k207_34, k207_35, k207_36, RP_told, RP_p, RP_src, qt_139, ql_139, q_bit_fold, hp2, ht.1, hfx, bit_of hk3, true_implies, false_implies, not_true_eq_false, not_false_eq_true, true_and, and_true, implies_true, or_true, true_or, or_false, false_or, Int.reduceEq, Int.one_ne_zero, Nat.reduceEqDiff]
        refine ⟨by omega, by omega, fun hbit => ?_, fun hbit => ?_⟩
        · simp only [k207_39, k207_40, c148, q_kn_n, k207_43]
          have hne : ¬ pl (f (nx f n q) - 65) = -1 := by
            intro e
            rw [if_pos e] at hbit
            exact absurd hbit (by decide)
          rw [if_neg (fun h => hne h.2)] at kk
          simp only [if_true]
          refine kk r _ _ _ FR_refl ?_ (fun pl' z e => by cases e)
          rw [hb2]
          exact ⟨hq2, rfl, hq2⟩
        · have hpl : pl (f (nx f n q) - 65) = -1 := by
            by_cases e : pl (f (nx f n q) - 65) = -1
            · exact e
            · rw [if_neg e] at hbit
              exact absurd rfl hbit
          rw [if_pos ⟨by omega, hpl⟩] at kk
          simp only [k207_44, k207_45, k207_48, k207_49, k207_52, k207_53, k207_55, k207_56, k207_57, k207_58, k207_59, k207_62, k207_63, k207_64, k207_67, k207_68, k207_71, k207_72, k207_73, k207_75, RP_p, RP_src, RP_upp, qt_139, ql_139, hfx, true_implies, false_implies, not_true_eq_false, not_false_eq_true, true_and, and_true, implies_true, or_true, true_or, or_false, false_or, Int.reduceEq, Int.one_ne_zero, Nat.reduceEqDiff]
          refine ⟨by omega, by omega, by omega, ?_⟩
          have h2' : RA r (.inr ((), nx f n (nx f n q)) : PX Unit) (nx f n q + 1) (-1) := by
            refine ⟨by omega, rfl, ?_⟩
            rw [hf, hn, ← htk.2]
            rfl
          refine m_189 hr h2' (fun v p3 b3 ft3 h3 v1 v2 v3 => ?_)
          simp only [p_b_inr] at h3 v1
          rw [hf, hn] at h3 v1
          simp only [q_kn_v, k207_78, k207_79, k207_80, k207_81, k207_84, k207_85, k207_86, k207_87, k207_88, k207_91, k207_92, k207_94, RP_p, RP_b, RP_ft, RP_dp, RP_n, RP_told, RP_src, RP_least, RP_14, RP_15, RP_16, RP_17, RP_18, RP_49, RP_51, RP_c142, RP_u142, RP_c143, RP_u143, RP_c144, RP_u144, RP_c145, RP_u145, RP_c146, RP_u146, RP_c147, RP_u147, RP_c148, RP_u148, RP_c149, RP_u149, RP_c150, RP_u150, RP_c151, RP_u151, RP_c152, RP_u152, RP_c153, RP_u153, RP_c154, RP_u154, RP_c155, RP_u155, RP_c156, RP_u156, RP_c157, RP_u157, RP_c158, RP_u158, RP_c159, RP_u159, RP_c160, RP_u160, RP_c161, RP_u161, RP_c162, RP_u162, RP_c163, RP_u163, RP_c164, RP_u164, RP_c165, RP_u165, RP_c166, RP_u166, RP_c167, RP_u167, RP_c168, RP_u168, RP_c169, RP_u169, RP_c170, RP_u170, RP_c171, RP_u171, RP_c172, RP_u172, RP_upp, RP_upb, RP_upft, RP_updp, RP_uptold, RP_upleast, RP_up14, RP_up15, RP_up16, RP_up17, RP_up18, RP_up49, RP_up51, q_up_ne, not_false_eq_true, Nat.reduceEqDiff, ht.1, q_or_fold, qt_141, ql_141, true_implies, false_implies, not_true_eq_false, not_false_eq_true, true_and, and_true, implies_true, or_true, true_or, or_false, false_or, Int.reduceEq, Int.one_ne_zero, Nat.reduceEqDiff]
          refine ⟨by omega, ?_⟩
          have hfr : FR r (q_up (q_up r 141 (f (nx f n q) - 65) v) 136 13 (q_or (bitsOf pl) (f (nx f n q) - 65))) := FR_up (z := 0)
          obtain ⟨o1, o2⟩ := or_of (v := v) hk3 hpl (by omega)
          generalize hr' : q_up (q_up r 141 (f (nx f n q) - 65) v) 136 13 (q_or (bitsOf pl) (f (nx f n q) - 65)) = r' at *
          have hf' : r' 139 = f := by rw [FR_139 hfr, hf]
          have hn' : r' 136 6 = n := by rw [FR_6 hfr, hn]
          have hrr := FR_RH hfr hr
          refine m_127 hrr ((FR_RA hfr).mpr h3) (by decide) (by decide) (by decide) (by decide) (fun p4 b4 ft4 h4 => ?_)
          rw [hf', hn'] at h4
          simp only [q_kn_n, k207_97, k207_98]
          have tr' : ∀ v' z', p_nu f n 20 (nx f n (nx f n q)) = .inr (v', z') → TR r' (p_up pl (f (nx f n q) - 65) v') := by
            intro v' z' e
            have hvv := v1 v' z' e
            subst hvv
            have hv20 : v ≤ 20 := by
              unfold p_nu at e
              split at e
              · rename_i hc; cases e; exact hc.2
              · cases e
            refine ⟨?_, fun k3 hk3' => ?_⟩
            · rw [← hr', q_up_eq, o1]
            · rw [← hr', q_up_ne _ _ _ _ (by decide), q_up_app]
              unfold p_up
              by_cases e3 : k3 = f (nx f n q) - 65
              · simp only [e3, and_self, if_true]
                rw [if_neg (by omega)]
                exact ⟨rfl, by omega, hv20⟩
              · simp only [e3, and_false, if_false]
                exact ht.2 k3 hk3'
          refine m_154 h4 (fun q5 eq5 ef5 => ?_) (fun a5 q5 eq5 ef5 => ?_)
          · simp only [q_kn_v, k207_101, k207_104, true_implies, false_implies, not_true_eq_false, not_false_eq_true, true_and, and_true, implies_true, or_true, true_or, or_false, false_or, Int.reduceEq, Int.one_ne_zero, Nat.reduceEqDiff]
            generalize p_nu f n 20 (nx f n (nx f n q)) = Y at *
            rcases Y with y | ⟨y, z⟩
            · exact kk r' _ _ _ hfr h4 (fun pl' z e => by cases e)
            · simp only [p_b_inr] at kk h4 eq5
              rw [eq5] at kk h4
              exact kk r' _ _ _ hfr h4 (fun pl' z e => by cases e)
          · simp only [q_kn_v, k207_101, k207_105, true_implies, false_implies, not_true_eq_false, not_false_eq_true, true_and, and_true, implies_true, or_true, true_or, or_false, false_or, Int.reduceEq, Int.one_ne_zero, Nat.reduceEqDiff]
            generalize p_nu f n 20 (nx f n (nx f n q)) = Y at *
            rcases Y with y | ⟨y, z⟩
            · cases eq5
            · have := v1 y z rfl
              subst this
              simp only [p_b_inr] at kk h4 eq5
              rw [eq5] at kk h4
              simp only [p_b_inr] at kk
              refine ih r' _ _ _ _ q5 _ _ (by omega) hrr hf' hn' (tr' v z rfl) ⟨h4.1, h4.2⟩ (fun r'' p' b' ft' g1 g2 g3 => ?_)
              exact kk r'' p' b' ft' (FR_trans hfr g1) g2 g3
      · obtain ⟨t2, hb2⟩ := e2 () _ rfl
        rw [hf, hn] at t2
        simp only [q_kn_v, k207_13, k207_39, k207_40, c148, q_kn_n, k207_43, true_implies, false_implies, not_true_eq_false, not_false_eq_true, true_and, and_true, implies_true, or_true, true_or, or_false, false_or, Int.reduceEq, Int.one_ne_zero, Nat.reduceEqDiff]
        rw [if_neg (fun h => t2 h.1)] at kk
        simp only [if_true]
        have hq2 : 0 ≤ nx f n q := by
          have := h2.2.2
          rw [hf, hn] at this
          rw [← this]
          have := sk_0 (r := r) h2.1
          rw [hf, hn] at this
          exact this
        refine kk r _ _ _ FR_refl ?_ (fun pl' z e => by cases e)
        rw [hb2]
        exact ⟨h2.1, rfl, hq2⟩
    · simp only [q_kn_v, k207_6, k207_108, true_implies, false_implies, not_true_eq_false, not_false_eq_true, true_and, and_true, implies_true, or_true, true_or, or_false, false_or, Int.reduceEq, Int.one_ne_zero, Nat.reduceEqDiff]
      have t1 := (e1 () q rfl).1
      rw [hf, hn] at t1
      unfold p_rs at kk
      rw [if_neg t1] at kk
      refine kk r _ _ _ FR_refl ⟨h1.1, h1.2⟩ (fun pl' z e => ?_)
      cases e
      exact ht
end RN
